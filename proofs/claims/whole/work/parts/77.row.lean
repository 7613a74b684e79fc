-- rows of hands: the first of those in which fewest are masked
def mkN (T : aT) (a b : Nat) : Nat := if T.2.1 3 (6 * a + 5) = T.2.1 3 (6 * b) then 1 else 0
def mkO (T : aT) (o : Option Nat) (b : Nat) : Nat := match o with
  | none => 0
  | some a => mkN T a b
theorem mkO_1 (T : aT) (o : Option Nat) (b : Nat) : mkO T o b ≤ 1 := by
  cases o with
  | none => exact Nat.zero_le _
  | some a =>
    show (if _ then 1 else 0) ≤ 1
    split <;> omega
def cstO (T : aT) : Option Nat → List Nat → Nat
  | _, [] => 0
  | o, b :: l => mkO T o b + cstO T (some b) l
theorem cstO_le (T : aT) : ∀ (l : List Nat) (o : Option Nat), cstO T o l ≤ l.length := by
  intro l
  induction l with
  | nil => intro o; exact Nat.le_refl 0
  | cons b l ih =>
    intro o
    have := ih (some b)
    have := mkO_1 T o b
    show mkO T o b + cstO T (some b) l ≤ l.length + 1
    omega
theorem sl {r n b : Nat} (h : r < n) : r - b < n := Nat.lt_of_le_of_lt (Nat.sub_le _ _) h
def rof : Nat → List Nat → Prop
  | r, [] => pop6 r = 0
  | r, b :: l => r.testBit b = true ∧ rof (r - 2 ^ b) l
def bnx (p : Nat → Bool) (c : Nat → Nat) : Nat → Option Nat
  | 0 => none
  | i + 1 => if p i = true then (match bnx p c i with
      | none => some i
      | some b => if c b ≤ c i then some b else some i) else bnx p c i
theorem bnx_s (p : Nat → Bool) (c : Nat → Nat) (i : Nat) : bnx p c (i + 1) = if p i = true then (match bnx p c i with
      | none => some i
      | some b => if c b ≤ c i then some b else some i) else bnx p c i := rfl
theorem bnx_spec {p : Nat → Bool} {c : Nat → Nat} : ∀ n, (bnx p c n = none → ∀ i, i < n → p i = false) ∧ ∀ b, bnx p c n = some b → b < n ∧ p b = true ∧ ∀ i, i < n → p i = true → c b ≤ c i ∧ (i < b → c b < c i) := by
  intro n
  induction n with
  | zero => exact ⟨fun _ i hi => by omega, fun b e => by cases e⟩
  | succ n ih =>
    obtain ⟨h1, h2⟩ := ih
    rw [bnx_s]
    by_cases hp : p n = true
    · rw [if_pos hp]
      cases e : bnx p c n with
      | none =>
        have h1 := h1 e
        refine ⟨fun q => (by cases q), fun b q => ?_⟩
        cases q
        refine ⟨by omega, hp, fun i hi pi => ?_⟩
        have : i = n := by
          by_cases z : i = n
          · exact z
          · rw [h1 i (by omega)] at pi; cases pi
        subst this
        exact ⟨Nat.le_refl _, fun z => by omega⟩
      | some b =>
        obtain ⟨g1, g2, g3⟩ := h2 b e
        dsimp only
        by_cases q : c b ≤ c n
        · rw [if_pos q]
          refine ⟨fun z => (by cases z), fun b' z => ?_⟩
          cases z
          refine ⟨by omega, g2, fun i hi pi => ?_⟩
          by_cases z : i = n
          · subst z; exact ⟨q, fun z => by omega⟩
          · exact g3 i (by omega) pi
        · rw [if_neg q]
          refine ⟨fun z => (by cases z), fun b' z => ?_⟩
          cases z
          refine ⟨by omega, hp, fun i hi pi => ?_⟩
          by_cases z : i = n
          · subst z; exact ⟨Nat.le_refl _, fun z => by omega⟩
          · have := (g3 i (by omega) pi).1
            exact ⟨by omega, fun _ => by omega⟩
    · have hp : p n = false := by cases z : p n with
        | false => rfl
        | true => exact absurd z hp
      rw [if_neg (by rw [hp]; decide)]
      refine ⟨fun e i hi => ?_, fun b e => ?_⟩
      · by_cases z : i = n
        · subst z; exact hp
        · exact h1 e i (by omega)
      · obtain ⟨g1, g2, g3⟩ := h2 b e
        refine ⟨by omega, g2, fun i hi pi => ?_⟩
        by_cases z : i = n
        · subst z; rw [hp] at pi; cases pi
        · exact g3 i (by omega) pi
def opt (T : aT) : Nat → Nat → Option Nat → Nat
  | 0, _, _ => 0
  | m + 1, r, o => match bnx (fun i => r.testBit i) (fun i => mkO T o i + opt T m (r - 2 ^ i) (some i)) (T.1 0) with
    | none => 0
    | some b => mkO T o b + opt T m (r - 2 ^ b) (some b)
abbrev cc (T : aT) (m r : Nat) (o : Option Nat) (i : Nat) : Nat := mkO T o i + opt T m (r - 2 ^ i) (some i)
abbrev bn (T : aT) (m r : Nat) (o : Option Nat) : Option Nat := bnx (fun i => r.testBit i) (cc T m r o) (T.1 0)
theorem opt_some {T : aT} {m r : Nat} {o : Option Nat} {b : Nat} (h : bn T m r o = some b) : opt T (m + 1) r o = cc T m r o b := by
  show (match bn T m r o with
    | none => 0
    | some b => mkO T o b + opt T m (r - 2 ^ b) (some b)) = _
  rw [h]
def grd (T : aT) : Nat → Nat → Option Nat → List Nat
  | 0, _, _ => []
  | m + 1, r, o => match bn T m r o with
    | none => []
    | some b => b :: grd T m (r - 2 ^ b) (some b)
theorem grd_some {T : aT} {m r : Nat} {o : Option Nat} {b : Nat} (h : bn T m r o = some b) : grd T (m + 1) r o = b :: grd T m (r - 2 ^ b) (some b) := by
  show (match bn T m r o with
    | none => []
    | some b => b :: grd T m (r - 2 ^ b) (some b)) = _
  rw [h]
theorem pop_sub : ∀ r, r < 64 → ∀ b, b < 6 → r.testBit b = true → pop6 (r - 2 ^ b) + 1 = pop6 r := by decide +kernel
theorem pop_0 : ∀ r, r < 64 → pop6 r = 0 → r = 0 := by decide +kernel
theorem pop_some : ∀ r, r < 64 → ¬ pop6 r = 0 → ∃ b, b < 6 ∧ r.testBit b = true := by decide +kernel
theorem tb_lt {r n b : Nat} (hr : r < 2 ^ n) (hb : r.testBit b = true) : b < n := by
  by_cases h : b < n
  · exact h
  · have : r < 2 ^ b := Nat.lt_of_lt_of_le hr (Nat.pow_le_pow_right (by decide) (by omega))
    rw [Nat.testBit_lt_two_pow this] at hb
    cases hb
theorem r64 {r n : Nat} (hr : r < 2 ^ n) (hn : n ≤ 6) : r < 64 := Nat.lt_of_lt_of_le hr (Nat.pow_le_pow_right (n := 2) (by decide) hn)
theorem bn_ex {T : aT} {m r : Nat} {o : Option Nat} (hn : T.1 0 ≤ 6) (hr : r < 2 ^ T.1 0) (hp : ¬ pop6 r = 0) : ∃ b, bn T m r o = some b ∧ b < T.1 0 ∧ r.testBit b = true ∧ ∀ i, i < T.1 0 → r.testBit i = true → cc T m r o b ≤ cc T m r o i ∧ (i < b → cc T m r o b < cc T m r o i) := by
  obtain ⟨h1, h2⟩ := bnx_spec (p := fun i => r.testBit i) (c := cc T m r o) (T.1 0)
  cases e : bn T m r o with
  | none =>
    obtain ⟨b, -, hb⟩ := pop_some r (r64 hr hn) hp
    have := h1 e b (tb_lt hr hb)
    rw [hb] at this
    cases this
  | some b => exact ⟨b, rfl, h2 b e⟩
theorem rof_pop : ∀ {l : List Nat} {r : Nat}, r < 64 → rof r l → pop6 r = l.length := by
  intro l
  induction l with
  | nil => intro r _ h; exact h
  | cons b l ih =>
    intro r hr h
    have hb : b < 6 := tb_lt (n := 6) hr h.1
    have := pop_sub r hr b hb h.1
    have := ih (sl hr) h.2
    rw [List.length_cons]
    omega
/-- no row has fewer -/
theorem opt_low {T : aT} (hn : T.1 0 ≤ 6) : ∀ {l : List Nat} {r : Nat} {o : Option Nat}, r < 2 ^ T.1 0 → rof r l → opt T (pop6 r) r o ≤ cstO T o l := by
  intro l
  induction l with
  | nil => intro r o _ h; rw [show pop6 r = 0 from h]; exact Nat.zero_le _
  | cons b l ih =>
    intro r o hr h
    have r6 := r64 hr hn
    have hb := tb_lt hr h.1
    have e := pop_sub r r6 b (by omega) h.1
    obtain ⟨g, e1, g1, g2, g3⟩ := bn_ex (m := pop6 (r - 2 ^ b)) (o := o) hn hr (by omega)
    rw [← e, opt_some e1]
    have l1 := (g3 b hb h.1).1
    have l2 := ih (o := some b) (sl hr) h.2
    show _ ≤ mkO T o b + cstO T (some b) l
    have l1 : cc T (pop6 (r - 2 ^ b)) r o g ≤ mkO T o b + opt T (pop6 (r - 2 ^ b)) (r - 2 ^ b) (some b) := l1
    omega
theorem grd_ok {T : aT} (hn : T.1 0 ≤ 6) : ∀ {m r : Nat} {o : Option Nat}, r < 2 ^ T.1 0 → pop6 r = m → rof r (grd T m r o) ∧ cstO T o (grd T m r o) = opt T m r o := by
  intro m
  induction m with
  | zero => intro r o _ h; exact ⟨h, rfl⟩
  | succ m ih =>
    intro r o hr h
    have r6 := r64 hr hn
    obtain ⟨g, e1, g1, g2, g3⟩ := bn_ex (m := m) (o := o) hn hr (by omega)
    have e := pop_sub r r6 g (by omega) g2
    obtain ⟨i1, i2⟩ := ih (r := r - 2 ^ g) (o := some g) (sl hr) (by omega)
    rw [grd_some e1, opt_some e1]
    refine ⟨⟨g2, i1⟩, ?_⟩
    show mkO T o g + cstO T (some g) (grd T m (r - 2 ^ g) (some g)) = _
    rw [i2]
def llt : List Nat → List Nat → Prop
  | a :: l, b :: m => a < b ∨ (a = b ∧ llt l m)
  | _, _ => False
theorem llt_no : ∀ {l m : List Nat}, llt l m → llt m l → False := by
  intro l
  induction l with
  | nil => intro m h; cases m <;> exact h.elim
  | cons a l ih =>
    intro m h1 h2
    cases m with
    | nil => exact h1.elim
    | cons b m =>
      rcases h1 with h1 | ⟨h1, h3⟩
      · rcases h2 with h2 | ⟨h2, _⟩ <;> omega
      · rcases h2 with h2 | ⟨h2, h4⟩
        · omega
        · exact ih h3 h4
/-- the row that is laid is the first one -/
theorem grd_first {T : aT} (hn : T.1 0 ≤ 6) : ∀ {l : List Nat} {r : Nat} {o : Option Nat}, r < 2 ^ T.1 0 → rof r l → cstO T o l ≤ opt T (pop6 r) r o → grd T (pop6 r) r o = l ∨ llt (grd T (pop6 r) r o) l := by
  intro l
  induction l with
  | nil =>
    intro r o _ h _
    rw [show pop6 r = 0 from h]
    exact Or.inl rfl
  | cons b l ih =>
    intro r o hr h hc
    have r6 := r64 hr hn
    have hb := tb_lt hr h.1
    have e := pop_sub r r6 b (by omega) h.1
    obtain ⟨g, e1, g1, g2, g3⟩ := bn_ex (m := pop6 (r - 2 ^ b)) (o := o) hn hr (by omega)
    rw [← e, opt_some e1] at hc
    rw [← e, grd_some e1]
    have l2 := opt_low (o := some b) hn (sl hr) h.2
    obtain ⟨l3, l4⟩ := g3 b hb h.1
    have hc : mkO T o b + cstO T (some b) l ≤ cc T (pop6 (r - 2 ^ b)) r o g := hc
    have eb : cc T (pop6 (r - 2 ^ b)) r o b = mkO T o b + opt T (pop6 (r - 2 ^ b)) (r - 2 ^ b) (some b) := rfl
    by_cases q : g = b
    · subst q
      rcases ih (r := r - 2 ^ g) (o := some g) (sl hr) h.2 (by omega) with z | z
      · left; rw [z]
      · right; exact Or.inr ⟨rfl, z⟩
    · right
      left
      by_cases z : b < g
      · have := l4 z
        omega
      · omega
-- codes of rows
def dl (n c : Nat) : Nat → List Nat
  | 0 => []
  | k + 1 => (c / n ^ k % n) :: dl n c k
theorem dl_len (n c : Nat) : ∀ k, (dl n c k).length = k := by
  intro k
  induction k with
  | zero => rfl
  | succ k ih => show (dl n c k).length + 1 = k + 1; rw [ih]
theorem dl_lt {n c : Nat} (hn : 0 < n) : ∀ {k x : Nat}, x ∈ dl n c k → x < n := by
  intro k
  induction k with
  | zero => intro x h; cases h
  | succ k ih =>
    intro x h
    rcases List.mem_cons.mp h with h | h
    · rw [h]; exact Nat.mod_lt _ hn
    · exact ih h
theorem dl_add {n a c : Nat} (hn : 0 < n) {K : Nat} : ∀ {k : Nat}, k ≤ K → dl n (a * n ^ K + c) k = dl n c k := by
  intro k
  induction k with
  | zero => intro _; rfl
  | succ k ih =>
    intro hk
    show (_ :: _) = (_ :: _)
    rw [ih (by omega)]
    congr 1
    have e : a * n ^ K = n ^ k * (n * (a * n ^ (K - 1 - k))) := by
      have : n ^ K = n ^ k * (n * n ^ (K - 1 - k)) := by
        rw [← Nat.pow_succ', ← Nat.pow_add]
        congr 1
        omega
      rw [this, Nat.mul_left_comm, Nat.mul_left_comm a n]
    rw [e, Nat.mul_add_div (Nat.pow_pos hn), Nat.mul_add_mod]
theorem dl_code {n : Nat} (hn : 0 < n) : ∀ {l : List Nat}, (∀ x, x ∈ l → x < n) → ∃ c, c < n ^ l.length ∧ dl n c l.length = l := by
  intro l
  induction l with
  | nil => intro _; exact ⟨0, Nat.one_pos, rfl⟩
  | cons a l ih =>
    intro h
    obtain ⟨c, h1, h2⟩ := ih (fun x hx => h x (List.mem_cons_of_mem _ hx))
    have ha := h a (List.mem_cons_self ..)
    refine ⟨a * n ^ l.length + c, ?_, ?_⟩
    · rw [List.length_cons, Nat.pow_succ]
      have : (a + 1) * n ^ l.length ≤ n * n ^ l.length := Nat.mul_le_mul_right _ ha
      rw [Nat.succ_mul] at this
      rw [Nat.mul_comm (n ^ l.length) n]
      omega
    · rw [List.length_cons]
      show (_ :: dl n (a * n ^ l.length + c) l.length) = _
      rw [dl_add hn (Nat.le_refl _), h2]
      congr 1
      rw [Nat.mul_comm, Nat.mul_add_div (Nat.pow_pos hn), Nat.div_eq_of_lt h1, Nat.add_zero, Nat.mod_eq_of_lt ha]
theorem dl_llt {n : Nat} (hn : 0 < n) : ∀ {k c d : Nat}, c < n ^ k → d < n ^ k → c < d → llt (dl n c k) (dl n d k) := by
  intro k
  induction k with
  | zero => intro c d hc hd h; rw [Nat.pow_zero] at hd; omega
  | succ k ih =>
    intro c d hc hd h
    have pk : 0 < n ^ k := Nat.pow_pos hn
    have qc : c / n ^ k < n := (Nat.div_lt_iff_lt_mul pk).mpr (by rw [Nat.mul_comm, ← Nat.pow_succ]; exact hc)
    have qd : d / n ^ k < n := (Nat.div_lt_iff_lt_mul pk).mpr (by rw [Nat.mul_comm, ← Nat.pow_succ]; exact hd)
    have hle : c / n ^ k ≤ d / n ^ k := Nat.div_le_div_right (by omega)
    show (c / n ^ k % n < d / n ^ k % n ∨ (c / n ^ k % n = d / n ^ k % n ∧ llt (dl n c k) (dl n d k)))
    rw [Nat.mod_eq_of_lt qc, Nat.mod_eq_of_lt qd]
    by_cases e : c / n ^ k = d / n ^ k
    · right
      refine ⟨e, ?_⟩
      have ec := Nat.div_add_mod c (n ^ k)
      have ed := Nat.div_add_mod d (n ^ k)
      have m1 := Nat.mod_lt c pk
      have m2 := Nat.mod_lt d pk
      have := ih (c := c % n ^ k) (d := d % n ^ k) m1 m2 (by rw [e] at ec; omega)
      rw [← dl_add (a := c / n ^ k) (K := k) hn (Nat.le_refl _), ← dl_add (a := d / n ^ k) (c := d % n ^ k) (K := k) hn (Nat.le_refl _)] at this
      rw [Nat.mul_comm, ec, Nat.mul_comm (d / n ^ k), ed] at this
      exact this
    · left; omega
theorem llt_map {f : Nat → Nat} {n : Nat} (hf : ∀ i j, i < j → j < n → f i < f j) : ∀ {l m : List Nat}, (∀ x, x ∈ l → x < n) → (∀ x, x ∈ m → x < n) → llt l m → llt (l.map f) (m.map f) := by
  intro l
  induction l with
  | nil => intro m _ _ h; cases m <;> exact h.elim
  | cons a l ih =>
    intro m h1 h2 h
    cases m with
    | nil => exact h.elim
    | cons b m =>
      rcases h with h | ⟨h, h3⟩
      · exact Or.inl (hf a b h (h2 b (List.mem_cons_self ..)))
      · exact Or.inr ⟨by rw [h], ih (fun x hx => h1 x (List.mem_cons_of_mem _ hx)) (fun x hx => h2 x (List.mem_cons_of_mem _ hx)) h3⟩
/-- none stands there twice -/
def vld : Nat → List Nat → Bool
  | _, [] => true
  | H, i :: l => !H.testBit i && vld (H + 2 ^ i) l
def msb (s i : Nat) : Nat := ((List.range 6).filter (fun b => s.testBit b)).getD i 0
theorem msb_in : ∀ s, s < 64 → ∀ i, i < pop6 s → s.testBit (msb s i) = true ∧ msb s i < 6 := by decide +kernel
theorem msb_mono : ∀ s, s < 64 → ∀ j, j < pop6 s → ∀ i, i < j → msb s i < msb s j := by decide +kernel
theorem msb_on : ∀ s, s < 64 → ∀ b, b < 6 → s.testBit b = true → ∃ i, i < pop6 s ∧ msb s i = b := by decide +kernel
theorem msb_at : ∀ s, s < 64 → ∀ k, k < 6 → s.testBit k = true → msb s (zcount (fun i => s.testBit i) k) = k := by decide +kernel
theorem pop_n : ∀ n, n < 7 → ∀ s, s < 64 → s < 2 ^ n → zcount (fun i => s.testBit i) n = pop6 s := by decide +kernel
theorem tb_sub : ∀ r, r < 64 → ∀ b, b < 6 → r.testBit b = true → ∀ j, j < 6 → (r - 2 ^ b).testBit j = (r.testBit j && !decide (j = b)) := by decide +kernel
theorem tb_add : ∀ H, H < 64 → ∀ b, b < 6 → H.testBit b = false → H + 2 ^ b < 64 ∧ ∀ j, j < 6 → (H + 2 ^ b).testBit j = (H.testBit j || decide (j = b)) := by decide +kernel
theorem pop_6 (s : Nat) : pop6 s ≤ 6 := zcount_le _ 6
def mrel (s H r : Nat) : Prop := ∀ i, i < pop6 s → r.testBit (msb s i) = !H.testBit i
theorem mrel_s {s H r i : Nat} (hs : s < 64) (hH : H < 64) (hr : r < 64) (hi : i < pop6 s) (h : mrel s H r) (hn : H.testBit i = false) : mrel s (H + 2 ^ i) (r - 2 ^ (msb s i)) ∧ r.testBit (msb s i) = true := by
  have p6 := pop_6 s
  have hb : r.testBit (msb s i) = true := by rw [h i hi, hn]; rfl
  have b6 := (msb_in s hs i hi).2
  refine ⟨fun j hj => ?_, hb⟩
  rw [tb_sub r hr _ b6 hb _ (msb_in s hs j hj).2, (tb_add H hH i (by omega) hn).2 j (by omega), h j hj]
  by_cases e : j = i
  · subst e; simp
  · have : ¬ msb s j = msb s i := by
      by_cases q : j < i
      · have := msb_mono s hs i hi j q; omega
      · have := msb_mono s hs j hj i (by omega); omega
    simp [e, this]
theorem vld_rof {s : Nat} (hs : s < 64) : ∀ {l : List Nat} {H r : Nat}, H < 64 → r < 64 → mrel s H r → (∀ x, x ∈ l → x < pop6 s) → vld H l = true → l.length = pop6 r → rof r (l.map (msb s)) := by
  intro l
  induction l with
  | nil => intro H r _ _ _ _ _ h; exact h.symm
  | cons a l ih =>
    intro H r hH hr hm hx hv hl
    have ha := hx a (List.mem_cons_self ..)
    have p6 := pop_6 s
    unfold vld at hv
    simp only [Bool.and_eq_true, Bool.not_eq_true'] at hv
    obtain ⟨m1, m2⟩ := mrel_s hs hH hr ha hm hv.1
    have t := (tb_add H hH a (by omega) hv.1).1
    have e := pop_sub r hr _ (msb_in s hs a ha).2 m2
    rw [List.length_cons] at hl
    exact ⟨m2, ih t (sl hr) m1 (fun x q => hx x (List.mem_cons_of_mem _ q)) hv.2 (by omega)⟩
theorem rof_vld {s : Nat} (hs : s < 64) : ∀ {g : List Nat} {H r : Nat}, H < 64 → r < 64 → mrel s H r → (∀ b, r.testBit b = true → s.testBit b = true) → rof r g → ∃ l : List Nat, l.map (msb s) = g ∧ (∀ x, x ∈ l → x < pop6 s) ∧ vld H l = true := by
  intro g
  induction g with
  | nil => intro H r _ _ _ _ _; exact ⟨[], rfl, (fun x h => by cases h), rfl⟩
  | cons b g ih =>
    intro H r hH hr hm hsub hg
    have b6 : b < 6 := tb_lt (n := 6) hr hg.1
    have p6 := pop_6 s
    obtain ⟨i, hi, ei⟩ := msb_on s hs b b6 (hsub b hg.1)
    have hn : H.testBit i = false := by
      have := hm i hi
      rw [ei, hg.1] at this
      cases z : H.testBit i with
      | false => rfl
      | true => rw [z] at this; cases this
    obtain ⟨m1, m2⟩ := mrel_s hs hH hr hi hm hn
    rw [ei] at m1
    obtain ⟨l, h1, h2, h3⟩ := ih (tb_add H hH i (by omega) hn).1 (sl hr) m1 (fun j q => by
      have j6 : j < 6 := tb_lt (n := 6) (sl hr) q
      rw [tb_sub r hr b b6 hg.1 j j6] at q
      simp only [Bool.and_eq_true] at q
      exact hsub j q.1) hg.2
    refine ⟨i :: l, ?_, fun x q => ?_, ?_⟩
    · show (msb s i :: l.map (msb s)) = _
      rw [ei, h1]
    · rcases List.mem_cons.mp q with q | q
      · rw [q]; exact hi
      · exact h2 x q
    · unfold vld
      rw [hn, h3]; rfl
-- the reference's search
abbrev rwc (s c : Nat) : List Nat := (dl (pop6 s) c (pop6 s)).map (msb s)
abbrev vlc (s c : Nat) : Bool := vld 0 (dl (pop6 s) c (pop6 s))
def jnt (T : aT) (s : Nat) : Nat → Option Nat × Nat
  | 0 => (none, 0)
  | c + 1 => if vlc s c = true then (match (jnt T s c).1 with
      | none => (some c, cstO T none (rwc s c))
      | some _ => if cstO T none (rwc s c) < (jnt T s c).2 then (some c, cstO T none (rwc s c)) else jnt T s c) else jnt T s c
theorem jnt_s (T : aT) (s c : Nat) : jnt T s (c + 1) = if vlc s c = true then (match (jnt T s c).1 with
      | none => (some c, cstO T none (rwc s c))
      | some _ => if cstO T none (rwc s c) < (jnt T s c).2 then (some c, cstO T none (rwc s c)) else jnt T s c) else jnt T s c := rfl
theorem jnt_spec (T : aT) (s : Nat) : ∀ N, ((jnt T s N).1 = none → ∀ c, c < N → vlc s c = false) ∧ ∀ b, (jnt T s N).1 = some b → b < N ∧ vlc s b = true ∧ (jnt T s N).2 = cstO T none (rwc s b) ∧ ∀ c, c < N → vlc s c = true → cstO T none (rwc s b) ≤ cstO T none (rwc s c) ∧ (c < b → cstO T none (rwc s b) < cstO T none (rwc s c)) := by
  intro N
  induction N with
  | zero => exact ⟨fun _ c hc => by omega, fun b e => by cases e⟩
  | succ N ih =>
    obtain ⟨h1, h2⟩ := ih
    rw [jnt_s]
    by_cases hp : vlc s N = true
    · rw [if_pos hp]
      cases e : (jnt T s N).1 with
      | none =>
        have h1 := h1 e
        refine ⟨fun q => (by cases q), fun b q => ?_⟩
        cases q
        refine ⟨by omega, hp, rfl, fun i hi pi => ?_⟩
        have : i = N := by
          by_cases z : i = N
          · exact z
          · rw [h1 i (by omega)] at pi; cases pi
        subst this
        exact ⟨Nat.le_refl _, fun z => by omega⟩
      | some b =>
        obtain ⟨g1, g2, g4, g3⟩ := h2 b e
        dsimp only
        rw [g4]
        by_cases q : cstO T none (rwc s N) < cstO T none (rwc s b)
        · rw [if_pos q]
          refine ⟨fun z => (by cases z), fun b' z => ?_⟩
          cases z
          refine ⟨by omega, hp, rfl, fun i hi pi => ?_⟩
          by_cases z : i = N
          · subst z; exact ⟨Nat.le_refl _, fun z => by omega⟩
          · have := (g3 i (by omega) pi).1
            exact ⟨by omega, fun _ => by omega⟩
        · rw [if_neg q]
          refine ⟨fun z => (by rw [e] at z; cases z), fun b' z => ?_⟩
          rw [e] at z
          cases z
          refine ⟨by omega, g2, g4, fun i hi pi => ?_⟩
          by_cases z : i = N
          · subst z; exact ⟨by omega, fun z => by omega⟩
          · exact g3 i (by omega) pi
    · have hp : vlc s N = false := by cases z : vlc s N with
        | false => rfl
        | true => exact absurd z hp
      rw [if_neg (by rw [hp]; decide)]
      refine ⟨fun e i hi => ?_, fun b e => ?_⟩
      · by_cases z : i = N
        · subst z; exact hp
        · exact h1 e i (by omega)
      · obtain ⟨g1, g2, g4, g3⟩ := h2 b e
        refine ⟨by omega, g2, g4, fun i hi pi => ?_⟩
        by_cases z : i = N
        · subst z; rw [hp] at pi; cases pi
        · exact g3 i (by omega) pi
abbrev G0 (T : aT) (s : Nat) : List Nat := grd T (pop6 s) s none
theorem jnt_grd {T : aT} {s : Nat} (hn : T.1 0 ≤ 6) (hs : s < 2 ^ T.1 0) : ∃ b, (jnt T s (pop6 s ^ pop6 s)).1 = some b ∧ b < pop6 s ^ pop6 s ∧ rwc s b = G0 T s ∧ (jnt T s (pop6 s ^ pop6 s)).2 = cstO T none (G0 T s) := by
  have s6 := r64 hs hn
  have m0 : mrel s 0 s := fun i hi => by rw [(msb_in s s6 i hi).1, Nat.zero_testBit]; rfl
  obtain ⟨o1, o2⟩ := grd_ok (o := none) hn hs rfl
  obtain ⟨l, l1, l2, l3⟩ := rof_vld s6 (by omega) s6 m0 (fun _ q => q) o1
  have hl : l.length = pop6 s := by
    have := rof_pop s6 o1
    rw [← l1, List.length_map] at this
    exact this.symm
  by_cases p0 : pop6 s = 0
  · have e0 : s = 0 := pop_0 s s6 p0
    subst e0
    refine ⟨0, rfl, by decide, ?_, ?_⟩
    · show [] = _
      show _ = grd T 0 0 none
      rfl
    · rfl
  obtain ⟨c, c1, c2⟩ := dl_code (n := pop6 s) (by omega) l2
  rw [hl] at c1 c2
  have vc : vlc s c = true := by show vld 0 (dl (pop6 s) c (pop6 s)) = true; rw [c2]; exact l3
  have rc : rwc s c = G0 T s := by show (dl (pop6 s) c (pop6 s)).map (msb s) = _; rw [c2]; exact l1
  obtain ⟨j1, j2⟩ := jnt_spec T s (pop6 s ^ pop6 s)
  cases e : (jnt T s (pop6 s ^ pop6 s)).1 with
  | none => rw [j1 e c c1] at vc; cases vc
  | some b =>
    obtain ⟨b1, b2, b3, b4⟩ := j2 b e
    have hx : ∀ x, x ∈ dl (pop6 s) b (pop6 s) → x < pop6 s := fun x q => dl_lt (by omega) q
    have hxc : ∀ x, x ∈ dl (pop6 s) c (pop6 s) → x < pop6 s := fun x q => dl_lt (by omega) q
    have rb : rof s (rwc s b) := vld_rof s6 (by omega) s6 m0 hx b2 (dl_len _ _ _)
    have low := opt_low (o := none) hn hs rb
    have up := (b4 c c1 vc)
    rw [rc, o2] at up
    have eq : rwc s b = G0 T s := by
      rcases grd_first (o := none) hn hs rb up.1 with q | q
      · exact q.symm
      · exfalso
        by_cases z : c < b
        · have := up.2 z
          omega
        · by_cases y : c = b
          · subst y
            rw [rc] at q
            exact llt_no q q
          · have := dl_llt (n := pop6 s) (by omega) b1 c1 (by omega)
            have := llt_map (f := msb s) (n := pop6 s) (fun i j ij hj => msb_mono s s6 j hj i ij) hx hxc this
            have : llt (rwc s b) (rwc s c) := this
            rw [rc] at this
            exact llt_no this q
    exact ⟨b, rfl, b1, eq, by rw [b3, eq]⟩
