-- loops, small numbers
theorem ziter_ok {b : zF → zF} (P : Nat → zL → zM → Prop) (step : ∀ n L S, P n L S → ∀ self : zF, (∀ n' L' S', n' < n → P n' L' S' → self L' [] S') → b self L [] S) : ∀ k n L S, n < k → P n L S → ziter b k L [] S := by
  intro k
  induction k with
  | zero => intro n L S h; omega
  | succ k ih => intro n L S h hP; exact step n L S hP _ (fun n' L' S' hn hP' => ih n' L' S' (by omega) hP')
theorem zmea {b : zF → zF} (P : Nat → zL → zM → Prop) (step : ∀ n L S, P n L S → ∀ self : zF, (∀ n' L' S', n' < n → P n' L' S' → self L' [] S') → b self L [] S) (n : Nat) {L : zL} {S : zM} (h : P n L S) : g_loop b L [] S := ⟨n + 1, ziter_ok P step (n + 1) n L S (by omega) h⟩
theorem zfor {b : zF → zF} (N : Nat) (L : Nat → zL) (S : Nat → zM) (step : ∀ i, i < N → ∀ self : zF, self (L (i + 1)) [] (S (i + 1)) → b self (L i) [] (S i)) (fin : ∀ self : zF, b self (L N) [] (S N)) : g_loop b (L 0) [] (S 0) := by
  refine zmea (fun n L' S' => ∃ i, i + n = N ∧ L' = L i ∧ S' = S i) ?_ N ⟨0, by omega, rfl, rfl⟩
  rintro n L' S' ⟨i, hi, rfl, rfl⟩ self hs
  cases n with
  | zero => rw [show i = N by omega]; exact fin self
  | succ n => exact step i (by omega) self (hs n _ _ (by omega) ⟨i + 1, by omega, rfl, rfl⟩)
/-- a loop over i < N with an invariant; it may be left ahead of time -/
theorem zinv {b : zF → zF} (N : Nat) (P : Nat → zL → zM → Prop) (step : ∀ i L S, i < N → P i L S → ∀ self : zF, (∀ L' S', P (i + 1) L' S' → self L' [] S') → b self L [] S) (fin : ∀ L S, P N L S → ∀ self : zF, b self L [] S) {L : zL} {S : zM} (h : P 0 L S) : g_loop b L [] S := by
  refine zmea (fun n L' S' => ∃ i, i + n = N ∧ P i L' S') ?_ N ⟨0, by omega, h⟩
  rintro n L' S' ⟨i, hi, hP⟩ self hs
  cases n with
  | zero => rw [show i = N by omega] at hP; exact fin L' S' hP self
  | succ n => exact step i L' S' (by omega) hP self (fun L2 S2 h2 => hs n _ _ (by omega) ⟨i + 1, by omega, h2⟩)
-- numbers
theorem n_toInt {n : Nat} (h : n < 2147483648) : (nI n).toInt = (n : Int) := nI_toInt h
theorem n_lt {a b : Nat} (ha : a < 2147483648) (hb : b < 2147483648) : nI a < nI b ↔ a < b := by
  rw [Int32.lt_iff_toInt_lt, n_toInt ha, n_toInt hb]; omega
theorem n_le {a b : Nat} (ha : a < 2147483648) (hb : b < 2147483648) : nI a ≤ nI b ↔ a ≤ b := by
  rw [Int32.le_iff_toInt_le, n_toInt ha, n_toInt hb]; omega
theorem n_eq {a b : Nat} (ha : a < 2147483648) (hb : b < 2147483648) : nI a = nI b ↔ a = b := by
  rw [← Int32.toInt_inj, n_toInt ha, n_toInt hb]; omega
theorem n_add (a b : Nat) : nI a + nI b = nI (a + b) := nI_add a b
theorem n_mul (a b : Nat) : nI a * nI b = nI (a * b) := by
  unfold nI
  exact (Int32.ofNat_mul a b).symm
theorem n_succ (a : Nat) : nI a + 1 = nI (a + 1) := n_add a 1
theorem n_cl {n : Nat} (h : n < 2147483648) : (nI n).toNatClampNeg = n := nI_clamp h
theorem n_zin {i n : Nat} (h : i < n) (hn : n ≤ 2147483648) : zin (nI i) n := by
  unfold zin
  rw [n_toInt (by omega)]
  omega
/-- an int within bounds is a number -/
theorem n_of {x : Int32} {n : Nat} (hn : n < 2147483648) (h0 : 0 ≤ x) (h1 : x < nI n) : ∃ i, x = nI i ∧ i < n := by
  have h0 := Int32.le_iff_toInt_le.mp h0
  have h1 := Int32.lt_iff_toInt_lt.mp h1
  rw [n_toInt hn] at h1
  have e0 : (0 : Int32).toInt = 0 := rfl
  rw [e0] at h0
  refine ⟨x.toInt.toNat, ?_, by omega⟩
  rw [← Int32.toInt_inj, n_toInt (by omega)]
  omega
def zcount (p : Nat → Bool) : Nat → Nat
  | 0 => 0
  | n + 1 => zcount p n + (if p n then 1 else 0)
theorem zcount_le (p : Nat → Bool) (n : Nat) : zcount p n ≤ n := by
  induction n with
  | zero => exact Nat.le_refl 0
  | succ n ih =>
    show zcount p n + _ ≤ n + 1
    split <;> omega
theorem zcount_congr {p q : Nat → Bool} {n : Nat} (h : ∀ i, i < n → p i = q i) : zcount p n = zcount q n := by
  induction n with
  | zero => rfl
  | succ n ih =>
    show zcount p n + _ = zcount q n + _
    rw [ih (fun i hi => h i (by omega)), h n (by omega)]
-- a loop's test at its head: on with the body, out of it
theorem lt_go {i n : Nat} {x : Int32} (hx : x = nI n) (hn : n < 2147483648) (h : i < n) : ¬ x ≤ nI i := by
  rw [hx, n_le hn (by omega)]; omega
theorem lt_out {n : Nat} {x : Int32} (hx : x = nI n) : ¬ ¬ x ≤ nI n := by
  intro h
  apply h
  rw [hx]
  exact Int32.le_refl _
