theorem wi_1408 : Cond.methodLink "KnockBankModel" 1 Lib.objectInit ∈ zgw := zgw_6 86 rfl rfl
theorem wi_1432 : Cond.fieldLink "KnockBankModel" 7 "KnockBankModel" "tape" "[I" ∈ zgw := zgw_6 110 rfl rfl
theorem wi_1435 : Cond.fieldLink "KnockBankModel" 13 "KnockBankModel" "words" "[I" ∈ zgw := zgw_6 113 rfl rfl
theorem wi_1437 : Cond.fieldLink "KnockBankModel" 16 "KnockBankModel" "faultPlace" "I" ∈ zgw := zgw_6 115 rfl rfl
theorem wi_1452 : Cond.fieldLink "KnockBankModel" 20 "KnockBankModel" "onceTold" "[Z" ∈ zgw := zgw_6 130 rfl rfl
theorem wi_1453 : Cond.fieldLink "KnockBankModel" 24 "KnockBankModel" "once" "[I" ∈ zgw := zgw_6 131 rfl rfl
theorem wi_1454 : Cond.fieldLink "KnockBankModel" 27 "KnockBankModel" "handName" "[I" ∈ zgw := zgw_6 132 rfl rfl
theorem wi_1455 : Cond.fieldLink "KnockBankModel" 30 "KnockBankModel" "handCold" "[I" ∈ zgw := zgw_6 133 rfl rfl
theorem wi_1456 : Cond.fieldLink "KnockBankModel" 33 "KnockBankModel" "handAged" "[I" ∈ zgw := zgw_6 134 rfl rfl
theorem wi_1457 : Cond.fieldLink "KnockBankModel" 36 "KnockBankModel" "handBeat" "[I" ∈ zgw := zgw_6 135 rfl rfl
theorem wi_1458 : Cond.fieldLink "KnockBankModel" 39 "KnockBankModel" "woodName" "[I" ∈ zgw := zgw_6 136 rfl rfl
theorem wi_1459 : Cond.fieldLink "KnockBankModel" 42 "KnockBankModel" "woodKeeps" "[I" ∈ zgw := zgw_6 137 rfl rfl
theorem wi_1460 : Cond.fieldLink "KnockBankModel" 45 "KnockBankModel" "woodHard" "[I" ∈ zgw := zgw_6 138 rfl rfl
theorem wi_1461 : Cond.fieldLink "KnockBankModel" 48 "KnockBankModel" "woodOwner" "[I" ∈ zgw := zgw_6 139 rfl rfl
theorem wi_1462 : Cond.fieldLink "KnockBankModel" 51 "KnockBankModel" "rapHand" "[I" ∈ zgw := zgw_6 140 rfl rfl
theorem wi_1463 : Cond.fieldLink "KnockBankModel" 54 "KnockBankModel" "rapOn" "[I" ∈ zgw := zgw_6 141 rfl rfl
theorem wi_1464 : Cond.fieldLink "KnockBankModel" 57 "KnockBankModel" "rapDay" "[I" ∈ zgw := zgw_6 142 rfl rfl
theorem wi_1465 : Cond.fieldLink "KnockBankModel" 60 "KnockBankModel" "lawTold" "[Z" ∈ zgw := zgw_6 143 rfl rfl
theorem wi_1466 : Cond.fieldLink "KnockBankModel" 63 "KnockBankModel" "first" "[I" ∈ zgw := zgw_6 144 rfl rfl
theorem wi_1467 : Cond.fieldLink "KnockBankModel" 66 "KnockBankModel" "last" "[I" ∈ zgw := zgw_6 145 rfl rfl
theorem wi_1468 : Cond.fieldLink "KnockBankModel" 69 "KnockBankModel" "knot" "[I" ∈ zgw := zgw_6 146 rfl rfl
theorem wi_1469 : Cond.fieldLink "KnockBankModel" 72 "KnockBankModel" "part" "[I" ∈ zgw := zgw_6 147 rfl rfl
theorem wi_1470 : Cond.fieldLink "KnockBankModel" 75 "KnockBankModel" "other" "[I" ∈ zgw := zgw_6 148 rfl rfl
theorem wi_1471 : Cond.fieldLink "KnockBankModel" 78 "KnockBankModel" "wait" "[I" ∈ zgw := zgw_6 149 rfl rfl
theorem wi_1472 : Cond.fieldLink "KnockBankModel" 81 "KnockBankModel" "held" "[I" ∈ zgw := zgw_6 150 rfl rfl
theorem wi_1479 : Cond.fieldLink "KnockBankModel" 84 "KnockBankModel" "names" "[J" ∈ zgw := zgw_6 157 rfl rfl
theorem wi_1480 : Cond.fieldLink "KnockBankModel" 88 "KnockBankModel" "value" "[J" ∈ zgw := zgw_6 158 rfl rfl
theorem wi_1482 : Cond.fieldLink "KnockBankModel" 91 "KnockBankModel" "cold" "[I" ∈ zgw := zgw_6 160 rfl rfl
theorem wi_1483 : Cond.fieldLink "KnockBankModel" 94 "KnockBankModel" "rapped" "[I" ∈ zgw := zgw_6 161 rfl rfl
theorem wi_1484 : Cond.fieldLink "KnockBankModel" 97 "KnockBankModel" "owner" "[I" ∈ zgw := zgw_6 162 rfl rfl
theorem wi_1485 : Cond.fieldLink "KnockBankModel" 100 "KnockBankModel" "onWood" "[I" ∈ zgw := zgw_6 163 rfl rfl
theorem wi_1486 : Cond.fieldLink "KnockBankModel" 103 "KnockBankModel" "onDay" "[I" ∈ zgw := zgw_6 164 rfl rfl
theorem wi_1487 : Cond.fieldLink "KnockBankModel" 106 "KnockBankModel" "state" "[I" ∈ zgw := zgw_6 165 rfl rfl
theorem wi_1488 : Cond.fieldLink "KnockBankModel" 109 "KnockBankModel" "boundTo" "[I" ∈ zgw := zgw_6 166 rfl rfl
theorem wi_1489 : Cond.fieldLink "KnockBankModel" 112 "KnockBankModel" "faded" "[Z" ∈ zgw := zgw_6 167 rfl rfl
theorem wi_1490 : Cond.fieldLink "KnockBankModel" 115 "KnockBankModel" "cameOn" "[I" ∈ zgw := zgw_6 168 rfl rfl
theorem wi_1491 : Cond.fieldLink "KnockBankModel" 118 "KnockBankModel" "beats" "[I" ∈ zgw := zgw_6 169 rfl rfl
theorem wi_1492 : Cond.fieldLink "KnockBankModel" 121 "KnockBankModel" "day" "[I" ∈ zgw := zgw_6 170 rfl rfl
theorem wi_1494 : Cond.fieldLink "KnockBankModel" 124 "KnockBankModel" "asked" "[I" ∈ zgw := zgw_6 172 rfl rfl
theorem wi_1500 : Cond.fieldLink "KnockBankModel" 127 "KnockBankModel" "member" "[I" ∈ zgw := zgw_6 178 rfl rfl
theorem wi_1502 : Cond.fieldLink "KnockBankModel" 130 "KnockBankModel" "knownTold" "I" ∈ zgw := zgw_6 180 rfl rfl
theorem wi_1503 : Cond.fieldLink "KnockBankModel" 133 "KnockBankModel" "overheard" "[I" ∈ zgw := zgw_6 181 rfl rfl
theorem wi_1504 : Cond.fieldLink "KnockBankModel" 136 "KnockBankModel" "counts" "[Z" ∈ zgw := zgw_6 182 rfl rfl
theorem wi_1506 : Cond.fieldLink "KnockBankModel" 139 "KnockBankModel" "undo" "[I" ∈ zgw := zgw_6 184 rfl rfl
theorem wi_1508 : Cond.fieldLink "KnockBankModel" 142 "KnockBankModel" "image" "[I" ∈ zgw := zgw_6 186 rfl rfl
theorem wi_1509 : Cond.fieldLink "KnockBankModel" 145 "KnockBankModel" "imageRest" "[I" ∈ zgw := zgw_6 187 rfl rfl
abbrev YX12_init : zY := (RX12, cX12_init, 1, none, { frames := 3, cells := 43, slots := 2980, locals := 63 })
abbrev e0X12 : va_E := .inr (12, [.null, .int 0, .int 0, .null, .int 0, .int 0, .int 0, .int 0, .int 0, .int 0, .int 0, .int 0, .int 0, .int 0, .int 0, .int 0, .int 0, .int 0, .int 0, .int 0, .null, .null, .null, .null, .null, .null, .null, .null, .null, .null, .null, .null, .null, .null, .null, .null, .null, .null, .null, .null, .null, .int 0, .int 0, .int 0, .int 0, .int 0, .int 0, .null, .null, .int 0, .null, .null, .null, .null, .null, .null, .null, .null, .null, .null, .null, .long 0, .null, .int 0, .int 0, .int 0, .int 0, .int 0, .null, .int 0, .int 0, .null, .null, .int 0, .null, .int 0, .null, .null, .long 0])
theorem dftX12 : ∀ j, j < 79 → defaultValue (tyX12 j) = vp_V [.null, .int 0, .int 0, .null, .int 0, .int 0, .int 0, .int 0, .int 0, .int 0, .int 0, .int 0, .int 0, .int 0, .int 0, .int 0, .int 0, .int 0, .int 0, .int 0, .null, .null, .null, .null, .null, .null, .null, .null, .null, .null, .null, .null, .null, .null, .null, .null, .null, .null, .null, .null, .null, .int 0, .int 0, .int 0, .int 0, .int 0, .int 0, .null, .null, .int 0, .null, .null, .null, .null, .null, .null, .null, .null, .null, .null, .null, .long 0, .null, .int 0, .int 0, .int 0, .int 0, .int 0, .null, .int 0, .int 0, .null, .null, .int 0, .null, .int 0, .null, .null, .long 0] j := by decide +kernel
theorem mdX12_init : zMd yX12_init 0 := ⟨by decide +kernel, by decide +kernel, by decide +kernel⟩
def fw (n : Nat) : Nat → Int32 := fun j => if j < n then wrdR.getD j 0 else 0
theorem fw_0 : fw 0 = fun _ => 0 := by
  funext j
  unfold fw
  rw [if_neg (Nat.not_lt_zero j)]
theorem fw_up (n : Nat) : upd (fw n) n (wrdR.getD n 0) = fw (n + 1) := by
  funext j
  unfold upd fw
  by_cases h : j = n
  · subst h; rw [if_pos rfl, if_pos (by omega)]
  · rw [if_neg h]
    by_cases h2 : j < n
    · rw [if_pos h2, if_pos (by omega)]
    · rw [if_neg h2, if_neg (by omega)]
def wrN : List Int := [104, 97, 110, 100, 32, 119, 111, 111, 100, 32, 114, 97, 112, 32, 108, 105, 107, 101, 32, 115, 101, 101, 100, 32, 108, 97, 119, 32, 115, 104, 97, 107, 101, 32, 110, 101, 97, 114, 32, 102, 97, 100, 101, 32, 97, 110, 100, 32, 111, 114, 32, 110, 111, 116, 32, 99, 111, 108, 100, 32, 97, 103, 101, 100, 32, 104, 97, 114, 100, 32, 98, 101, 97, 116, 32, 112, 108, 97, 99, 101, 32, 114, 97, 112, 115, 32, 100, 97, 121, 32]
def wp (n : Nat) : Nat := if n < 6 then 18 + 5 * n else 48 + 6 * (n - 6)
def ww (n : Nat) : Nat := if n < 6 then 1 else 2
theorem wd_a : ∀ n, n < 90 → decode cX12_init (wp n) = .ok (.dup, 1) := by decide +kernel
theorem wd_b : ∀ n, n < 6 → decode cX12_init (wp n + 1) = .ok (.iconst n, ww n) := by decide +kernel
theorem wd_c : ∀ n, n < 90 → ¬ n < 6 → decode cX12_init (wp n + 1) = .ok (.bipush n, ww n) := by decide +kernel
theorem wd_d : ∀ n, n < 90 → decode cX12_init (wp n + 1 + ww n) = .ok (.bipush (wrN.getD n 0), 2) := by decide +kernel
theorem wd_e : ∀ n, n < 90 → decode cX12_init (wp n + 1 + ww n + 2) = .ok (.iastore, 1) := by decide +kernel
theorem wd_f : ∀ n, n < 90 → wp (n + 1) = wp n + 1 + ww n + 2 + 1 := by decide +kernel
theorem wd_g : ∀ n, n < 90 → (Int8.ofInt (wrN.getD n 0)).toInt32 = wrdR.getD n 0 ∧ Int32.ofInt (n : Int) = nI n ∧ (Int8.ofInt (n : Int)).toInt32 = nI n := by decide +kernel
set_option maxHeartbeats 1000000 in
theorem m_words {G : zG} {X : zX} {Q : State → Prop} {kc ks a : Nat} {arr : Array Slot} (h : iC G X YX12_init a) {e0 e1 : va_E} (kk : ∀ (H1 : Heap) (locs1 : List Loc), bS G X a [e0, e1, .inl (G.2.2.2.1 0, 90, .inl (fw 90))] H1 locs1 → zWL G X YX12_init kc ks H1 locs1 Q (zFr X 552 arr [.ref (a + 2), .ref a])) :
    ∀ (n i : Nat) (H : Heap) (locs : List Loc), i + n = 90 → bS G X a [e0, e1, .inl (G.2.2.2.1 0, 90, .inl (fw i))] H locs → zWL G X YX12_init kc ks H locs Q (zFr X (wp i) arr [.ref (a + 2), .ref a]) := by
  obtain ⟨hx, hb, hml, hown, hts, hr, hlk, hK, -⟩ := id h
  intro n
  induction n with
  | zero =>
    intro i H locs hi hS
    have hi : i = 90 := by omega
    subst hi
    exact kk H locs hS
  | succ n ih =>
    intro i H locs hi hS
    have hi9 : i < 90 := by omega
    obtain ⟨g1, g2, g3⟩ := wd_g i hi9
    refine lv_dup hx hb (wd_a i hi9) rfl ?_
    have k3 : zWL G X YX12_init kc ks H locs Q (zFr X (wp i + 1 + ww i) arr [.int (nI i), .ref (a + 2), .ref (a + 2), .ref a]) := by
      refine lv_bipush (v := wrdR.getD i 0) hx hb (wd_d i hi9) g1 ?_
      refine va_iast hx hb hK.1 hS.1 (bw_D a _) hS.2 2 0 (ha := rfl) (hK.ty (by decide)) (vp_in_nI hi9 (by decide)) (wd_e i hi9) (fun H4 locs4 hP4 hD4 hS4 => ?_)
      rw [n_cl (by omega), fw_up] at hP4
      have := ih (i + 1) H4 locs4 (by omega) ⟨hP4, hS4⟩
      rw [wd_f i hi9] at this
      exact this
    by_cases c6 : i < 6
    · have w1 : ww i = 1 := if_pos c6
      have d := wd_b i c6
      rw [w1] at d k3
      exact lv_iconst hx hb d g2 k3
    · have w1 : ww i = 2 := if_neg c6
      have d := wd_c i hi9 c6
      rw [w1] at d k3
      exact lv_bipush hx hb d g3 k3
abbrev LX12 (G : zG) (a : Nat) : List va_E := (.inr (12, [.ref (a + 1), .int 0, .int 0, .ref (a + 2), .int 0, .int (-1), .int 0, .int 0, .int 0, .int 0, .int 0, .int 0, .int 0, .int 0, .int 0, .int 0, .int 0, .int 0, .int 0, .int 0, .ref (a + 3), .ref (a + 4), .ref (a + 5), .ref (a + 6), .ref (a + 7), .ref (a + 8), .ref (a + 9), .ref (a + 10), .ref (a + 11), .ref (a + 12), .ref (a + 13), .ref (a + 14), .ref (a + 15), .ref (a + 16), .ref (a + 17), .ref (a + 18), .ref (a + 19), .ref (a + 20), .ref (a + 21), .ref (a + 22), .ref (a + 23), .int 0, .int 0, .int 0, .int 0, .int 0, .int 0, .ref (a + 24), .ref (a + 25), .int 0, .ref (a + 26), .ref (a + 27), .ref (a + 28), .ref (a + 29), .ref (a + 30), .ref (a + 31), .ref (a + 32), .ref (a + 33), .ref (a + 34), .ref (a + 35), .ref (a + 36), .long 0, .ref (a + 37), .int 0, .int 0, .int 0, .int 0, .int 0, .ref (a + 38), .int 0, .int (-1), .ref (a + 39), .ref (a + 40), .int 0, .ref (a + 41), .int 0, .ref (a + 42), .ref (a + 43), .long 0]) :: [.inl (G.2.2.2.1 0, 700, .inl (fun _ => 0)), .inl (G.2.2.2.1 0, 90, .inl (fw 90)), .inl (G.2.2.2.1 2, 2, .inl (fun _ => 0)), .inl (G.2.2.2.1 0, 4, .inl (fun _ => 0)), .inl (G.2.2.2.1 0, 12, .inl (fun _ => 0)), .inl (G.2.2.2.1 0, 12, .inl (fun _ => 0)), .inl (G.2.2.2.1 0, 12, .inl (fun _ => 0)), .inl (G.2.2.2.1 0, 72, .inl (fun _ => 0)), .inl (G.2.2.2.1 0, 8, .inl (fun _ => 0)), .inl (G.2.2.2.1 0, 8, .inl (fun _ => 0)), .inl (G.2.2.2.1 0, 8, .inl (fun _ => 0)), .inl (G.2.2.2.1 0, 8, .inl (fun _ => 0)), .inl (G.2.2.2.1 0, 20, .inl (fun _ => 0)), .inl (G.2.2.2.1 0, 20, .inl (fun _ => 0)), .inl (G.2.2.2.1 0, 20, .inl (fun _ => 0)), .inl (G.2.2.2.1 2, 6, .inl (fun _ => 0)), .inl (G.2.2.2.1 0, 6, .inl (fun _ => 0)), .inl (G.2.2.2.1 0, 6, .inl (fun _ => 0)), .inl (G.2.2.2.1 0, 128, .inl (fun _ => 0)), .inl (G.2.2.2.1 0, 128, .inl (fun _ => 0)), .inl (G.2.2.2.1 0, 128, .inl (fun _ => 0)), .inl (G.2.2.2.1 0, 96, .inl (fun _ => 0)), .inl (G.2.2.2.1 0, 96, .inl (fun _ => 0)), .inl (G.2.2.2.1 3, 7, .inr (.inl (fun _ => 0))), .inl (G.2.2.2.1 3, 64, .inr (.inl (fun _ => 0))), .inl (G.2.2.2.1 0, 12, .inl (fun _ => 0)), .inl (G.2.2.2.1 0, 12, .inl (fun _ => 0)), .inl (G.2.2.2.1 0, 8, .inl (fun _ => 0)), .inl (G.2.2.2.1 0, 20, .inl (fun _ => 0)), .inl (G.2.2.2.1 0, 20, .inl (fun _ => 0)), .inl (G.2.2.2.1 0, 20, .inl (fun _ => 0)), .inl (G.2.2.2.1 0, 20, .inl (fun _ => 0)), .inl (G.2.2.2.1 2, 20, .inl (fun _ => 0)), .inl (G.2.2.2.1 0, 20, .inl (fun _ => 0)), .inl (G.2.2.2.1 0, 120, .inl (fun _ => 0)), .inl (G.2.2.2.1 0, 2, .inl (fun _ => 0)), .inl (G.2.2.2.1 0, 6, .inl (fun _ => 0)), .inl (G.2.2.2.1 0, 6, .inl (fun _ => 0)), .inl (G.2.2.2.1 0, 72, .inl (fun _ => 0)), .inl (G.2.2.2.1 2, 24, .inl (fun _ => 0)), .inl (G.2.2.2.1 0, 800, .inl (fun _ => 0)), .inl (G.2.2.2.1 0, 40, .inl (fun _ => 0)), .inl (G.2.2.2.1 0, 97, .inl (fun _ => 0))])
def mI0 (k : Nat) : Nat → Nat → Int32 := match k with
  | 52 => fun _ s => fw 90 s
  | 12 => fun _ s => if s = 5 then -1 else if s = 70 then -1 else 0
  | _ => fun _ _ => 0
abbrev mM0 : zM := (mI0, fun _ _ _ => 0, fun _ _ _ => 99)
abbrev gB (G : zG) (b : Nat) : zG := (G.1, b + 155, G.2.2.1, G.2.2.2.1, adG b)
