theorem zgw_r {ws : List Cond} (ps : List Nat) (hp : ws = ps.filterMap (fun i => lw_tbl[i]?)) (h : ws.all goodWord = true) : ∀ w ∈ ws, w ∈ zgw := by
  intro w hw
  have h1 := List.all_eq_true.mp h w hw
  rw [hp] at hw
  obtain ⟨i, -, hi⟩ := List.mem_filterMap.mp hw
  exact zgw_of i hi h1
theorem zt_out {k : Nat} (hk : ¬ k < 95) : zt k = (0, 9, 0, 0, []) := by
  unfold zt
  rw [List.getD_eq_getElem?_getD, List.getElem?_eq_none (by show 95 ≤ k; omega)]
  rfl
theorem zauxs : ∀ k, zaux k < 8 ∨ zsrt k = 0 := by
  have h : ∀ k, k < 95 → zaux k < 8 ∨ zsrt k = 0 := by decide +kernel
  intro k
  by_cases hk : k < 95
  · exact h k hk
  · left
    unfold zaux
    rw [zt_out hk]
    decide
theorem clX0 : zCl 0 RX0 TX0 6 tyX0 := ⟨rfl, rfl, rfl, rfl, zgw_r [392, 394, 396, 398, 400, 402] (by decide +kernel) (by decide +kernel), tyX0_ok, nmX0⟩
theorem clX1 : zCl 1 RX1 TX1 5 tyX1 := ⟨rfl, rfl, rfl, rfl, zgw_r [493, 495, 497, 499, 501] (by decide +kernel) (by decide +kernel), tyX1_ok, nmX1⟩
theorem clX2 : zCl 2 RX2 TX2 3 tyX2 := ⟨rfl, rfl, rfl, rfl, zgw_r [561, 563, 565] (by decide +kernel) (by decide +kernel), tyX2_ok, nmX2⟩
theorem clX3 : zCl 3 RX3 TX3 7 tyX3 := ⟨rfl, rfl, rfl, rfl, zgw_r [423, 425, 427, 429, 431, 433, 435] (by decide +kernel) (by decide +kernel), tyX3_ok, nmX3⟩
theorem clX4 : zCl 4 RX4 TX4 3 tyX4 := ⟨rfl, rfl, rfl, rfl, zgw_r [543, 545, 547] (by decide +kernel) (by decide +kernel), tyX4_ok, nmX4⟩
theorem clX5 : zCl 5 RX5 TX5 10 tyX5 := ⟨rfl, rfl, rfl, rfl, zgw_r [275, 277, 279, 281, 283, 285, 287, 289, 291, 293] (by decide +kernel) (by decide +kernel), tyX5_ok, nmX5⟩
theorem clX6 : zCl 6 RX6 TX6 5 tyX6 := ⟨rfl, rfl, rfl, rfl, zgw_r [452, 454, 456, 458, 460] (by decide +kernel) (by decide +kernel), tyX6_ok, nmX6⟩
theorem clX7 : zCl 7 RX7 TX7 12 tyX7 := ⟨rfl, rfl, rfl, rfl, zgw_r [236, 238, 240, 242, 244, 246, 248, 250, 252, 254, 256, 258] (by decide +kernel) (by decide +kernel), tyX7_ok, nmX7⟩
theorem clX8 : zCl 8 RX8 TX8 18 tyX8 := ⟨rfl, rfl, rfl, rfl, zgw_r [337, 339, 341, 343, 345, 347, 349, 351, 353, 355, 357, 359, 361, 363, 365, 367, 369, 371] (by decide +kernel) (by decide +kernel), tyX8_ok, nmX8⟩
theorem clX9 : zCl 9 RX9 TX9 15 tyX9 := ⟨rfl, rfl, rfl, rfl, zgw_r [616, 618, 620, 622, 624, 626, 628, 630, 632, 634, 636, 638, 640, 642, 644] (by decide +kernel) (by decide +kernel), tyX9_ok, nmX9⟩
theorem clX10 : zCl 10 RX10 TX10 4 tyX10 := ⟨rfl, rfl, rfl, rfl, zgw_r [518, 520, 522, 524] (by decide +kernel) (by decide +kernel), tyX10_ok, nmX10⟩
theorem clX11 : zCl 11 RX11 TX11 15 tyX11 := ⟨rfl, rfl, rfl, rfl, zgw_r [666, 668, 670, 672, 674, 676, 678, 680, 682, 684, 686, 688, 690, 692, 694] (by decide +kernel) (by decide +kernel), tyX11_ok, nmX11⟩
theorem clX12 : zCl 12 RX12 TX12 79 tyX12 := ⟨rfl, rfl, rfl, rfl, zgw_r [1511, 1513, 1515, 1517, 1519, 1521, 1523, 1525, 1527, 1529, 1531, 1533, 1535, 1537, 1539, 1541, 1543, 1545, 1547, 1549, 1551, 1553, 1555, 1557, 1559, 1561, 1563, 1565, 1567, 1569, 1571, 1573, 1575, 1577, 1579, 1581, 1583, 1585, 1587, 1589, 1591, 1593, 1595, 1597, 1599, 1601, 1603, 1605, 1607, 1609, 1611, 1613, 1615, 1617, 1619, 1621, 1623, 1625, 1627, 1629, 1631, 1633, 1635, 1637, 1639, 1641, 1643, 1645, 1647, 1649, 1651, 1653, 1655, 1657, 1659, 1661, 1663, 1665, 1667] (by decide +kernel) (by decide +kernel), tyX12_ok, nmX12⟩
theorem zgw_0 {w : Cond} (i : Nat) (h : (k2_sels lw_privs)[i]? = some w) (hg : goodWord w = true) : w ∈ zgw := List.mem_filter.mpr ⟨List.mem_append_left _ (List.mem_of_getElem? h), hg⟩
theorem zgw_1 {w : Cond} (i : Nat) (h : tables_1_1[i]? = some w) (hg : goodWord w = true) : w ∈ zgw := List.mem_filter.mpr ⟨List.mem_append_right _ (List.mem_append_left _ (List.mem_of_getElem? h)), hg⟩
theorem zgw_2 {w : Cond} (i : Nat) (h : tables_1_2[i]? = some w) (hg : goodWord w = true) : w ∈ zgw := List.mem_filter.mpr ⟨List.mem_append_right _ (List.mem_append_right _ (List.mem_append_left _ (List.mem_of_getElem? h))), hg⟩
theorem zgw_3 {w : Cond} (i : Nat) (h : tables_1_3[i]? = some w) (hg : goodWord w = true) : w ∈ zgw := List.mem_filter.mpr ⟨List.mem_append_right _ (List.mem_append_right _ (List.mem_append_right _ (List.mem_append_left _ (List.mem_of_getElem? h)))), hg⟩
theorem zgw_4 {w : Cond} (i : Nat) (h : tables_1_4[i]? = some w) (hg : goodWord w = true) : w ∈ zgw := List.mem_filter.mpr ⟨List.mem_append_right _ (List.mem_append_right _ (List.mem_append_right _ (List.mem_append_right _ (List.mem_append_left _ (List.mem_of_getElem? h))))), hg⟩
theorem zgw_5 {w : Cond} (i : Nat) (h : tables_1_5[i]? = some w) (hg : goodWord w = true) : w ∈ zgw := List.mem_filter.mpr ⟨List.mem_append_right _ (List.mem_append_right _ (List.mem_append_right _ (List.mem_append_right _ (List.mem_append_right _ (List.mem_append_left _ (List.mem_of_getElem? h)))))), hg⟩
theorem zgw_6 {w : Cond} (i : Nat) (h : tables_1_6[i]? = some w) (hg : goodWord w = true) : w ∈ zgw := List.mem_filter.mpr ⟨List.mem_append_right _ (List.mem_append_right _ (List.mem_append_right _ (List.mem_append_right _ (List.mem_append_right _ (List.mem_append_right _ (List.mem_append_left _ (List.mem_of_getElem? h))))))), hg⟩
theorem zgw_7 {w : Cond} (i : Nat) (h : tables_1_7[i]? = some w) (hg : goodWord w = true) : w ∈ zgw := List.mem_filter.mpr ⟨List.mem_append_right _ (List.mem_append_right _ (List.mem_append_right _ (List.mem_append_right _ (List.mem_append_right _ (List.mem_append_right _ (List.mem_append_right _ (List.mem_append_left _ (List.mem_of_getElem? h)))))))), hg⟩
theorem zgw_8 {w : Cond} (i : Nat) (h : tables_1_8[i]? = some w) (hg : goodWord w = true) : w ∈ zgw := List.mem_filter.mpr ⟨List.mem_append_right _ (List.mem_append_right _ (List.mem_append_right _ (List.mem_append_right _ (List.mem_append_right _ (List.mem_append_right _ (List.mem_append_right _ (List.mem_append_right _ (List.mem_append_left _ (List.mem_of_getElem? h))))))))), hg⟩
theorem zgw_9 {w : Cond} (i : Nat) (h : tables_1_9[i]? = some w) (hg : goodWord w = true) : w ∈ zgw := List.mem_filter.mpr ⟨List.mem_append_right _ (List.mem_append_right _ (List.mem_append_right _ (List.mem_append_right _ (List.mem_append_right _ (List.mem_append_right _ (List.mem_append_right _ (List.mem_append_right _ (List.mem_append_right _ (List.mem_of_getElem? h))))))))), hg⟩
set_option maxRecDepth 10000 in
theorem wd_0 : Cond.selects "KnockBank" ⟨"KnockBank", "putOnTape", "(I)V"⟩ ⟨"KnockBank", "putOnTape", "(I)V"⟩ ∈ zgw := zgw_0 0 rfl rfl
set_option maxRecDepth 10000 in
theorem wd_1 : Cond.selects "KnockBank$Scanner" ⟨"KnockBank$Scanner", "cut", "()V"⟩ ⟨"KnockBank$Scanner", "cut", "()V"⟩ ∈ zgw := zgw_0 1 rfl rfl
set_option maxRecDepth 10000 in
theorem wd_2 : Cond.selects "KnockBank$Scanner" ⟨"KnockBank$Scanner", "signAt", "(I)I"⟩ ⟨"KnockBank$Scanner", "signAt", "(I)I"⟩ ∈ zgw := zgw_0 2 rfl rfl
set_option maxRecDepth 10000 in
theorem wd_3 : Cond.selects "KnockBank$Scanner" ⟨"KnockBank$Scanner", "cutWord", "()V"⟩ ⟨"KnockBank$Scanner", "cutWord", "()V"⟩ ∈ zgw := zgw_0 3 rfl rfl
set_option maxRecDepth 10000 in
theorem wd_4 : Cond.selects "KnockBank$Scanner" ⟨"KnockBank$Scanner", "kindOfWord", "(I)I"⟩ ⟨"KnockBank$Scanner", "kindOfWord", "(I)I"⟩ ∈ zgw := zgw_0 4 rfl rfl
set_option maxRecDepth 10000 in
theorem wd_5 : Cond.selects "KnockBank$Scanner" ⟨"KnockBank$Scanner", "cutNumber", "()V"⟩ ⟨"KnockBank$Scanner", "cutNumber", "()V"⟩ ∈ zgw := zgw_0 5 rfl rfl
set_option maxRecDepth 10000 in
theorem wd_6 : Cond.selects "KnockBank$Scanner" ⟨"KnockBank$Scanner", "cutSign", "()V"⟩ ⟨"KnockBank$Scanner", "cutSign", "()V"⟩ ∈ zgw := zgw_0 6 rfl rfl
set_option maxRecDepth 10000 in
theorem wd_7 : Cond.selects "KnockBank$Reader" ⟨"KnockBank$Reader", "readLine", "()V"⟩ ⟨"KnockBank$Reader", "readLine", "()V"⟩ ∈ zgw := zgw_0 7 rfl rfl
set_option maxRecDepth 10000 in
theorem wd_8 : Cond.selects "KnockBank$Reader" ⟨"KnockBank$Reader", "readHand", "()V"⟩ ⟨"KnockBank$Reader", "readHand", "()V"⟩ ∈ zgw := zgw_0 8 rfl rfl
set_option maxRecDepth 10000 in
theorem wd_9 : Cond.selects "KnockBank$Reader" ⟨"KnockBank$Reader", "fail", "(I)V"⟩ ⟨"KnockBank$Reader", "fail", "(I)V"⟩ ∈ zgw := zgw_0 9 rfl rfl
set_option maxRecDepth 10000 in
theorem wd_10 : Cond.selects "KnockBank$Reader" ⟨"KnockBank$Reader", "take", "(I)V"⟩ ⟨"KnockBank$Reader", "take", "(I)V"⟩ ∈ zgw := zgw_0 10 rfl rfl
set_option maxRecDepth 10000 in
theorem wd_11 : Cond.selects "KnockBank$Reader" ⟨"KnockBank$Reader", "takeNewName", "(Z)I"⟩ ⟨"KnockBank$Reader", "takeNewName", "(Z)I"⟩ ∈ zgw := zgw_0 11 rfl rfl
set_option maxRecDepth 10000 in
theorem wd_12 : Cond.selects "KnockBank$Reader" ⟨"KnockBank$Reader", "takeNumber", "(II)I"⟩ ⟨"KnockBank$Reader", "takeNumber", "(II)I"⟩ ∈ zgw := zgw_0 12 rfl rfl
set_option maxRecDepth 10000 in
theorem wd_13 : Cond.selects "KnockBank$Reader" ⟨"KnockBank$Reader", "readWood", "()V"⟩ ⟨"KnockBank$Reader", "readWood", "()V"⟩ ∈ zgw := zgw_0 13 rfl rfl
set_option maxRecDepth 10000 in
theorem wd_14 : Cond.selects "KnockBank$Reader" ⟨"KnockBank$Reader", "takeToldName", "(Z)I"⟩ ⟨"KnockBank$Reader", "takeToldName", "(Z)I"⟩ ∈ zgw := zgw_0 14 rfl rfl
set_option maxRecDepth 10000 in
theorem wd_15 : Cond.selects "KnockBank$Reader" ⟨"KnockBank$Reader", "readRap", "()V"⟩ ⟨"KnockBank$Reader", "readRap", "()V"⟩ ∈ zgw := zgw_0 15 rfl rfl
set_option maxRecDepth 10000 in
theorem wd_16 : Cond.selects "KnockBank$Reader" ⟨"KnockBank$Reader", "readLike", "()V"⟩ ⟨"KnockBank$Reader", "readLike", "()V"⟩ ∈ zgw := zgw_0 16 rfl rfl
set_option maxRecDepth 10000 in
theorem wd_17 : Cond.selects "KnockBank$Reader" ⟨"KnockBank$Reader", "readSeed", "()V"⟩ ⟨"KnockBank$Reader", "readSeed", "()V"⟩ ∈ zgw := zgw_0 17 rfl rfl
set_option maxRecDepth 10000 in
theorem wd_18 : Cond.selects "KnockBank$Reader" ⟨"KnockBank$Reader", "readLaw", "()V"⟩ ⟨"KnockBank$Reader", "readLaw", "()V"⟩ ∈ zgw := zgw_0 18 rfl rfl
set_option maxRecDepth 10000 in
theorem wd_19 : Cond.selects "KnockBank$Reader" ⟨"KnockBank$Reader", "readExpression", "()V"⟩ ⟨"KnockBank$Reader", "readExpression", "()V"⟩ ∈ zgw := zgw_0 19 rfl rfl
set_option maxRecDepth 10000 in
theorem wd_20 : Cond.selects "KnockBank$Reader" ⟨"KnockBank$Reader", "readNot", "()V"⟩ ⟨"KnockBank$Reader", "readNot", "()V"⟩ ∈ zgw := zgw_0 20 rfl rfl
set_option maxRecDepth 10000 in
theorem wd_21 : Cond.selects "KnockBank$Reader" ⟨"KnockBank$Reader", "countKnot", "()V"⟩ ⟨"KnockBank$Reader", "countKnot", "()V"⟩ ∈ zgw := zgw_0 21 rfl rfl
set_option maxRecDepth 10000 in
theorem wd_22 : Cond.selects "KnockBank$Reader" ⟨"KnockBank$Reader", "push", "(I)V"⟩ ⟨"KnockBank$Reader", "push", "(I)V"⟩ ∈ zgw := zgw_0 22 rfl rfl
set_option maxRecDepth 10000 in
theorem wd_23 : Cond.selects "KnockBank$Reader" ⟨"KnockBank$Reader", "openBracket", "()V"⟩ ⟨"KnockBank$Reader", "openBracket", "()V"⟩ ∈ zgw := zgw_0 23 rfl rfl
set_option maxRecDepth 10000 in
theorem wd_24 : Cond.selects "KnockBank$Reader" ⟨"KnockBank$Reader", "readOperand", "()V"⟩ ⟨"KnockBank$Reader", "readOperand", "()V"⟩ ∈ zgw := zgw_0 24 rfl rfl
set_option maxRecDepth 10000 in
theorem wd_25 : Cond.selects "KnockBank$Reader" ⟨"KnockBank$Reader", "emit", "(I)V"⟩ ⟨"KnockBank$Reader", "emit", "(I)V"⟩ ∈ zgw := zgw_0 25 rfl rfl
set_option maxRecDepth 10000 in
theorem wd_26 : Cond.selects "KnockBank$Reader" ⟨"KnockBank$Reader", "closeBracket", "()V"⟩ ⟨"KnockBank$Reader", "closeBracket", "()V"⟩ ∈ zgw := zgw_0 26 rfl rfl
set_option maxRecDepth 10000 in
theorem wd_27 : Cond.selects "KnockBank$Reader" ⟨"KnockBank$Reader", "release", "(I)V"⟩ ⟨"KnockBank$Reader", "release", "(I)V"⟩ ∈ zgw := zgw_0 27 rfl rfl
set_option maxRecDepth 10000 in
theorem wd_28 : Cond.selects "KnockBank$Reader" ⟨"KnockBank$Reader", "readSign", "()V"⟩ ⟨"KnockBank$Reader", "readSign", "()V"⟩ ∈ zgw := zgw_0 28 rfl rfl
set_option maxRecDepth 10000 in
theorem wd_29 : Cond.selects "KnockBank" ⟨"KnockBank", "isHand", "(I)Z"⟩ ⟨"KnockBank", "isHand", "(I)Z"⟩ ∈ zgw := zgw_0 29 rfl rfl
set_option maxRecDepth 10000 in
theorem wd_30 : Cond.selects "KnockBank" ⟨"KnockBank", "isWood", "(I)Z"⟩ ⟨"KnockBank", "isWood", "(I)Z"⟩ ∈ zgw := zgw_0 30 rfl rfl
set_option maxRecDepth 10000 in
theorem wd_31 : Cond.selects "KnockBank$Scene" ⟨"KnockBank$Scene", "setNames", "(IIII)V"⟩ ⟨"KnockBank$Scene", "setNames", "(IIII)V"⟩ ∈ zgw := zgw_0 31 rfl rfl
set_option maxRecDepth 10000 in
theorem wd_32 : Cond.selects "KnockBank" ⟨"KnockBank", "isRap", "(I)Z"⟩ ⟨"KnockBank", "isRap", "(I)Z"⟩ ∈ zgw := zgw_0 32 rfl rfl
set_option maxRecDepth 10000 in
theorem wd_33 : Cond.selects "KnockBank$Scene" ⟨"KnockBank$Scene", "fadeAll", "()V"⟩ ⟨"KnockBank$Scene", "fadeAll", "()V"⟩ ∈ zgw := zgw_0 33 rfl rfl
set_option maxRecDepth 10000 in
theorem wd_34 : Cond.selects "KnockBank$Scene" ⟨"KnockBank$Scene", "fade", "(I)I"⟩ ⟨"KnockBank$Scene", "fade", "(I)I"⟩ ∈ zgw := zgw_0 34 rfl rfl
set_option maxRecDepth 10000 in
theorem wd_35 : Cond.selects "KnockBank$Scene" ⟨"KnockBank$Scene", "rapOnce", "(IZ)V"⟩ ⟨"KnockBank$Scene", "rapOnce", "(IZ)V"⟩ ∈ zgw := zgw_0 35 rfl rfl
set_option maxRecDepth 10000 in
theorem wd_36 : Cond.selects "KnockBank$Scene" ⟨"KnockBank$Scene", "isAboveDrawn", "(I)Z"⟩ ⟨"KnockBank$Scene", "isAboveDrawn", "(I)Z"⟩ ∈ zgw := zgw_0 36 rfl rfl
set_option maxRecDepth 10000 in
theorem wd_37 : Cond.selects "KnockBank$Text" ⟨"KnockBank$Text", "leastApart", "(II)I"⟩ ⟨"KnockBank$Text", "leastApart", "(II)I"⟩ ∈ zgw := zgw_0 37 rfl rfl
set_option maxRecDepth 10000 in
theorem wd_38 : Cond.selects "KnockBank" ⟨"KnockBank", "isTakenFor", "(II)Z"⟩ ⟨"KnockBank", "isTakenFor", "(II)Z"⟩ ∈ zgw := zgw_0 38 rfl rfl
set_option maxRecDepth 10000 in
theorem wd_39 : Cond.selects "KnockBank$Row" ⟨"KnockBank$Row", "weigh", "(I)V"⟩ ⟨"KnockBank$Row", "weigh", "(I)V"⟩ ∈ zgw := zgw_0 39 rfl rfl
set_option maxRecDepth 10000 in
theorem wd_40 : Cond.selects "KnockBank$Row" ⟨"KnockBank$Row", "bestNext", "(II)I"⟩ ⟨"KnockBank$Row", "bestNext", "(II)I"⟩ ∈ zgw := zgw_0 40 rfl rfl
set_option maxRecDepth 10000 in
theorem wd_41 : Cond.selects "KnockBank$Row" ⟨"KnockBank$Row", "costOf", "(III)I"⟩ ⟨"KnockBank$Row", "costOf", "(III)I"⟩ ∈ zgw := zgw_0 41 rfl rfl
set_option maxRecDepth 10000 in
theorem wd_42 : Cond.selects "KnockBank$Row" ⟨"KnockBank$Row", "isMasked", "(II)Z"⟩ ⟨"KnockBank$Row", "isMasked", "(II)Z"⟩ ∈ zgw := zgw_0 42 rfl rfl
set_option maxRecDepth 10000 in
theorem wd_43 : Cond.selects "KnockBank" ⟨"KnockBank", "restBits", "(II)I"⟩ ⟨"KnockBank", "restBits", "(II)I"⟩ ∈ zgw := zgw_0 43 rfl rfl
set_option maxRecDepth 10000 in
theorem wd_44 : Cond.selects "KnockBank" ⟨"KnockBank", "gain", "(III)I"⟩ ⟨"KnockBank", "gain", "(III)I"⟩ ∈ zgw := zgw_0 44 rfl rfl
set_option maxRecDepth 10000 in
theorem wd_45 : Cond.selects "KnockBank" ⟨"KnockBank", "takes", "(II)Z"⟩ ⟨"KnockBank", "takes", "(II)Z"⟩ ∈ zgw := zgw_0 45 rfl rfl
set_option maxRecDepth 10000 in
theorem wd_46 : Cond.selects "KnockBank" ⟨"KnockBank", "coldsBy", "(I)I"⟩ ⟨"KnockBank", "coldsBy", "(I)I"⟩ ∈ zgw := zgw_0 46 rfl rfl
set_option maxRecDepth 10000 in
theorem wd_48 : Cond.selects "KnockBankModel" ⟨"KnockBankModel", "plain", "()V"⟩ ⟨"KnockBankModel", "plain", "()V"⟩ ∈ zgw := zgw_0 48 rfl rfl
set_option maxRecDepth 10000 in
theorem wd_49 : Cond.selects "KnockBankModel" ⟨"KnockBankModel", "keepText", "()V"⟩ ⟨"KnockBankModel", "keepText", "()V"⟩ ∈ zgw := zgw_0 49 rfl rfl
set_option maxRecDepth 10000 in
theorem wd_50 : Cond.selects "KnockBankModel" ⟨"KnockBankModel", "begin", "()V"⟩ ⟨"KnockBankModel", "begin", "()V"⟩ ∈ zgw := zgw_0 50 rfl rfl
set_option maxRecDepth 10000 in
theorem wd_51 : Cond.selects "KnockBankModel" ⟨"KnockBankModel", "atFirst", "(I)V"⟩ ⟨"KnockBankModel", "atFirst", "(I)V"⟩ ∈ zgw := zgw_0 51 rfl rfl
set_option maxRecDepth 10000 in
theorem wd_52 : Cond.selects "KnockBankModel" ⟨"KnockBankModel", "plainTried", "()V"⟩ ⟨"KnockBankModel", "plainTried", "()V"⟩ ∈ zgw := zgw_0 52 rfl rfl
set_option maxRecDepth 10000 in
theorem wd_53 : Cond.selects "KnockBankModel" ⟨"KnockBankModel", "token", "()V"⟩ ⟨"KnockBankModel", "token", "()V"⟩ ∈ zgw := zgw_0 53 rfl rfl
set_option maxRecDepth 10000 in
theorem wd_54 : Cond.selects "KnockBankModel" ⟨"KnockBankModel", "isSmall", "(I)Z"⟩ ⟨"KnockBankModel", "isSmall", "(I)Z"⟩ ∈ zgw := zgw_0 54 rfl rfl
set_option maxRecDepth 10000 in
theorem wd_55 : Cond.selects "KnockBankModel" ⟨"KnockBankModel", "wordAt", "(II)I"⟩ ⟨"KnockBankModel", "wordAt", "(II)I"⟩ ∈ zgw := zgw_0 55 rfl rfl
set_option maxRecDepth 10000 in
theorem wd_56 : Cond.selects "KnockBankModel" ⟨"KnockBankModel", "packed", "(II)I"⟩ ⟨"KnockBankModel", "packed", "(II)I"⟩ ∈ zgw := zgw_0 56 rfl rfl
set_option maxRecDepth 10000 in
theorem wd_57 : Cond.selects "KnockBankModel" ⟨"KnockBankModel", "isDigit", "(I)Z"⟩ ⟨"KnockBankModel", "isDigit", "(I)Z"⟩ ∈ zgw := zgw_0 57 rfl rfl
set_option maxRecDepth 10000 in
theorem wd_58 : Cond.selects "KnockBankModel" ⟨"KnockBankModel", "signToken", "()V"⟩ ⟨"KnockBankModel", "signToken", "()V"⟩ ∈ zgw := zgw_0 58 rfl rfl
set_option maxRecDepth 10000 in
theorem wd_59 : Cond.selects "KnockBankModel" ⟨"KnockBankModel", "lineRead", "()Z"⟩ ⟨"KnockBankModel", "lineRead", "()Z"⟩ ∈ zgw := zgw_0 59 rfl rfl
set_option maxRecDepth 10000 in
theorem wd_60 : Cond.selects "KnockBankModel" ⟨"KnockBankModel", "wrong", "(I)Z"⟩ ⟨"KnockBankModel", "wrong", "(I)Z"⟩ ∈ zgw := zgw_0 60 rfl rfl
set_option maxRecDepth 10000 in
theorem wd_61 : Cond.selects "KnockBankModel" ⟨"KnockBankModel", "handLine", "()Z"⟩ ⟨"KnockBankModel", "handLine", "()Z"⟩ ∈ zgw := zgw_0 61 rfl rfl
set_option maxRecDepth 10000 in
theorem wd_62 : Cond.selects "KnockBankModel" ⟨"KnockBankModel", "newName", "([III)Z"⟩ ⟨"KnockBankModel", "newName", "([III)Z"⟩ ∈ zgw := zgw_0 62 rfl rfl
set_option maxRecDepth 10000 in
theorem wd_63 : Cond.selects "KnockBankModel" ⟨"KnockBankModel", "number", "(II)Z"⟩ ⟨"KnockBankModel", "number", "(II)Z"⟩ ∈ zgw := zgw_0 63 rfl rfl
set_option maxRecDepth 10000 in
theorem wd_64 : Cond.selects "KnockBankModel" ⟨"KnockBankModel", "woodLine", "()Z"⟩ ⟨"KnockBankModel", "woodLine", "()Z"⟩ ∈ zgw := zgw_0 64 rfl rfl
set_option maxRecDepth 10000 in
theorem wd_65 : Cond.selects "KnockBankModel" ⟨"KnockBankModel", "thereIn", "([III)Z"⟩ ⟨"KnockBankModel", "thereIn", "([III)Z"⟩ ∈ zgw := zgw_0 65 rfl rfl
set_option maxRecDepth 10000 in
theorem wd_66 : Cond.selects "KnockBankModel" ⟨"KnockBankModel", "rapLine", "()Z"⟩ ⟨"KnockBankModel", "rapLine", "()Z"⟩ ∈ zgw := zgw_0 66 rfl rfl
set_option maxRecDepth 10000 in
theorem wd_67 : Cond.selects "KnockBankModel" ⟨"KnockBankModel", "onceLine", "(II)Z"⟩ ⟨"KnockBankModel", "onceLine", "(II)Z"⟩ ∈ zgw := zgw_0 67 rfl rfl
set_option maxRecDepth 10000 in
theorem wd_68 : Cond.selects "KnockBankModel" ⟨"KnockBankModel", "sumRead", "()Z"⟩ ⟨"KnockBankModel", "sumRead", "()Z"⟩ ∈ zgw := zgw_0 68 rfl rfl
set_option maxRecDepth 10000 in
theorem wd_69 : Cond.selects "KnockBankModel" ⟨"KnockBankModel", "isSign", "(I)Z"⟩ ⟨"KnockBankModel", "isSign", "(I)Z"⟩ ∈ zgw := zgw_0 69 rfl rfl
set_option maxRecDepth 10000 in
theorem wd_70 : Cond.selects "KnockBankModel" ⟨"KnockBankModel", "leafRead", "()Z"⟩ ⟨"KnockBankModel", "leafRead", "()Z"⟩ ∈ zgw := zgw_0 70 rfl rfl
set_option maxRecDepth 10000 in
theorem wd_71 : Cond.selects "KnockBankModel" ⟨"KnockBankModel", "waitsFor", "(I)V"⟩ ⟨"KnockBankModel", "waitsFor", "(I)V"⟩ ∈ zgw := zgw_0 71 rfl rfl
set_option maxRecDepth 10000 in
theorem wd_72 : Cond.selects "KnockBankModel" ⟨"KnockBankModel", "isKey", "(I)Z"⟩ ⟨"KnockBankModel", "isKey", "(I)Z"⟩ ∈ zgw := zgw_0 72 rfl rfl
set_option maxRecDepth 10000 in
theorem wd_73 : Cond.selects "KnockBankModel" ⟨"KnockBankModel", "isCounted", "()Z"⟩ ⟨"KnockBankModel", "isCounted", "()Z"⟩ ∈ zgw := zgw_0 73 rfl rfl
set_option maxRecDepth 10000 in
theorem wd_74 : Cond.selects "KnockBankModel" ⟨"KnockBankModel", "nameMet", "()I"⟩ ⟨"KnockBankModel", "nameMet", "()I"⟩ ∈ zgw := zgw_0 74 rfl rfl
set_option maxRecDepth 10000 in
theorem wd_75 : Cond.selects "KnockBankModel" ⟨"KnockBankModel", "grown", "(III)V"⟩ ⟨"KnockBankModel", "grown", "(III)V"⟩ ∈ zgw := zgw_0 75 rfl rfl
set_option maxRecDepth 10000 in
theorem wd_76 : Cond.selects "KnockBankModel" ⟨"KnockBankModel", "signs", "()Z"⟩ ⟨"KnockBankModel", "signs", "()Z"⟩ ∈ zgw := zgw_0 76 rfl rfl
set_option maxRecDepth 10000 in
theorem wd_77 : Cond.selects "KnockBankModel" ⟨"KnockBankModel", "bind", "(I)V"⟩ ⟨"KnockBankModel", "bind", "(I)V"⟩ ∈ zgw := zgw_0 77 rfl rfl
set_option maxRecDepth 10000 in
theorem wd_78 : Cond.selects "KnockBankModel" ⟨"KnockBankModel", "dropHeld", "()I"⟩ ⟨"KnockBankModel", "dropHeld", "()I"⟩ ∈ zgw := zgw_0 78 rfl rfl
set_option maxRecDepth 10000 in
theorem wd_79 : Cond.selects "KnockBankModel" ⟨"KnockBankModel", "isRap", "(I)Z"⟩ ⟨"KnockBankModel", "isRap", "(I)Z"⟩ ∈ zgw := zgw_0 79 rfl rfl
set_option maxRecDepth 10000 in
theorem wd_80 : Cond.selects "KnockBankModel" ⟨"KnockBankModel", "fails", "(I)I"⟩ ⟨"KnockBankModel", "fails", "(I)I"⟩ ∈ zgw := zgw_0 80 rfl rfl
set_option maxRecDepth 10000 in
theorem wd_81 : Cond.selects "KnockBankModel" ⟨"KnockBankModel", "digitsOf", "([II)I"⟩ ⟨"KnockBankModel", "digitsOf", "([II)I"⟩ ∈ zgw := zgw_0 81 rfl rfl
set_option maxRecDepth 10000 in
theorem wd_82 : Cond.selects "KnockBankModel" ⟨"KnockBankModel", "isHand", "(I)Z"⟩ ⟨"KnockBankModel", "isHand", "(I)Z"⟩ ∈ zgw := zgw_0 82 rfl rfl
set_option maxRecDepth 10000 in
theorem wd_83 : Cond.selects "KnockBankModel" ⟨"KnockBankModel", "isWood", "(I)Z"⟩ ⟨"KnockBankModel", "isWood", "(I)Z"⟩ ∈ zgw := zgw_0 83 rfl rfl
set_option maxRecDepth 10000 in
theorem wd_84 : Cond.selects "KnockBankModel" ⟨"KnockBankModel", "layNames", "(IIIII)V"⟩ ⟨"KnockBankModel", "layNames", "(IIIII)V"⟩ ∈ zgw := zgw_0 84 rfl rfl
set_option maxRecDepth 10000 in
theorem wd_85 : Cond.selects "KnockBankModel" ⟨"KnockBankModel", "coldIn", "(II)I"⟩ ⟨"KnockBankModel", "coldIn", "(II)I"⟩ ∈ zgw := zgw_0 85 rfl rfl
set_option maxRecDepth 10000 in
theorem wd_86 : Cond.selects "KnockBankModel" ⟨"KnockBankModel", "agedOf", "(I)I"⟩ ⟨"KnockBankModel", "agedOf", "(I)I"⟩ ∈ zgw := zgw_0 86 rfl rfl
set_option maxRecDepth 10000 in
theorem wd_87 : Cond.selects "KnockBankModel" ⟨"KnockBankModel", "hardOf", "(I)I"⟩ ⟨"KnockBankModel", "hardOf", "(I)I"⟩ ∈ zgw := zgw_0 87 rfl rfl
set_option maxRecDepth 10000 in
theorem wd_88 : Cond.selects "KnockBankModel" ⟨"KnockBankModel", "lawOf", "(I)J"⟩ ⟨"KnockBankModel", "lawOf", "(I)J"⟩ ∈ zgw := zgw_0 88 rfl rfl
set_option maxRecDepth 10000 in
theorem wd_89 : Cond.selects "KnockBankModel" ⟨"KnockBankModel", "valueOf", "(I)J"⟩ ⟨"KnockBankModel", "valueOf", "(I)J"⟩ ∈ zgw := zgw_0 89 rfl rfl
set_option maxRecDepth 10000 in
theorem wd_90 : Cond.selects "KnockBankModel" ⟨"KnockBankModel", "bounded", "(J)J"⟩ ⟨"KnockBankModel", "bounded", "(J)J"⟩ ∈ zgw := zgw_0 90 rfl rfl
set_option maxRecDepth 10000 in
theorem wd_91 : Cond.selects "KnockBankModel" ⟨"KnockBankModel", "times", "(JJ)J"⟩ ⟨"KnockBankModel", "times", "(JJ)J"⟩ ∈ zgw := zgw_0 91 rfl rfl
set_option maxRecDepth 10000 in
theorem wd_92 : Cond.selects "KnockBankModel" ⟨"KnockBankModel", "remember", "()V"⟩ ⟨"KnockBankModel", "remember", "()V"⟩ ∈ zgw := zgw_0 92 rfl rfl
set_option maxRecDepth 10000 in
theorem wd_93 : Cond.selects "KnockBankModel" ⟨"KnockBankModel", "put", "([II)V"⟩ ⟨"KnockBankModel", "put", "([II)V"⟩ ∈ zgw := zgw_0 93 rfl rfl
set_option maxRecDepth 10000 in
theorem wd_94 : Cond.selects "KnockBankModel" ⟨"KnockBankModel", "dayGoes", "(I)V"⟩ ⟨"KnockBankModel", "dayGoes", "(I)V"⟩ ∈ zgw := zgw_0 94 rfl rfl
set_option maxRecDepth 10000 in
theorem wd_95 : Cond.selects "KnockBankModel" ⟨"KnockBankModel", "fades", "(II)V"⟩ ⟨"KnockBankModel", "fades", "(II)V"⟩ ∈ zgw := zgw_0 95 rfl rfl
set_option maxRecDepth 10000 in
theorem wd_96 : Cond.selects "KnockBankModel" ⟨"KnockBankModel", "boundLaw", "(III)I"⟩ ⟨"KnockBankModel", "boundLaw", "(III)I"⟩ ∈ zgw := zgw_0 96 rfl rfl
set_option maxRecDepth 10000 in
theorem wd_97 : Cond.selects "KnockBankModel" ⟨"KnockBankModel", "raps", "(II)V"⟩ ⟨"KnockBankModel", "raps", "(II)V"⟩ ∈ zgw := zgw_0 97 rfl rfl
set_option maxRecDepth 10000 in
theorem wd_98 : Cond.selects "KnockBankModel" ⟨"KnockBankModel", "isLonger", "(IIII)Z"⟩ ⟨"KnockBankModel", "isLonger", "(IIII)Z"⟩ ∈ zgw := zgw_0 98 rfl rfl
set_option maxRecDepth 10000 in
theorem wd_99 : Cond.selects "KnockBankModel" ⟨"KnockBankModel", "shakeOf", "(IIII)I"⟩ ⟨"KnockBankModel", "shakeOf", "(IIII)I"⟩ ∈ zgw := zgw_0 99 rfl rfl
set_option maxRecDepth 10000 in
theorem wd_100 : Cond.selects "KnockBankModel" ⟨"KnockBankModel", "number1", "(I)I"⟩ ⟨"KnockBankModel", "number1", "(I)I"⟩ ∈ zgw := zgw_0 100 rfl rfl
set_option maxRecDepth 10000 in
theorem wd_101 : Cond.selects "KnockBankModel" ⟨"KnockBankModel", "boundBy", "(II)I"⟩ ⟨"KnockBankModel", "boundBy", "(II)I"⟩ ∈ zgw := zgw_0 101 rfl rfl
set_option maxRecDepth 10000 in
theorem wd_102 : Cond.selects "KnockBankModel" ⟨"KnockBankModel", "apartFrom", "(I)I"⟩ ⟨"KnockBankModel", "apartFrom", "(I)I"⟩ ∈ zgw := zgw_0 102 rfl rfl
set_option maxRecDepth 10000 in
theorem wd_103 : Cond.selects "KnockBankModel" ⟨"KnockBankModel", "layTried", "()V"⟩ ⟨"KnockBankModel", "layTried", "()V"⟩ ∈ zgw := zgw_0 103 rfl rfl
set_option maxRecDepth 10000 in
theorem wd_104 : Cond.selects "KnockBankModel" ⟨"KnockBankModel", "goMany", "(I)V"⟩ ⟨"KnockBankModel", "goMany", "(I)V"⟩ ∈ zgw := zgw_0 104 rfl rfl
set_option maxRecDepth 10000 in
theorem wd_105 : Cond.selects "KnockBankModel" ⟨"KnockBankModel", "areIn", "(II)I"⟩ ⟨"KnockBankModel", "areIn", "(II)I"⟩ ∈ zgw := zgw_0 105 rfl rfl
set_option maxRecDepth 10000 in
theorem wd_106 : Cond.selects "KnockBankModel" ⟨"KnockBankModel", "wrongIn", "(I)I"⟩ ⟨"KnockBankModel", "wrongIn", "(I)I"⟩ ∈ zgw := zgw_0 106 rfl rfl
set_option maxRecDepth 10000 in
theorem wd_107 : Cond.selects "KnockBankModel" ⟨"KnockBankModel", "fadedIn", "(I)I"⟩ ⟨"KnockBankModel", "fadedIn", "(I)I"⟩ ∈ zgw := zgw_0 107 rfl rfl
set_option maxRecDepth 10000 in
theorem wd_108 : Cond.selects "KnockBankModel" ⟨"KnockBankModel", "apartOf", "(II)I"⟩ ⟨"KnockBankModel", "apartOf", "(II)I"⟩ ∈ zgw := zgw_0 108 rfl rfl
set_option maxRecDepth 10000 in
theorem wd_109 : Cond.selects "KnockBankModel" ⟨"KnockBankModel", "layAsked", "(I)V"⟩ ⟨"KnockBankModel", "layAsked", "(I)V"⟩ ∈ zgw := zgw_0 109 rfl rfl
set_option maxRecDepth 10000 in
theorem wd_110 : Cond.selects "KnockBankModel" ⟨"KnockBankModel", "leastApart", "()I"⟩ ⟨"KnockBankModel", "leastApart", "()I"⟩ ∈ zgw := zgw_0 110 rfl rfl
set_option maxRecDepth 10000 in
theorem wd_111 : Cond.selects "KnockBankModel" ⟨"KnockBankModel", "isKnock", "(I)Z"⟩ ⟨"KnockBankModel", "isKnock", "(I)Z"⟩ ∈ zgw := zgw_0 111 rfl rfl
set_option maxRecDepth 10000 in
theorem wd_112 : Cond.selects "KnockBankModel" ⟨"KnockBankModel", "surely", "(II)J"⟩ ⟨"KnockBankModel", "surely", "(II)J"⟩ ∈ zgw := zgw_0 112 rfl rfl
set_option maxRecDepth 10000 in
theorem wd_113 : Cond.selects "KnockBankModel" ⟨"KnockBankModel", "tellsAll", "(I)Z"⟩ ⟨"KnockBankModel", "tellsAll", "(I)Z"⟩ ∈ zgw := zgw_0 113 rfl rfl
set_option maxRecDepth 10000 in
theorem wd_114 : Cond.selects "KnockBankModel" ⟨"KnockBankModel", "masked", "(II)I"⟩ ⟨"KnockBankModel", "masked", "(II)I"⟩ ∈ zgw := zgw_0 114 rfl rfl
set_option maxRecDepth 10000 in
theorem wd_115 : Cond.selects "KnockBankModel" ⟨"KnockBankModel", "restAt", "(III)I"⟩ ⟨"KnockBankModel", "restAt", "(III)I"⟩ ∈ zgw := zgw_0 115 rfl rfl
set_option maxRecDepth 10000 in
theorem wd_116 : Cond.selects "KnockBankModel" ⟨"KnockBankModel", "hasBy", "(III)I"⟩ ⟨"KnockBankModel", "hasBy", "(III)I"⟩ ∈ zgw := zgw_0 116 rfl rfl
set_option maxRecDepth 10000 in
theorem wd_117 : Cond.selects "KnockBankModel" ⟨"KnockBankModel", "takes", "(II)Z"⟩ ⟨"KnockBankModel", "takes", "(II)Z"⟩ ∈ zgw := zgw_0 117 rfl rfl
set_option maxRecDepth 10000 in
theorem wd_118 : Cond.selects "KnockBankModel" ⟨"KnockBankModel", "noted", "(III)I"⟩ ⟨"KnockBankModel", "noted", "(III)I"⟩ ∈ zgw := zgw_0 118 rfl rfl
set_option maxRecDepth 10000 in
theorem wd_119 : Cond.selects "KnockBankModel" ⟨"KnockBankModel", "knownBy", "()I"⟩ ⟨"KnockBankModel", "knownBy", "()I"⟩ ∈ zgw := zgw_0 119 rfl rfl
set_option maxRecDepth 10000 in
theorem wd_120 : Cond.selects "KnockBankModel" ⟨"KnockBankModel", "isSo", "(I)Z"⟩ ⟨"KnockBankModel", "isSo", "(I)Z"⟩ ∈ zgw := zgw_0 120 rfl rfl
set_option maxRecDepth 10000 in
theorem wd_121 : Cond.selects "KnockBankModel" ⟨"KnockBankModel", "take", "([II)V"⟩ ⟨"KnockBankModel", "take", "([II)V"⟩ ∈ zgw := zgw_0 121 rfl rfl
set_option maxRecDepth 10000 in
theorem wd_123 : Cond.initialized "KnockBank" ∈ zgw := zgw_1 1 rfl rfl
set_option maxRecDepth 10000 in
theorem wd_124 : Cond.initialized "KnockBank$Reader" ∈ zgw := zgw_1 2 rfl rfl
set_option maxRecDepth 10000 in
theorem wd_125 : Cond.initialized "KnockBank$Scanner" ∈ zgw := zgw_1 3 rfl rfl
set_option maxRecDepth 10000 in
theorem wd_130 : Cond.initialized "KnockBank$Scene" ∈ zgw := zgw_1 8 rfl rfl
set_option maxRecDepth 10000 in
theorem wd_131 : Cond.initialized "KnockBank$Deeds" ∈ zgw := zgw_1 9 rfl rfl
set_option maxRecDepth 10000 in
theorem wd_132 : Cond.initialized "KnockBank$Overheard" ∈ zgw := zgw_1 10 rfl rfl
set_option maxRecDepth 10000 in
theorem wd_133 : Cond.initialized "KnockBank$Row" ∈ zgw := zgw_1 11 rfl rfl
set_option maxRecDepth 10000 in
theorem wd_134 : Cond.initialized "KnockBank$Text" ∈ zgw := zgw_1 12 rfl rfl
set_option maxRecDepth 10000 in
theorem wd_135 : Cond.initialized "KnockBank$Hand" ∈ zgw := zgw_1 13 rfl rfl
set_option maxRecDepth 10000 in
theorem wd_138 : Cond.initialized "KnockBank$Law" ∈ zgw := zgw_1 16 rfl rfl
set_option maxRecDepth 10000 in
theorem wd_139 : Cond.initialized "KnockBankModel" ∈ zgw := zgw_1 17 rfl rfl
set_option maxRecDepth 10000 in
theorem wd_140 : Cond.initialized "java/lang/Math" ∈ zgw := zgw_1 18 rfl rfl
set_option maxRecDepth 10000 in
theorem wd_146 : Cond.initialized "java/lang/Integer" ∈ zgw := zgw_1 24 rfl rfl
set_option maxRecDepth 10000 in
theorem wd_147 : Cond.initialized "java/lang/System" ∈ zgw := zgw_1 25 rfl rfl
set_option maxRecDepth 10000 in
theorem wd_217 : Cond.methodLink "KnockBank$Scanner" 36 ⟨"KnockBank$Scanner", "letterBits", "(II)I"⟩ ∈ zgw := zgw_1 95 rfl rfl
set_option maxRecDepth 10000 in
theorem wd_218 : Cond.static ⟨"KnockBank$Scanner", "letterBits", "(II)I"⟩ ∈ zgw := zgw_1 96 rfl rfl
set_option maxRecDepth 10000 in
theorem wd_219 : Cond.code ⟨"KnockBank$Scanner", "letterBits", "(II)I"⟩ prog_9_method_13_code 3 (some .int) ∈ zgw := zgw_1 97 rfl rfl
set_option maxRecDepth 10000 in
theorem wd_220 : Cond.fieldLink "KnockBank$Scanner" 11 "KnockBank$Scanner" "words" "[I" ∈ zgw := zgw_1 98 rfl rfl
set_option maxRecDepth 10000 in
theorem wd_221 : Cond.fieldLink "KnockBank$Scanner" 15 "KnockBank$Scanner" "kinds" "[I" ∈ zgw := zgw_1 99 rfl rfl
set_option maxRecDepth 10000 in
theorem wd_222 : Cond.fieldLink "KnockBank$Scanner" 18 "KnockBank$Scanner" "starts" "[I" ∈ zgw := zgw_1 100 rfl rfl
set_option maxRecDepth 10000 in
theorem wd_223 : Cond.fieldLink "KnockBank$Scanner" 21 "KnockBank$Scanner" "values" "[I" ∈ zgw := zgw_1 101 rfl rfl
set_option maxRecDepth 10000 in
theorem wd_224 : Cond.fieldLink "KnockBank$Scanner" 40 "KnockBank$Scanner" "bytes" "[B" ∈ zgw := zgw_1 102 rfl rfl
set_option maxRecDepth 10000 in
theorem wd_225 : Cond.fieldLink "KnockBank$Scanner" 49 "KnockBank$Scanner" "length" "I" ∈ zgw := zgw_1 103 rfl rfl
set_option maxRecDepth 10000 in
theorem wd_226 : Cond.fieldLink "KnockBank$Scanner" 52 "KnockBank$Scanner" "at" "I" ∈ zgw := zgw_1 104 rfl rfl
set_option maxRecDepth 10000 in
theorem wd_227 : Cond.fieldLink "KnockBank$Scanner" 70 "KnockBank$Scanner" "current" "I" ∈ zgw := zgw_1 105 rfl rfl
set_option maxRecDepth 10000 in
theorem wd_228 : Cond.fieldLink "KnockBank$Scanner" 55 "KnockBank$Scanner" "count" "I" ∈ zgw := zgw_1 106 rfl rfl
set_option maxRecDepth 10000 in
theorem wd_229 : Cond.fieldLink "KnockBank$Reader" 46 "KnockBank$Scanner" "count" "I" ∈ zgw := zgw_1 107 rfl rfl
set_option maxRecDepth 10000 in
theorem wd_230 : Cond.fieldLink "KnockBank$Scanner" 58 "KnockBank$Scanner" "kind" "I" ∈ zgw := zgw_1 108 rfl rfl
set_option maxRecDepth 10000 in
theorem wd_231 : Cond.fieldLink "KnockBank$Reader" 49 "KnockBank$Scanner" "kind" "I" ∈ zgw := zgw_1 109 rfl rfl
set_option maxRecDepth 10000 in
theorem wd_232 : Cond.fieldLink "KnockBank$Scanner" 64 "KnockBank$Scanner" "start" "I" ∈ zgw := zgw_1 110 rfl rfl
set_option maxRecDepth 10000 in
theorem wd_233 : Cond.fieldLink "KnockBank$Reader" 55 "KnockBank$Scanner" "start" "I" ∈ zgw := zgw_1 111 rfl rfl
set_option maxRecDepth 10000 in
theorem wd_234 : Cond.fieldLink "KnockBank$Scanner" 67 "KnockBank$Scanner" "value" "I" ∈ zgw := zgw_1 112 rfl rfl
set_option maxRecDepth 10000 in
theorem wd_235 : Cond.fieldLink "KnockBank$Reader" 89 "KnockBank$Scanner" "value" "I" ∈ zgw := zgw_1 113 rfl rfl
set_option maxRecDepth 10000 in
theorem wd_263 : Cond.fieldLink "KnockBank$Reader" 12 "KnockBank$Reader" "scanner" "LKnockBank$Scanner;" ∈ zgw := zgw_1 141 rfl rfl
set_option maxRecDepth 10000 in
theorem wd_264 : Cond.fieldLink "KnockBank$Reader" 20 "KnockBank$Reader" "signs" "[I" ∈ zgw := zgw_1 142 rfl rfl
set_option maxRecDepth 10000 in
theorem wd_265 : Cond.fieldLink "KnockBank$Reader" 24 "KnockBank$Reader" "isCompared" "[Z" ∈ zgw := zgw_1 143 rfl rfl
set_option maxRecDepth 10000 in
theorem wd_266 : Cond.fieldLink "KnockBank$Reader" 35 "KnockBank$Reader" "text" "LKnockBank$Text;" ∈ zgw := zgw_1 144 rfl rfl
set_option maxRecDepth 10000 in
theorem wd_267 : Cond.fieldLink "KnockBank$Reader" 189 "KnockBank$Reader" "law" "LKnockBank$Law;" ∈ zgw := zgw_1 145 rfl rfl
set_option maxRecDepth 10000 in
theorem wd_268 : Cond.fieldLink "KnockBank$Reader" 201 "KnockBank$Reader" "height" "I" ∈ zgw := zgw_1 146 rfl rfl
set_option maxRecDepth 10000 in
theorem wd_269 : Cond.fieldLink "KnockBank$Reader" 204 "KnockBank$Reader" "open" "I" ∈ zgw := zgw_1 147 rfl rfl
set_option maxRecDepth 10000 in
theorem wd_270 : Cond.fieldLink "KnockBank$Reader" 207 "KnockBank$Reader" "mayNegate" "Z" ∈ zgw := zgw_1 148 rfl rfl
set_option maxRecDepth 10000 in
theorem wd_271 : Cond.fieldLink "KnockBank$Reader" 28 "KnockBank$Reader" "fault" "I" ∈ zgw := zgw_1 149 rfl rfl
set_option maxRecDepth 10000 in
theorem wd_272 : Cond.fieldLink "KnockBank" 102 "KnockBank$Reader" "fault" "I" ∈ zgw := zgw_1 150 rfl rfl
set_option maxRecDepth 10000 in
theorem wd_273 : Cond.fieldLink "KnockBank$Reader" 32 "KnockBank$Reader" "place" "I" ∈ zgw := zgw_1 151 rfl rfl
set_option maxRecDepth 10000 in
theorem wd_274 : Cond.fieldLink "KnockBank" 105 "KnockBank$Reader" "place" "I" ∈ zgw := zgw_1 152 rfl rfl
set_option maxRecDepth 10000 in
theorem wd_303 : Cond.fieldLink "KnockBank$Scene" 49 "KnockBank$Scene" "text" "LKnockBank$Text;" ∈ zgw := zgw_1 181 rfl rfl
set_option maxRecDepth 10000 in
theorem wd_304 : Cond.fieldLink "KnockBank$Scene" 9 "KnockBank$Scene" "cold" "[I" ∈ zgw := zgw_1 182 rfl rfl
set_option maxRecDepth 10000 in
theorem wd_305 : Cond.fieldLink "KnockBank" 161 "KnockBank$Scene" "cold" "[I" ∈ zgw := zgw_1 183 rfl rfl
set_option maxRecDepth 10000 in
theorem wd_306 : Cond.fieldLink "KnockBank$Scene" 15 "KnockBank$Scene" "aged" "[I" ∈ zgw := zgw_1 184 rfl rfl
set_option maxRecDepth 10000 in
theorem wd_307 : Cond.fieldLink "KnockBank" 164 "KnockBank$Scene" "aged" "[I" ∈ zgw := zgw_1 185 rfl rfl
set_option maxRecDepth 10000 in
theorem wd_308 : Cond.fieldLink "KnockBank$Scene" 18 "KnockBank$Scene" "rapped" "[I" ∈ zgw := zgw_1 186 rfl rfl
set_option maxRecDepth 10000 in
theorem wd_309 : Cond.fieldLink "KnockBank" 180 "KnockBank$Scene" "rapped" "[I" ∈ zgw := zgw_1 187 rfl rfl
set_option maxRecDepth 10000 in
theorem wd_310 : Cond.fieldLink "KnockBank$Scene" 21 "KnockBank$Scene" "hard" "[I" ∈ zgw := zgw_1 188 rfl rfl
set_option maxRecDepth 10000 in
theorem wd_311 : Cond.fieldLink "KnockBank" 198 "KnockBank$Scene" "hard" "[I" ∈ zgw := zgw_1 189 rfl rfl
set_option maxRecDepth 10000 in
theorem wd_312 : Cond.fieldLink "KnockBank$Scene" 24 "KnockBank$Scene" "owner" "[I" ∈ zgw := zgw_1 190 rfl rfl
set_option maxRecDepth 10000 in
theorem wd_313 : Cond.fieldLink "KnockBank" 201 "KnockBank$Scene" "owner" "[I" ∈ zgw := zgw_1 191 rfl rfl
set_option maxRecDepth 10000 in
theorem wd_314 : Cond.fieldLink "KnockBank$Scene" 27 "KnockBank$Scene" "wood" "[I" ∈ zgw := zgw_1 192 rfl rfl
set_option maxRecDepth 10000 in
theorem wd_315 : Cond.fieldLink "KnockBank" 135 "KnockBank$Scene" "wood" "[I" ∈ zgw := zgw_1 193 rfl rfl
set_option maxRecDepth 10000 in
theorem wd_316 : Cond.fieldLink "KnockBank$Scene" 30 "KnockBank$Scene" "when" "[I" ∈ zgw := zgw_1 194 rfl rfl
set_option maxRecDepth 10000 in
theorem wd_317 : Cond.fieldLink "KnockBank" 138 "KnockBank$Scene" "when" "[I" ∈ zgw := zgw_1 195 rfl rfl
set_option maxRecDepth 10000 in
theorem wd_318 : Cond.fieldLink "KnockBank$Scene" 33 "KnockBank$Scene" "status" "[I" ∈ zgw := zgw_1 196 rfl rfl
set_option maxRecDepth 10000 in
theorem wd_319 : Cond.fieldLink "KnockBank" 141 "KnockBank$Scene" "status" "[I" ∈ zgw := zgw_1 197 rfl rfl
set_option maxRecDepth 10000 in
theorem wd_320 : Cond.fieldLink "KnockBank$Scene" 36 "KnockBank$Scene" "bound" "[I" ∈ zgw := zgw_1 198 rfl rfl
set_option maxRecDepth 10000 in
theorem wd_321 : Cond.fieldLink "KnockBank" 144 "KnockBank$Scene" "bound" "[I" ∈ zgw := zgw_1 199 rfl rfl
set_option maxRecDepth 10000 in
theorem wd_322 : Cond.fieldLink "KnockBank$Scene" 39 "KnockBank$Scene" "heard" "[I" ∈ zgw := zgw_1 200 rfl rfl
set_option maxRecDepth 10000 in
theorem wd_324 : Cond.fieldLink "KnockBank$Scene" 42 "KnockBank$Scene" "ear" "[I" ∈ zgw := zgw_1 202 rfl rfl
set_option maxRecDepth 10000 in
theorem wd_325 : Cond.fieldLink "KnockBank" 335 "KnockBank$Scene" "ear" "[I" ∈ zgw := zgw_1 203 rfl rfl
set_option maxRecDepth 10000 in
theorem wd_326 : Cond.fieldLink "KnockBank$Scene" 45 "KnockBank$Scene" "names" "[J" ∈ zgw := zgw_1 204 rfl rfl
set_option maxRecDepth 10000 in
theorem wd_327 : Cond.fieldLink "KnockBank$Scene" 53 "KnockBank$Scene" "day" "I" ∈ zgw := zgw_1 205 rfl rfl
set_option maxRecDepth 10000 in
theorem wd_328 : Cond.fieldLink "KnockBank" 224 "KnockBank$Scene" "day" "I" ∈ zgw := zgw_1 206 rfl rfl
set_option maxRecDepth 10000 in
theorem wd_329 : Cond.fieldLink "KnockBank$Scene" 65 "KnockBank$Scene" "number" "I" ∈ zgw := zgw_1 207 rfl rfl
set_option maxRecDepth 10000 in
theorem wd_330 : Cond.fieldLink "KnockBank" 393 "KnockBank$Scene" "number" "I" ∈ zgw := zgw_1 208 rfl rfl
set_option maxRecDepth 10000 in
theorem wd_331 : Cond.fieldLink "KnockBank$Scene" 71 "KnockBank$Scene" "like" "I" ∈ zgw := zgw_1 209 rfl rfl
set_option maxRecDepth 10000 in
theorem wd_332 : Cond.fieldLink "KnockBank" 344 "KnockBank$Scene" "like" "I" ∈ zgw := zgw_1 210 rfl rfl
set_option maxRecDepth 10000 in
theorem wd_333 : Cond.fieldLink "KnockBank$Scene" 72 "KnockBank$Scene" "silent" "I" ∈ zgw := zgw_1 211 rfl rfl
set_option maxRecDepth 10000 in
theorem wd_334 : Cond.fieldLink "KnockBank" 402 "KnockBank$Scene" "silent" "I" ∈ zgw := zgw_1 212 rfl rfl
set_option maxRecDepth 10000 in
theorem wd_335 : Cond.fieldLink "KnockBank$Scene" 57 "KnockBank$Scene" "faded" "I" ∈ zgw := zgw_1 213 rfl rfl
set_option maxRecDepth 10000 in
theorem wd_336 : Cond.fieldLink "KnockBank" 227 "KnockBank$Scene" "faded" "I" ∈ zgw := zgw_1 214 rfl rfl
set_option maxRecDepth 10000 in
theorem wd_381 : Cond.fieldLink "KnockBank$Deeds" 9 "KnockBank$Deeds" "rows" "[I" ∈ zgw := zgw_2 19 rfl rfl
set_option maxRecDepth 10000 in
theorem wd_382 : Cond.fieldLink "KnockBank$Deeds" 13 "KnockBank$Deeds" "size" "I" ∈ zgw := zgw_2 20 rfl rfl
set_option maxRecDepth 10000 in
theorem wd_383 : Cond.fieldLink "KnockBank" 408 "KnockBank$Deeds" "size" "I" ∈ zgw := zgw_2 21 rfl rfl
set_option maxRecDepth 10000 in
theorem wd_384 : Cond.fieldLink "KnockBank$Deeds" 23 "KnockBank$Deeds" "kind" "I" ∈ zgw := zgw_2 22 rfl rfl
set_option maxRecDepth 10000 in
theorem wd_385 : Cond.fieldLink "KnockBank" 412 "KnockBank$Deeds" "kind" "I" ∈ zgw := zgw_2 23 rfl rfl
set_option maxRecDepth 10000 in
theorem wd_386 : Cond.fieldLink "KnockBank$Deeds" 26 "KnockBank$Deeds" "which" "I" ∈ zgw := zgw_2 24 rfl rfl
set_option maxRecDepth 10000 in
theorem wd_387 : Cond.fieldLink "KnockBank" 415 "KnockBank$Deeds" "which" "I" ∈ zgw := zgw_2 25 rfl rfl
set_option maxRecDepth 10000 in
theorem wd_388 : Cond.fieldLink "KnockBank$Deeds" 29 "KnockBank$Deeds" "first" "I" ∈ zgw := zgw_2 26 rfl rfl
set_option maxRecDepth 10000 in
theorem wd_389 : Cond.fieldLink "KnockBank" 418 "KnockBank$Deeds" "first" "I" ∈ zgw := zgw_2 27 rfl rfl
set_option maxRecDepth 10000 in
theorem wd_390 : Cond.fieldLink "KnockBank$Deeds" 32 "KnockBank$Deeds" "second" "I" ∈ zgw := zgw_2 28 rfl rfl
set_option maxRecDepth 10000 in
theorem wd_391 : Cond.fieldLink "KnockBank" 421 "KnockBank$Deeds" "second" "I" ∈ zgw := zgw_2 29 rfl rfl
set_option maxRecDepth 10000 in
theorem wd_411 : Cond.fieldLink "KnockBank$Overheard" 11 "KnockBank$Overheard" "rap" "[I" ∈ zgw := zgw_2 49 rfl rfl
set_option maxRecDepth 10000 in
theorem wd_412 : Cond.fieldLink "KnockBank" 373 "KnockBank$Overheard" "rap" "[I" ∈ zgw := zgw_2 50 rfl rfl
set_option maxRecDepth 10000 in
theorem wd_413 : Cond.fieldLink "KnockBank$Overheard" 15 "KnockBank$Overheard" "place" "[I" ∈ zgw := zgw_2 51 rfl rfl
set_option maxRecDepth 10000 in
theorem wd_414 : Cond.fieldLink "KnockBank" 385 "KnockBank$Overheard" "place" "[I" ∈ zgw := zgw_2 52 rfl rfl
set_option maxRecDepth 10000 in
theorem wd_415 : Cond.fieldLink "KnockBank$Overheard" 18 "KnockBank$Overheard" "isLonger" "[Z" ∈ zgw := zgw_2 53 rfl rfl
set_option maxRecDepth 10000 in
theorem wd_416 : Cond.fieldLink "KnockBank" 390 "KnockBank$Overheard" "isLonger" "[Z" ∈ zgw := zgw_2 54 rfl rfl
set_option maxRecDepth 10000 in
theorem wd_417 : Cond.fieldLink "KnockBank$Overheard" 22 "KnockBank$Overheard" "target" "[I" ∈ zgw := zgw_2 55 rfl rfl
set_option maxRecDepth 10000 in
theorem wd_418 : Cond.fieldLink "KnockBank$Overheard" 25 "KnockBank$Overheard" "isStruck" "[Z" ∈ zgw := zgw_2 56 rfl rfl
set_option maxRecDepth 10000 in
theorem wd_419 : Cond.fieldLink "KnockBank$Overheard" 28 "KnockBank$Overheard" "size" "I" ∈ zgw := zgw_2 57 rfl rfl
set_option maxRecDepth 10000 in
theorem wd_420 : Cond.fieldLink "KnockBank" 355 "KnockBank$Overheard" "size" "I" ∈ zgw := zgw_2 58 rfl rfl
set_option maxRecDepth 10000 in
theorem wd_421 : Cond.fieldLink "KnockBank$Overheard" 32 "KnockBank$Overheard" "limit" "I" ∈ zgw := zgw_2 59 rfl rfl
set_option maxRecDepth 10000 in
theorem wd_422 : Cond.fieldLink "KnockBank" 361 "KnockBank$Overheard" "limit" "I" ∈ zgw := zgw_2 60 rfl rfl
set_option maxRecDepth 10000 in
theorem wd_444 : Cond.fieldLink "KnockBank$Row" 9 "KnockBank$Row" "hands" "[I" ∈ zgw := zgw_2 82 rfl rfl
set_option maxRecDepth 10000 in
theorem wd_445 : Cond.fieldLink "KnockBank" 322 "KnockBank$Row" "hands" "[I" ∈ zgw := zgw_2 83 rfl rfl
set_option maxRecDepth 10000 in
theorem wd_446 : Cond.fieldLink "KnockBank$Row" 15 "KnockBank$Row" "fewest" "[I" ∈ zgw := zgw_2 84 rfl rfl
set_option maxRecDepth 10000 in
theorem wd_447 : Cond.fieldLink "KnockBank$Row" 18 "KnockBank$Row" "text" "LKnockBank$Text;" ∈ zgw := zgw_2 85 rfl rfl
set_option maxRecDepth 10000 in
theorem wd_448 : Cond.fieldLink "KnockBank$Row" 26 "KnockBank$Row" "length" "I" ∈ zgw := zgw_2 86 rfl rfl
set_option maxRecDepth 10000 in
theorem wd_449 : Cond.fieldLink "KnockBank" 319 "KnockBank$Row" "length" "I" ∈ zgw := zgw_2 87 rfl rfl
set_option maxRecDepth 10000 in
theorem wd_450 : Cond.fieldLink "KnockBank$Row" 30 "KnockBank$Row" "masked" "I" ∈ zgw := zgw_2 88 rfl rfl
set_option maxRecDepth 10000 in
theorem wd_451 : Cond.fieldLink "KnockBank" 316 "KnockBank$Row" "masked" "I" ∈ zgw := zgw_2 89 rfl rfl
set_option maxRecDepth 10000 in
theorem wd_482 : Cond.fieldLink "KnockBank$Hand" 9 "KnockBank$Hand" "beats" "[I" ∈ zgw := zgw_2 120 rfl rfl
set_option maxRecDepth 10000 in
theorem wd_483 : Cond.fieldLink "KnockBank$Scene" 124 "KnockBank$Hand" "beats" "[I" ∈ zgw := zgw_2 121 rfl rfl
set_option maxRecDepth 10000 in
theorem wd_484 : Cond.fieldLink "KnockBank" 171 "KnockBank$Hand" "beats" "[I" ∈ zgw := zgw_2 122 rfl rfl
set_option maxRecDepth 10000 in
theorem wd_485 : Cond.fieldLink "KnockBank$Reader" 125 "KnockBank$Hand" "beats" "[I" ∈ zgw := zgw_2 123 rfl rfl
set_option maxRecDepth 10000 in
theorem wd_486 : Cond.fieldLink "KnockBank$Hand" 15 "KnockBank$Hand" "gaps" "[I" ∈ zgw := zgw_2 124 rfl rfl
set_option maxRecDepth 10000 in
theorem wd_487 : Cond.fieldLink "KnockBank$Text" 77 "KnockBank$Hand" "name" "I" ∈ zgw := zgw_2 125 rfl rfl
set_option maxRecDepth 10000 in
theorem wd_488 : Cond.fieldLink "KnockBank$Reader" 110 "KnockBank$Hand" "name" "I" ∈ zgw := zgw_2 126 rfl rfl
set_option maxRecDepth 10000 in
theorem wd_489 : Cond.fieldLink "KnockBank$Scene" 79 "KnockBank$Hand" "cold" "I" ∈ zgw := zgw_2 127 rfl rfl
set_option maxRecDepth 10000 in
theorem wd_490 : Cond.fieldLink "KnockBank$Reader" 119 "KnockBank$Hand" "cold" "I" ∈ zgw := zgw_2 128 rfl rfl
set_option maxRecDepth 10000 in
theorem wd_491 : Cond.fieldLink "KnockBank$Scene" 83 "KnockBank$Hand" "aged" "I" ∈ zgw := zgw_2 129 rfl rfl
set_option maxRecDepth 10000 in
theorem wd_492 : Cond.fieldLink "KnockBank$Reader" 122 "KnockBank$Hand" "aged" "I" ∈ zgw := zgw_2 130 rfl rfl
set_option maxRecDepth 10000 in
theorem wd_509 : Cond.fieldLink "KnockBank$Text" 80 "KnockBank$Wood" "name" "I" ∈ zgw := zgw_2 147 rfl rfl
set_option maxRecDepth 10000 in
theorem wd_510 : Cond.fieldLink "KnockBank$Reader" 138 "KnockBank$Wood" "name" "I" ∈ zgw := zgw_2 148 rfl rfl
set_option maxRecDepth 10000 in
theorem wd_511 : Cond.fieldLink "KnockBank$Scene" 134 "KnockBank$Wood" "keeps" "I" ∈ zgw := zgw_2 149 rfl rfl
set_option maxRecDepth 10000 in
theorem wd_512 : Cond.fieldLink "KnockBank" 193 "KnockBank$Wood" "keeps" "I" ∈ zgw := zgw_2 150 rfl rfl
set_option maxRecDepth 10000 in
theorem wd_513 : Cond.fieldLink "KnockBank$Reader" 141 "KnockBank$Wood" "keeps" "I" ∈ zgw := zgw_2 151 rfl rfl
set_option maxRecDepth 10000 in
theorem wd_514 : Cond.fieldLink "KnockBank$Scene" 89 "KnockBank$Wood" "hard" "I" ∈ zgw := zgw_2 152 rfl rfl
set_option maxRecDepth 10000 in
theorem wd_515 : Cond.fieldLink "KnockBank$Reader" 144 "KnockBank$Wood" "hard" "I" ∈ zgw := zgw_2 153 rfl rfl
set_option maxRecDepth 10000 in
theorem wd_516 : Cond.fieldLink "KnockBank$Scene" 93 "KnockBank$Wood" "owner" "I" ∈ zgw := zgw_2 154 rfl rfl
set_option maxRecDepth 10000 in
theorem wd_517 : Cond.fieldLink "KnockBank$Reader" 150 "KnockBank$Wood" "owner" "I" ∈ zgw := zgw_2 155 rfl rfl
set_option maxRecDepth 10000 in
theorem wd_532 : Cond.fieldLink "KnockBank" 130 "KnockBank$Rap" "hand" "I" ∈ zgw := zgw_2 170 rfl rfl
set_option maxRecDepth 10000 in
theorem wd_533 : Cond.fieldLink "KnockBank$Scene" 131 "KnockBank$Rap" "hand" "I" ∈ zgw := zgw_2 171 rfl rfl
set_option maxRecDepth 10000 in
theorem wd_534 : Cond.fieldLink "KnockBank$Text" 101 "KnockBank$Rap" "hand" "I" ∈ zgw := zgw_2 172 rfl rfl
set_option maxRecDepth 10000 in
theorem wd_535 : Cond.fieldLink "KnockBank$Reader" 160 "KnockBank$Rap" "hand" "I" ∈ zgw := zgw_2 173 rfl rfl
set_option maxRecDepth 10000 in
theorem wd_536 : Cond.fieldLink "KnockBank$Scene" 99 "KnockBank$Rap" "wood" "I" ∈ zgw := zgw_2 174 rfl rfl
set_option maxRecDepth 10000 in
theorem wd_537 : Cond.fieldLink "KnockBank$Reader" 165 "KnockBank$Rap" "wood" "I" ∈ zgw := zgw_2 175 rfl rfl
set_option maxRecDepth 10000 in
theorem wd_538 : Cond.fieldLink "KnockBank" 383 "KnockBank$Rap" "wood" "I" ∈ zgw := zgw_2 176 rfl rfl
set_option maxRecDepth 10000 in
theorem wd_539 : Cond.fieldLink "KnockBank$Scene" 103 "KnockBank$Rap" "day" "I" ∈ zgw := zgw_2 177 rfl rfl
set_option maxRecDepth 10000 in
theorem wd_540 : Cond.fieldLink "KnockBank$Text" 98 "KnockBank$Rap" "day" "I" ∈ zgw := zgw_2 178 rfl rfl
set_option maxRecDepth 10000 in
theorem wd_541 : Cond.fieldLink "KnockBank$Reader" 168 "KnockBank$Rap" "day" "I" ∈ zgw := zgw_2 179 rfl rfl
set_option maxRecDepth 10000 in
theorem wd_542 : Cond.fieldLink "KnockBank" 379 "KnockBank$Rap" "day" "I" ∈ zgw := zgw_2 180 rfl rfl
set_option maxRecDepth 10000 in
theorem wd_555 : Cond.fieldLink "KnockBank$Law" 11 "KnockBank$Law" "codes" "[I" ∈ zgw := zgw_2 193 rfl rfl
set_option maxRecDepth 10000 in
theorem wd_556 : Cond.fieldLink "KnockBank$Reader" 247 "KnockBank$Law" "codes" "[I" ∈ zgw := zgw_2 194 rfl rfl
set_option maxRecDepth 10000 in
theorem wd_557 : Cond.fieldLink "KnockBank$Law" 17 "KnockBank$Law" "stack" "[J" ∈ zgw := zgw_2 195 rfl rfl
set_option maxRecDepth 10000 in
theorem wd_558 : Cond.fieldLink "KnockBank$Law" 21 "KnockBank$Law" "length" "I" ∈ zgw := zgw_2 196 rfl rfl
set_option maxRecDepth 10000 in
theorem wd_559 : Cond.fieldLink "KnockBank$Text" 74 "KnockBank$Law" "length" "I" ∈ zgw := zgw_2 197 rfl rfl
set_option maxRecDepth 10000 in
theorem wd_560 : Cond.fieldLink "KnockBank$Reader" 193 "KnockBank$Law" "length" "I" ∈ zgw := zgw_2 198 rfl rfl
set_option maxRecDepth 10000 in
theorem wd_568 : Cond.fieldLink "KnockBank$Text" 11 "KnockBank$Text" "hands" "[LKnockBank$Hand;" ∈ zgw := zgw_2 206 rfl rfl
set_option maxRecDepth 10000 in
theorem wd_569 : Cond.fieldLink "KnockBank$Scene" 75 "KnockBank$Text" "hands" "[LKnockBank$Hand;" ∈ zgw := zgw_2 207 rfl rfl
set_option maxRecDepth 10000 in
theorem wd_570 : Cond.fieldLink "KnockBank$Row" 53 "KnockBank$Text" "hands" "[LKnockBank$Hand;" ∈ zgw := zgw_2 208 rfl rfl
set_option maxRecDepth 10000 in
theorem wd_571 : Cond.fieldLink "KnockBank" 167 "KnockBank$Text" "hands" "[LKnockBank$Hand;" ∈ zgw := zgw_2 209 rfl rfl
set_option maxRecDepth 10000 in
theorem wd_572 : Cond.fieldLink "KnockBank$Reader" 102 "KnockBank$Text" "hands" "[LKnockBank$Hand;" ∈ zgw := zgw_2 210 rfl rfl
set_option maxRecDepth 10000 in
theorem wd_573 : Cond.fieldLink "KnockBank$Text" 19 "KnockBank$Text" "woods" "[LKnockBank$Wood;" ∈ zgw := zgw_2 211 rfl rfl
set_option maxRecDepth 10000 in
theorem wd_574 : Cond.fieldLink "KnockBank$Scene" 85 "KnockBank$Text" "woods" "[LKnockBank$Wood;" ∈ zgw := zgw_2 212 rfl rfl
set_option maxRecDepth 10000 in
theorem wd_575 : Cond.fieldLink "KnockBank" 189 "KnockBank$Text" "woods" "[LKnockBank$Wood;" ∈ zgw := zgw_2 213 rfl rfl
set_option maxRecDepth 10000 in
theorem wd_576 : Cond.fieldLink "KnockBank$Reader" 134 "KnockBank$Text" "woods" "[LKnockBank$Wood;" ∈ zgw := zgw_2 214 rfl rfl
set_option maxRecDepth 10000 in
theorem wd_577 : Cond.fieldLink "KnockBank$Text" 25 "KnockBank$Text" "raps" "[LKnockBank$Rap;" ∈ zgw := zgw_2 215 rfl rfl
set_option maxRecDepth 10000 in
theorem wd_578 : Cond.fieldLink "KnockBank$Scene" 95 "KnockBank$Text" "raps" "[LKnockBank$Rap;" ∈ zgw := zgw_2 216 rfl rfl
set_option maxRecDepth 10000 in
theorem wd_579 : Cond.fieldLink "KnockBank" 126 "KnockBank$Text" "raps" "[LKnockBank$Rap;" ∈ zgw := zgw_2 217 rfl rfl
set_option maxRecDepth 10000 in
theorem wd_580 : Cond.fieldLink "KnockBank$Reader" 156 "KnockBank$Text" "raps" "[LKnockBank$Rap;" ∈ zgw := zgw_2 218 rfl rfl
set_option maxRecDepth 10000 in
theorem wd_581 : Cond.fieldLink "KnockBank$Text" 31 "KnockBank$Text" "laws" "[LKnockBank$Law;" ∈ zgw := zgw_2 219 rfl rfl
set_option maxRecDepth 10000 in
theorem wd_582 : Cond.fieldLink "KnockBank$Scene" 114 "KnockBank$Text" "laws" "[LKnockBank$Law;" ∈ zgw := zgw_2 220 rfl rfl
set_option maxRecDepth 10000 in
theorem wd_583 : Cond.fieldLink "KnockBank$Reader" 185 "KnockBank$Text" "laws" "[LKnockBank$Law;" ∈ zgw := zgw_2 221 rfl rfl
set_option maxRecDepth 10000 in
theorem wd_584 : Cond.fieldLink "KnockBank$Text" 35 "KnockBank$Text" "handCount" "I" ∈ zgw := zgw_2 222 rfl rfl
set_option maxRecDepth 10000 in
theorem wd_585 : Cond.fieldLink "KnockBank$Row" 41 "KnockBank$Text" "handCount" "I" ∈ zgw := zgw_2 223 rfl rfl
set_option maxRecDepth 10000 in
theorem wd_586 : Cond.fieldLink "KnockBank$Reader" 99 "KnockBank$Text" "handCount" "I" ∈ zgw := zgw_2 224 rfl rfl
set_option maxRecDepth 10000 in
theorem wd_587 : Cond.fieldLink "KnockBank$Scene" 190 "KnockBank$Text" "handCount" "I" ∈ zgw := zgw_2 225 rfl rfl
set_option maxRecDepth 10000 in
theorem wd_588 : Cond.fieldLink "KnockBank" 252 "KnockBank$Text" "handCount" "I" ∈ zgw := zgw_2 226 rfl rfl
set_option maxRecDepth 10000 in
theorem wd_589 : Cond.fieldLink "KnockBank$Text" 39 "KnockBank$Text" "woodCount" "I" ∈ zgw := zgw_2 227 rfl rfl
set_option maxRecDepth 10000 in
theorem wd_590 : Cond.fieldLink "KnockBank$Reader" 131 "KnockBank$Text" "woodCount" "I" ∈ zgw := zgw_2 228 rfl rfl
set_option maxRecDepth 10000 in
theorem wd_591 : Cond.fieldLink "KnockBank" 291 "KnockBank$Text" "woodCount" "I" ∈ zgw := zgw_2 229 rfl rfl
set_option maxRecDepth 10000 in
theorem wd_592 : Cond.fieldLink "KnockBank$Text" 42 "KnockBank$Text" "rapCount" "I" ∈ zgw := zgw_2 230 rfl rfl
set_option maxRecDepth 10000 in
theorem wd_593 : Cond.fieldLink "KnockBank$Scene" 151 "KnockBank$Text" "rapCount" "I" ∈ zgw := zgw_2 231 rfl rfl
set_option maxRecDepth 10000 in
theorem wd_594 : Cond.fieldLink "KnockBank$Reader" 153 "KnockBank$Text" "rapCount" "I" ∈ zgw := zgw_2 232 rfl rfl
set_option maxRecDepth 10000 in
theorem wd_595 : Cond.fieldLink "KnockBank" 324 "KnockBank$Text" "rapCount" "I" ∈ zgw := zgw_2 233 rfl rfl
set_option maxRecDepth 10000 in
theorem wd_596 : Cond.fieldLink "KnockBank$Text" 45 "KnockBank$Text" "like" "I" ∈ zgw := zgw_2 234 rfl rfl
set_option maxRecDepth 10000 in
theorem wd_597 : Cond.fieldLink "KnockBank$Scene" 68 "KnockBank$Text" "like" "I" ∈ zgw := zgw_2 235 rfl rfl
set_option maxRecDepth 10000 in
theorem wd_598 : Cond.fieldLink "KnockBank$Reader" 175 "KnockBank$Text" "like" "I" ∈ zgw := zgw_2 236 rfl rfl
set_option maxRecDepth 10000 in
theorem wd_599 : Cond.fieldLink "KnockBank$Text" 48 "KnockBank$Text" "seed" "I" ∈ zgw := zgw_2 237 rfl rfl
set_option maxRecDepth 10000 in
theorem wd_600 : Cond.fieldLink "KnockBank$Scene" 60 "KnockBank$Text" "seed" "I" ∈ zgw := zgw_2 238 rfl rfl
set_option maxRecDepth 10000 in
theorem wd_601 : Cond.fieldLink "KnockBank$Reader" 182 "KnockBank$Text" "seed" "I" ∈ zgw := zgw_2 239 rfl rfl
set_option maxRecDepth 10000 in
theorem wd_602 : Cond.fieldLink "KnockBank$Text" 51 "KnockBank$Text" "isLikeTold" "Z" ∈ zgw := zgw_3 0 rfl rfl
set_option maxRecDepth 10000 in
theorem wd_603 : Cond.fieldLink "KnockBank$Reader" 171 "KnockBank$Text" "isLikeTold" "Z" ∈ zgw := zgw_3 1 rfl rfl
set_option maxRecDepth 10000 in
theorem wd_604 : Cond.fieldLink "KnockBank$Text" 55 "KnockBank$Text" "isSeedTold" "Z" ∈ zgw := zgw_3 2 rfl rfl
set_option maxRecDepth 10000 in
theorem wd_605 : Cond.fieldLink "KnockBank$Reader" 178 "KnockBank$Text" "isSeedTold" "Z" ∈ zgw := zgw_3 3 rfl rfl
set_option maxRecDepth 10000 in
theorem wd_606 : Cond.fieldLink "KnockBank$Text" 58 "KnockBank$Text" "knots" "I" ∈ zgw := zgw_3 4 rfl rfl
set_option maxRecDepth 10000 in
theorem wd_607 : Cond.fieldLink "KnockBank$Reader" 244 "KnockBank$Text" "knots" "I" ∈ zgw := zgw_3 5 rfl rfl
set_option maxRecDepth 10000 in
theorem wd_608 : Cond.fieldLink "KnockBank" 424 "KnockBank$Text" "knots" "I" ∈ zgw := zgw_3 6 rfl rfl
set_option maxRecDepth 10000 in
theorem wd_609 : Cond.fieldLink "KnockBank$Text" 61 "KnockBank$Text" "lines" "I" ∈ zgw := zgw_3 7 rfl rfl
set_option maxRecDepth 10000 in
theorem wd_610 : Cond.fieldLink "KnockBank" 99 "KnockBank$Text" "lines" "I" ∈ zgw := zgw_3 8 rfl rfl
set_option maxRecDepth 10000 in
theorem wd_611 : Cond.fieldLink "KnockBank$Reader" 83 "KnockBank$Text" "lines" "I" ∈ zgw := zgw_3 9 rfl rfl
set_option maxRecDepth 10000 in
theorem wd_612 : Cond.fieldLink "KnockBank$Text" 64 "KnockBank$Text" "newCode" "I" ∈ zgw := zgw_3 10 rfl rfl
set_option maxRecDepth 10000 in
theorem wd_613 : Cond.fieldLink "KnockBank" 258 "KnockBank$Text" "newCode" "I" ∈ zgw := zgw_3 11 rfl rfl
set_option maxRecDepth 10000 in
theorem wd_614 : Cond.fieldLink "KnockBank$Text" 67 "KnockBank$Text" "newApart" "I" ∈ zgw := zgw_3 12 rfl rfl
set_option maxRecDepth 10000 in
theorem wd_615 : Cond.fieldLink "KnockBank" 264 "KnockBank$Text" "newApart" "I" ∈ zgw := zgw_3 13 rfl rfl
set_option maxRecDepth 10000 in
theorem wd_647 : Cond.methodLink "KnockBank" 83 ⟨"KnockBank$Scene", "begin", "(LKnockBank$Text;)V"⟩ ∈ zgw := zgw_3 45 rfl rfl
set_option maxRecDepth 10000 in
theorem wd_648 : Cond.instanceMethod ⟨"KnockBank$Scene", "begin", "(LKnockBank$Text;)V"⟩ ∈ zgw := zgw_3 46 rfl rfl
set_option maxRecDepth 10000 in
theorem wd_649 : Cond.selects "KnockBank$Scene" ⟨"KnockBank$Scene", "begin", "(LKnockBank$Text;)V"⟩ ⟨"KnockBank$Scene", "begin", "(LKnockBank$Text;)V"⟩ ∈ zgw := zgw_3 47 rfl rfl
set_option maxRecDepth 10000 in
theorem wd_650 : Cond.code ⟨"KnockBank$Scene", "begin", "(LKnockBank$Text;)V"⟩ prog_10_method_2_code 3 none ∈ zgw := zgw_3 48 rfl rfl
set_option maxRecDepth 10000 in
theorem wd_651 : Cond.fieldLink "KnockBank" 9 "KnockBank" "tape" "[B" ∈ zgw := zgw_3 49 rfl rfl
set_option maxRecDepth 10000 in
theorem wd_652 : Cond.fieldLink "KnockBank" 16 "KnockBank" "reader" "LKnockBank$Reader;" ∈ zgw := zgw_3 50 rfl rfl
set_option maxRecDepth 10000 in
theorem wd_653 : Cond.fieldLink "KnockBank" 23 "KnockBank" "now" "LKnockBank$Scene;" ∈ zgw := zgw_3 51 rfl rfl
set_option maxRecDepth 10000 in
theorem wd_654 : Cond.fieldLink "KnockBank" 27 "KnockBank" "image" "LKnockBank$Scene;" ∈ zgw := zgw_3 52 rfl rfl
set_option maxRecDepth 10000 in
theorem wd_655 : Cond.fieldLink "KnockBank" 30 "KnockBank" "trial" "LKnockBank$Scene;" ∈ zgw := zgw_3 53 rfl rfl
set_option maxRecDepth 10000 in
theorem wd_656 : Cond.fieldLink "KnockBank" 36 "KnockBank" "deeds" "LKnockBank$Deeds;" ∈ zgw := zgw_3 54 rfl rfl
set_option maxRecDepth 10000 in
theorem wd_657 : Cond.fieldLink "KnockBank" 43 "KnockBank" "overheard" "LKnockBank$Overheard;" ∈ zgw := zgw_3 55 rfl rfl
set_option maxRecDepth 10000 in
theorem wd_658 : Cond.fieldLink "KnockBank" 50 "KnockBank" "row" "LKnockBank$Row;" ∈ zgw := zgw_3 56 rfl rfl
set_option maxRecDepth 10000 in
theorem wd_659 : Cond.fieldLink "KnockBank" 54 "KnockBank" "knockAsked" "[I" ∈ zgw := zgw_3 57 rfl rfl
set_option maxRecDepth 10000 in
theorem wd_660 : Cond.fieldLink "KnockBank" 58 "KnockBank" "changes" "[I" ∈ zgw := zgw_3 58 rfl rfl
set_option maxRecDepth 10000 in
theorem wd_661 : Cond.fieldLink "KnockBank" 61 "KnockBank" "isWithin" "[Z" ∈ zgw := zgw_3 59 rfl rfl
set_option maxRecDepth 10000 in
theorem wd_662 : Cond.fieldLink "KnockBank" 68 "KnockBank" "told" "LKnockBank$Text;" ∈ zgw := zgw_3 60 rfl rfl
set_option maxRecDepth 10000 in
theorem wd_663 : Cond.fieldLink "KnockBank" 72 "KnockBank" "draft" "LKnockBank$Text;" ∈ zgw := zgw_3 61 rfl rfl
set_option maxRecDepth 10000 in
theorem wd_664 : Cond.fieldLink "KnockBank" 75 "KnockBank" "tapeLength" "I" ∈ zgw := zgw_3 62 rfl rfl
set_option maxRecDepth 10000 in
theorem wd_665 : Cond.fieldLink "KnockBank" 79 "KnockBank" "hasImage" "Z" ∈ zgw := zgw_3 63 rfl rfl
set_option maxRecDepth 10000 in
theorem wd_701 : Cond.methodLink "KnockBank" 87 ⟨"KnockBank", "putOnTape", "(I)V"⟩ ∈ zgw := zgw_3 99 rfl rfl
set_option maxRecDepth 10000 in
theorem wd_703 : Cond.instanceMethod ⟨"KnockBank", "putOnTape", "(I)V"⟩ ∈ zgw := zgw_3 101 rfl rfl
set_option maxRecDepth 10000 in
theorem wd_704 : Cond.code ⟨"KnockBank", "putOnTape", "(I)V"⟩ prog_1_method_3_code 3 none ∈ zgw := zgw_3 102 rfl rfl
set_option maxRecDepth 10000 in
theorem wd_709 : Cond.methodLink "KnockBank" 91 ⟨"KnockBank$Reader", "isRead", "([BILKnockBank$Text;)Z"⟩ ∈ zgw := zgw_3 107 rfl rfl
set_option maxRecDepth 10000 in
theorem wd_710 : Cond.instanceMethod ⟨"KnockBank$Reader", "isRead", "([BILKnockBank$Text;)Z"⟩ ∈ zgw := zgw_3 108 rfl rfl
set_option maxRecDepth 10000 in
theorem wd_711 : Cond.selects "KnockBank$Reader" ⟨"KnockBank$Reader", "isRead", "([BILKnockBank$Text;)Z"⟩ ⟨"KnockBank$Reader", "isRead", "([BILKnockBank$Text;)Z"⟩ ∈ zgw := zgw_3 109 rfl rfl
set_option maxRecDepth 10000 in
theorem wd_712 : Cond.code ⟨"KnockBank$Reader", "isRead", "([BILKnockBank$Text;)Z"⟩ prog_7_method_2_code 5 (some .boolean) ∈ zgw := zgw_3 110 rfl rfl
set_option maxRecDepth 10000 in
theorem wd_713 : Cond.methodLink "KnockBank$Reader" 39 ⟨"KnockBank$Text", "clear", "()V"⟩ ∈ zgw := zgw_3 111 rfl rfl
set_option maxRecDepth 10000 in
theorem wd_714 : Cond.instanceMethod ⟨"KnockBank$Text", "clear", "()V"⟩ ∈ zgw := zgw_3 112 rfl rfl
set_option maxRecDepth 10000 in
theorem wd_715 : Cond.selects "KnockBank$Text" ⟨"KnockBank$Text", "clear", "()V"⟩ ⟨"KnockBank$Text", "clear", "()V"⟩ ∈ zgw := zgw_3 113 rfl rfl
set_option maxRecDepth 10000 in
theorem wd_716 : Cond.code ⟨"KnockBank$Text", "clear", "()V"⟩ prog_11_method_2_code 2 none ∈ zgw := zgw_3 114 rfl rfl
set_option maxRecDepth 10000 in
theorem wd_717 : Cond.methodLink "KnockBank$Reader" 42 ⟨"KnockBank$Scanner", "scan", "([BI)V"⟩ ∈ zgw := zgw_3 115 rfl rfl
set_option maxRecDepth 10000 in
theorem wd_718 : Cond.instanceMethod ⟨"KnockBank$Scanner", "scan", "([BI)V"⟩ ∈ zgw := zgw_3 116 rfl rfl
set_option maxRecDepth 10000 in
theorem wd_719 : Cond.selects "KnockBank$Scanner" ⟨"KnockBank$Scanner", "scan", "([BI)V"⟩ ⟨"KnockBank$Scanner", "scan", "([BI)V"⟩ ∈ zgw := zgw_3 117 rfl rfl
set_option maxRecDepth 10000 in
theorem wd_720 : Cond.code ⟨"KnockBank$Scanner", "scan", "([BI)V"⟩ prog_9_method_2_code 4 none ∈ zgw := zgw_3 118 rfl rfl
set_option maxRecDepth 10000 in
theorem wd_721 : Cond.methodLink "KnockBank$Scanner" 44 ⟨"java/lang/Math", "min", "(II)I"⟩ ∈ zgw := zgw_3 119 rfl rfl
set_option maxRecDepth 10000 in
theorem wd_722 : Cond.static ⟨"java/lang/Math", "min", "(II)I"⟩ ∈ zgw := zgw_3 120 rfl rfl
set_option maxRecDepth 10000 in
theorem wd_723 : Cond.code Lib.Math.min.name Lib.Math.min.code 2 (some .int) ∈ zgw := zgw_3 121 (by decide +kernel) (by decide +kernel)
set_option maxRecDepth 10000 in
theorem wd_724 : Cond.methodLink "KnockBank$Scanner" 61 ⟨"KnockBank$Scanner", "cut", "()V"⟩ ∈ zgw := zgw_3 122 rfl rfl
set_option maxRecDepth 10000 in
theorem wd_726 : Cond.instanceMethod ⟨"KnockBank$Scanner", "cut", "()V"⟩ ∈ zgw := zgw_3 124 rfl rfl
set_option maxRecDepth 10000 in
theorem wd_727 : Cond.code ⟨"KnockBank$Scanner", "cut", "()V"⟩ prog_9_method_4_code 1 none ∈ zgw := zgw_3 125 rfl rfl
set_option maxRecDepth 10000 in
theorem wd_728 : Cond.methodLink "KnockBank$Scanner" 76 ⟨"KnockBank$Scanner", "signAt", "(I)I"⟩ ∈ zgw := zgw_3 126 rfl rfl
set_option maxRecDepth 10000 in
theorem wd_730 : Cond.instanceMethod ⟨"KnockBank$Scanner", "signAt", "(I)I"⟩ ∈ zgw := zgw_3 128 rfl rfl
set_option maxRecDepth 10000 in
theorem wd_731 : Cond.code ⟨"KnockBank$Scanner", "signAt", "(I)I"⟩ prog_9_method_5_code 2 (some .int) ∈ zgw := zgw_3 129 rfl rfl
set_option maxRecDepth 10000 in
theorem wd_732 : Cond.methodLink "KnockBank$Scanner" 80 ⟨"KnockBank$Scanner", "isLetter", "(I)Z"⟩ ∈ zgw := zgw_3 130 rfl rfl
set_option maxRecDepth 10000 in
theorem wd_733 : Cond.static ⟨"KnockBank$Scanner", "isLetter", "(I)Z"⟩ ∈ zgw := zgw_3 131 rfl rfl
set_option maxRecDepth 10000 in
theorem wd_734 : Cond.code ⟨"KnockBank$Scanner", "isLetter", "(I)Z"⟩ prog_9_method_11_code 1 (some .boolean) ∈ zgw := zgw_3 132 rfl rfl
set_option maxRecDepth 10000 in
theorem wd_735 : Cond.methodLink "KnockBank$Scanner" 84 ⟨"KnockBank$Scanner", "cutWord", "()V"⟩ ∈ zgw := zgw_3 133 rfl rfl
set_option maxRecDepth 10000 in
theorem wd_737 : Cond.instanceMethod ⟨"KnockBank$Scanner", "cutWord", "()V"⟩ ∈ zgw := zgw_3 135 rfl rfl
set_option maxRecDepth 10000 in
theorem wd_738 : Cond.code ⟨"KnockBank$Scanner", "cutWord", "()V"⟩ prog_9_method_6_code 2 none ∈ zgw := zgw_3 136 rfl rfl
set_option maxRecDepth 10000 in
theorem wd_739 : Cond.methodLink "KnockBank$Scanner" 96 ⟨"KnockBank$Scanner", "kindOfWord", "(I)I"⟩ ∈ zgw := zgw_3 137 rfl rfl
set_option maxRecDepth 10000 in
theorem wd_741 : Cond.instanceMethod ⟨"KnockBank$Scanner", "kindOfWord", "(I)I"⟩ ∈ zgw := zgw_3 139 rfl rfl
set_option maxRecDepth 10000 in
theorem wd_742 : Cond.code ⟨"KnockBank$Scanner", "kindOfWord", "(I)I"⟩ prog_9_method_7_code 3 (some .int) ∈ zgw := zgw_3 140 rfl rfl
set_option maxRecDepth 10000 in
theorem wd_743 : Cond.methodLink "KnockBank$Scanner" 87 ⟨"KnockBank$Scanner", "isDigit", "(I)Z"⟩ ∈ zgw := zgw_3 141 rfl rfl
set_option maxRecDepth 10000 in
theorem wd_744 : Cond.static ⟨"KnockBank$Scanner", "isDigit", "(I)Z"⟩ ∈ zgw := zgw_3 142 rfl rfl
set_option maxRecDepth 10000 in
theorem wd_745 : Cond.code ⟨"KnockBank$Scanner", "isDigit", "(I)Z"⟩ prog_9_method_12_code 1 (some .boolean) ∈ zgw := zgw_3 143 rfl rfl
set_option maxRecDepth 10000 in
theorem wd_746 : Cond.methodLink "KnockBank$Scanner" 90 ⟨"KnockBank$Scanner", "cutNumber", "()V"⟩ ∈ zgw := zgw_3 144 rfl rfl
set_option maxRecDepth 10000 in
theorem wd_748 : Cond.instanceMethod ⟨"KnockBank$Scanner", "cutNumber", "()V"⟩ ∈ zgw := zgw_3 146 rfl rfl
set_option maxRecDepth 10000 in
theorem wd_749 : Cond.code ⟨"KnockBank$Scanner", "cutNumber", "()V"⟩ prog_9_method_8_code 1 none ∈ zgw := zgw_3 147 rfl rfl
set_option maxRecDepth 10000 in
theorem wd_750 : Cond.constant "KnockBank$Scanner" 99 (1000000) ∈ zgw := zgw_3 148 rfl rfl
set_option maxRecDepth 10000 in
theorem wd_751 : Cond.methodLink "KnockBank$Scanner" 93 ⟨"KnockBank$Scanner", "cutSign", "()V"⟩ ∈ zgw := zgw_3 149 rfl rfl
set_option maxRecDepth 10000 in
theorem wd_753 : Cond.instanceMethod ⟨"KnockBank$Scanner", "cutSign", "()V"⟩ ∈ zgw := zgw_3 151 rfl rfl
set_option maxRecDepth 10000 in
theorem wd_754 : Cond.code ⟨"KnockBank$Scanner", "cutSign", "()V"⟩ prog_9_method_9_code 3 none ∈ zgw := zgw_3 152 rfl rfl
set_option maxRecDepth 10000 in
theorem wd_755 : Cond.methodLink "KnockBank$Scanner" 100 ⟨"KnockBank$Scanner", "kindOfSign", "(I)I"⟩ ∈ zgw := zgw_3 153 rfl rfl
set_option maxRecDepth 10000 in
theorem wd_756 : Cond.static ⟨"KnockBank$Scanner", "kindOfSign", "(I)I"⟩ ∈ zgw := zgw_3 154 rfl rfl
set_option maxRecDepth 10000 in
theorem wd_757 : Cond.code ⟨"KnockBank$Scanner", "kindOfSign", "(I)I"⟩ prog_9_method_10_code 1 (some .int) ∈ zgw := zgw_3 155 rfl rfl
set_option maxRecDepth 10000 in
theorem wd_758 : Cond.methodLink "KnockBank$Scanner" 73 ⟨"KnockBank$Scanner", "advance", "()V"⟩ ∈ zgw := zgw_3 156 rfl rfl
set_option maxRecDepth 10000 in
theorem wd_759 : Cond.instanceMethod ⟨"KnockBank$Scanner", "advance", "()V"⟩ ∈ zgw := zgw_3 157 rfl rfl
set_option maxRecDepth 10000 in
theorem wd_760 : Cond.selects "KnockBank$Scanner" ⟨"KnockBank$Scanner", "advance", "()V"⟩ ⟨"KnockBank$Scanner", "advance", "()V"⟩ ∈ zgw := zgw_3 158 rfl rfl
set_option maxRecDepth 10000 in
theorem wd_761 : Cond.code ⟨"KnockBank$Scanner", "advance", "()V"⟩ prog_9_method_3_code 1 none ∈ zgw := zgw_3 159 rfl rfl
set_option maxRecDepth 10000 in
theorem wd_762 : Cond.methodLink "KnockBank$Reader" 52 ⟨"KnockBank$Reader", "readLine", "()V"⟩ ∈ zgw := zgw_3 160 rfl rfl
set_option maxRecDepth 10000 in
theorem wd_764 : Cond.instanceMethod ⟨"KnockBank$Reader", "readLine", "()V"⟩ ∈ zgw := zgw_3 162 rfl rfl
set_option maxRecDepth 10000 in
theorem wd_765 : Cond.code ⟨"KnockBank$Reader", "readLine", "()V"⟩ prog_7_method_4_code 1 none ∈ zgw := zgw_3 163 rfl rfl
set_option maxRecDepth 10000 in
theorem wd_766 : Cond.methodLink "KnockBank$Reader" 58 ⟨"KnockBank$Reader", "readHand", "()V"⟩ ∈ zgw := zgw_3 164 rfl rfl
set_option maxRecDepth 10000 in
theorem wd_768 : Cond.instanceMethod ⟨"KnockBank$Reader", "readHand", "()V"⟩ ∈ zgw := zgw_3 166 rfl rfl
set_option maxRecDepth 10000 in
theorem wd_769 : Cond.code ⟨"KnockBank$Reader", "readHand", "()V"⟩ prog_7_method_9_code 3 none ∈ zgw := zgw_3 167 rfl rfl
set_option maxRecDepth 10000 in
theorem wd_770 : Cond.methodLink "KnockBank$Reader" 76 ⟨"KnockBank$Reader", "fail", "(I)V"⟩ ∈ zgw := zgw_3 168 rfl rfl
set_option maxRecDepth 10000 in
theorem wd_772 : Cond.instanceMethod ⟨"KnockBank$Reader", "fail", "(I)V"⟩ ∈ zgw := zgw_3 170 rfl rfl
set_option maxRecDepth 10000 in
theorem wd_773 : Cond.code ⟨"KnockBank$Reader", "fail", "(I)V"⟩ prog_7_method_3_code 2 none ∈ zgw := zgw_3 171 rfl rfl
set_option maxRecDepth 10000 in
theorem wd_774 : Cond.methodLink "KnockBank$Reader" 80 ⟨"KnockBank$Reader", "take", "(I)V"⟩ ∈ zgw := zgw_3 172 rfl rfl
set_option maxRecDepth 10000 in
theorem wd_776 : Cond.instanceMethod ⟨"KnockBank$Reader", "take", "(I)V"⟩ ∈ zgw := zgw_3 174 rfl rfl
set_option maxRecDepth 10000 in
theorem wd_777 : Cond.code ⟨"KnockBank$Reader", "take", "(I)V"⟩ prog_7_method_5_code 2 none ∈ zgw := zgw_3 175 rfl rfl
set_option maxRecDepth 10000 in
theorem wd_778 : Cond.methodLink "KnockBank$Reader" 86 ⟨"KnockBank$Scanner", "advance", "()V"⟩ ∈ zgw := zgw_3 176 rfl rfl
set_option maxRecDepth 10000 in
theorem wd_779 : Cond.methodLink "KnockBank$Reader" 106 ⟨"KnockBank$Reader", "takeNewName", "(Z)I"⟩ ∈ zgw := zgw_3 177 rfl rfl
set_option maxRecDepth 10000 in
theorem wd_781 : Cond.instanceMethod ⟨"KnockBank$Reader", "takeNewName", "(Z)I"⟩ ∈ zgw := zgw_3 179 rfl rfl
set_option maxRecDepth 10000 in
theorem wd_782 : Cond.code ⟨"KnockBank$Reader", "takeNewName", "(Z)I"⟩ prog_7_method_7_code 3 (some .int) ∈ zgw := zgw_3 180 rfl rfl
set_option maxRecDepth 10000 in
theorem wd_783 : Cond.methodLink "KnockBank$Reader" 92 ⟨"KnockBank$Text", "handOf", "(I)I"⟩ ∈ zgw := zgw_3 181 rfl rfl
set_option maxRecDepth 10000 in
theorem wd_784 : Cond.instanceMethod ⟨"KnockBank$Text", "handOf", "(I)I"⟩ ∈ zgw := zgw_3 182 rfl rfl
set_option maxRecDepth 10000 in
theorem wd_785 : Cond.selects "KnockBank$Text" ⟨"KnockBank$Text", "handOf", "(I)I"⟩ ⟨"KnockBank$Text", "handOf", "(I)I"⟩ ∈ zgw := zgw_3 183 rfl rfl
set_option maxRecDepth 10000 in
theorem wd_786 : Cond.code ⟨"KnockBank$Text", "handOf", "(I)I"⟩ prog_11_method_3_code 3 (some .int) ∈ zgw := zgw_3 184 rfl rfl
set_option maxRecDepth 10000 in
theorem wd_787 : Cond.methodLink "KnockBank$Reader" 96 ⟨"KnockBank$Text", "woodOf", "(I)I"⟩ ∈ zgw := zgw_3 185 rfl rfl
set_option maxRecDepth 10000 in
theorem wd_788 : Cond.instanceMethod ⟨"KnockBank$Text", "woodOf", "(I)I"⟩ ∈ zgw := zgw_3 186 rfl rfl
set_option maxRecDepth 10000 in
theorem wd_789 : Cond.selects "KnockBank$Text" ⟨"KnockBank$Text", "woodOf", "(I)I"⟩ ⟨"KnockBank$Text", "woodOf", "(I)I"⟩ ∈ zgw := zgw_3 187 rfl rfl
set_option maxRecDepth 10000 in
theorem wd_790 : Cond.code ⟨"KnockBank$Text", "woodOf", "(I)I"⟩ prog_11_method_4_code 3 (some .int) ∈ zgw := zgw_3 188 rfl rfl
set_option maxRecDepth 10000 in
theorem wd_791 : Cond.methodLink "KnockBank$Reader" 115 ⟨"KnockBank$Reader", "takeNumber", "(II)I"⟩ ∈ zgw := zgw_3 189 rfl rfl
set_option maxRecDepth 10000 in
theorem wd_793 : Cond.instanceMethod ⟨"KnockBank$Reader", "takeNumber", "(II)I"⟩ ∈ zgw := zgw_3 191 rfl rfl
set_option maxRecDepth 10000 in
theorem wd_794 : Cond.code ⟨"KnockBank$Reader", "takeNumber", "(II)I"⟩ prog_7_method_6_code 4 (some .int) ∈ zgw := zgw_3 192 rfl rfl
set_option maxRecDepth 10000 in
theorem wd_795 : Cond.methodLink "KnockBank$Reader" 128 ⟨"KnockBank$Hand", "measure", "()V"⟩ ∈ zgw := zgw_3 193 rfl rfl
set_option maxRecDepth 10000 in
theorem wd_796 : Cond.instanceMethod ⟨"KnockBank$Hand", "measure", "()V"⟩ ∈ zgw := zgw_3 194 rfl rfl
set_option maxRecDepth 10000 in
theorem wd_797 : Cond.selects "KnockBank$Hand" ⟨"KnockBank$Hand", "measure", "()V"⟩ ⟨"KnockBank$Hand", "measure", "()V"⟩ ∈ zgw := zgw_3 195 rfl rfl
set_option maxRecDepth 10000 in
theorem wd_798 : Cond.code ⟨"KnockBank$Hand", "measure", "()V"⟩ prog_3_method_2_code 5 none ∈ zgw := zgw_3 196 rfl rfl
set_option maxRecDepth 10000 in
theorem wd_799 : Cond.methodLink "KnockBank$Hand" 18 ⟨"KnockBank$Hand", "beatOfHalf", "(II)I"⟩ ∈ zgw := zgw_3 197 rfl rfl
set_option maxRecDepth 10000 in
theorem wd_800 : Cond.static ⟨"KnockBank$Hand", "beatOfHalf", "(II)I"⟩ ∈ zgw := zgw_3 198 rfl rfl
set_option maxRecDepth 10000 in
theorem wd_801 : Cond.code ⟨"KnockBank$Hand", "beatOfHalf", "(II)I"⟩ prog_3_method_4_code 2 (some .int) ∈ zgw := zgw_3 199 rfl rfl
set_option maxRecDepth 10000 in
theorem wd_802 : Cond.methodLink "KnockBank$Hand" 22 ⟨"java/lang/Math", "abs", "(I)I"⟩ ∈ zgw := zgw_3 200 rfl rfl
set_option maxRecDepth 10000 in
theorem wd_803 : Cond.static ⟨"java/lang/Math", "abs", "(I)I"⟩ ∈ zgw := zgw_3 201 rfl rfl
set_option maxRecDepth 10000 in
theorem wd_804 : Cond.code Lib.Math.abs.name Lib.Math.abs.code 1 (some .int) ∈ zgw := zgw_3 202 (by decide +kernel) (by decide +kernel)
set_option maxRecDepth 10000 in
theorem wd_805 : Cond.methodLink "KnockBank$Reader" 61 ⟨"KnockBank$Reader", "readWood", "()V"⟩ ∈ zgw := zgw_3 203 rfl rfl
set_option maxRecDepth 10000 in
theorem wd_807 : Cond.instanceMethod ⟨"KnockBank$Reader", "readWood", "()V"⟩ ∈ zgw := zgw_3 205 rfl rfl
set_option maxRecDepth 10000 in
theorem wd_808 : Cond.code ⟨"KnockBank$Reader", "readWood", "()V"⟩ prog_7_method_10_code 2 none ∈ zgw := zgw_3 206 rfl rfl
set_option maxRecDepth 10000 in
theorem wd_809 : Cond.methodLink "KnockBank$Reader" 147 ⟨"KnockBank$Reader", "takeToldName", "(Z)I"⟩ ∈ zgw := zgw_3 207 rfl rfl
set_option maxRecDepth 10000 in
theorem wd_811 : Cond.instanceMethod ⟨"KnockBank$Reader", "takeToldName", "(Z)I"⟩ ∈ zgw := zgw_3 209 rfl rfl
set_option maxRecDepth 10000 in
theorem wd_812 : Cond.code ⟨"KnockBank$Reader", "takeToldName", "(Z)I"⟩ prog_7_method_8_code 3 (some .int) ∈ zgw := zgw_3 210 rfl rfl
set_option maxRecDepth 10000 in
theorem wd_813 : Cond.methodLink "KnockBank$Reader" 64 ⟨"KnockBank$Reader", "readRap", "()V"⟩ ∈ zgw := zgw_3 211 rfl rfl
set_option maxRecDepth 10000 in
theorem wd_815 : Cond.instanceMethod ⟨"KnockBank$Reader", "readRap", "()V"⟩ ∈ zgw := zgw_3 213 rfl rfl
set_option maxRecDepth 10000 in
theorem wd_816 : Cond.code ⟨"KnockBank$Reader", "readRap", "()V"⟩ prog_7_method_11_code 2 none ∈ zgw := zgw_3 214 rfl rfl
set_option maxRecDepth 10000 in
theorem wd_817 : Cond.methodLink "KnockBank$Reader" 67 ⟨"KnockBank$Reader", "readLike", "()V"⟩ ∈ zgw := zgw_3 215 rfl rfl
set_option maxRecDepth 10000 in
theorem wd_819 : Cond.instanceMethod ⟨"KnockBank$Reader", "readLike", "()V"⟩ ∈ zgw := zgw_3 217 rfl rfl
set_option maxRecDepth 10000 in
theorem wd_820 : Cond.code ⟨"KnockBank$Reader", "readLike", "()V"⟩ prog_7_method_12_code 1 none ∈ zgw := zgw_3 218 rfl rfl
set_option maxRecDepth 10000 in
theorem wd_821 : Cond.methodLink "KnockBank$Reader" 70 ⟨"KnockBank$Reader", "readSeed", "()V"⟩ ∈ zgw := zgw_3 219 rfl rfl
set_option maxRecDepth 10000 in
theorem wd_823 : Cond.instanceMethod ⟨"KnockBank$Reader", "readSeed", "()V"⟩ ∈ zgw := zgw_3 221 rfl rfl
set_option maxRecDepth 10000 in
theorem wd_824 : Cond.code ⟨"KnockBank$Reader", "readSeed", "()V"⟩ prog_7_method_13_code 1 none ∈ zgw := zgw_3 222 rfl rfl
set_option maxRecDepth 10000 in
theorem wd_825 : Cond.constant "KnockBank$Reader" 181 (99999) ∈ zgw := zgw_3 223 rfl rfl
set_option maxRecDepth 10000 in
theorem wd_826 : Cond.methodLink "KnockBank$Reader" 73 ⟨"KnockBank$Reader", "readLaw", "()V"⟩ ∈ zgw := zgw_3 224 rfl rfl
set_option maxRecDepth 10000 in
theorem wd_828 : Cond.instanceMethod ⟨"KnockBank$Reader", "readLaw", "()V"⟩ ∈ zgw := zgw_3 226 rfl rfl
set_option maxRecDepth 10000 in
theorem wd_829 : Cond.code ⟨"KnockBank$Reader", "readLaw", "()V"⟩ prog_7_method_14_code 2 none ∈ zgw := zgw_3 227 rfl rfl
set_option maxRecDepth 10000 in
theorem wd_830 : Cond.methodLink "KnockBank$Reader" 198 ⟨"KnockBank$Reader", "readExpression", "()V"⟩ ∈ zgw := zgw_3 228 rfl rfl
set_option maxRecDepth 10000 in
theorem wd_832 : Cond.instanceMethod ⟨"KnockBank$Reader", "readExpression", "()V"⟩ ∈ zgw := zgw_3 230 rfl rfl
set_option maxRecDepth 10000 in
theorem wd_833 : Cond.code ⟨"KnockBank$Reader", "readExpression", "()V"⟩ prog_7_method_15_code 4 none ∈ zgw := zgw_3 231 rfl rfl
set_option maxRecDepth 10000 in
theorem wd_834 : Cond.methodLink "KnockBank$Reader" 210 ⟨"KnockBank$Reader", "readNot", "()V"⟩ ∈ zgw := zgw_3 232 rfl rfl
set_option maxRecDepth 10000 in
theorem wd_836 : Cond.instanceMethod ⟨"KnockBank$Reader", "readNot", "()V"⟩ ∈ zgw := zgw_3 234 rfl rfl
set_option maxRecDepth 10000 in
theorem wd_837 : Cond.code ⟨"KnockBank$Reader", "readNot", "()V"⟩ prog_7_method_17_code 1 none ∈ zgw := zgw_3 235 rfl rfl
set_option maxRecDepth 10000 in
theorem wd_838 : Cond.methodLink "KnockBank$Reader" 232 ⟨"KnockBank$Reader", "countKnot", "()V"⟩ ∈ zgw := zgw_3 236 rfl rfl
set_option maxRecDepth 10000 in
theorem wd_840 : Cond.instanceMethod ⟨"KnockBank$Reader", "countKnot", "()V"⟩ ∈ zgw := zgw_3 238 rfl rfl
set_option maxRecDepth 10000 in
theorem wd_841 : Cond.code ⟨"KnockBank$Reader", "countKnot", "()V"⟩ prog_7_method_21_code 1 none ∈ zgw := zgw_3 239 rfl rfl
set_option maxRecDepth 10000 in
theorem wd_842 : Cond.methodLink "KnockBank$Reader" 238 ⟨"KnockBank$Reader", "push", "(I)V"⟩ ∈ zgw := zgw_4 0 rfl rfl
set_option maxRecDepth 10000 in
theorem wd_844 : Cond.instanceMethod ⟨"KnockBank$Reader", "push", "(I)V"⟩ ∈ zgw := zgw_4 2 rfl rfl
set_option maxRecDepth 10000 in
theorem wd_845 : Cond.code ⟨"KnockBank$Reader", "push", "(I)V"⟩ prog_7_method_22_code 2 none ∈ zgw := zgw_4 3 rfl rfl
set_option maxRecDepth 10000 in
theorem wd_846 : Cond.methodLink "KnockBank$Reader" 213 ⟨"KnockBank$Reader", "openBracket", "()V"⟩ ∈ zgw := zgw_4 4 rfl rfl
set_option maxRecDepth 10000 in
theorem wd_848 : Cond.instanceMethod ⟨"KnockBank$Reader", "openBracket", "()V"⟩ ∈ zgw := zgw_4 6 rfl rfl
set_option maxRecDepth 10000 in
theorem wd_849 : Cond.code ⟨"KnockBank$Reader", "openBracket", "()V"⟩ prog_7_method_18_code 1 none ∈ zgw := zgw_4 7 rfl rfl
set_option maxRecDepth 10000 in
theorem wd_850 : Cond.methodLink "KnockBank$Reader" 216 ⟨"KnockBank$Reader", "readOperand", "()V"⟩ ∈ zgw := zgw_4 8 rfl rfl
set_option maxRecDepth 10000 in
theorem wd_852 : Cond.instanceMethod ⟨"KnockBank$Reader", "readOperand", "()V"⟩ ∈ zgw := zgw_4 10 rfl rfl
set_option maxRecDepth 10000 in
theorem wd_853 : Cond.code ⟨"KnockBank$Reader", "readOperand", "()V"⟩ prog_7_method_16_code 3 none ∈ zgw := zgw_4 11 rfl rfl
set_option maxRecDepth 10000 in
theorem wd_854 : Cond.methodLink "KnockBank$Reader" 235 ⟨"KnockBank$Reader", "emit", "(I)V"⟩ ∈ zgw := zgw_4 12 rfl rfl
set_option maxRecDepth 10000 in
theorem wd_856 : Cond.instanceMethod ⟨"KnockBank$Reader", "emit", "(I)V"⟩ ∈ zgw := zgw_4 14 rfl rfl
set_option maxRecDepth 10000 in
theorem wd_857 : Cond.code ⟨"KnockBank$Reader", "emit", "(I)V"⟩ prog_7_method_24_code 2 none ∈ zgw := zgw_4 15 rfl rfl
set_option maxRecDepth 10000 in
theorem wd_858 : Cond.methodLink "KnockBank$Reader" 219 ⟨"KnockBank$Reader", "closeBracket", "()V"⟩ ∈ zgw := zgw_4 16 rfl rfl
set_option maxRecDepth 10000 in
theorem wd_860 : Cond.instanceMethod ⟨"KnockBank$Reader", "closeBracket", "()V"⟩ ∈ zgw := zgw_4 18 rfl rfl
set_option maxRecDepth 10000 in
theorem wd_861 : Cond.code ⟨"KnockBank$Reader", "closeBracket", "()V"⟩ prog_7_method_19_code 1 none ∈ zgw := zgw_4 19 rfl rfl
set_option maxRecDepth 10000 in
theorem wd_862 : Cond.methodLink "KnockBank$Reader" 229 ⟨"KnockBank$Reader", "release", "(I)V"⟩ ∈ zgw := zgw_4 20 rfl rfl
set_option maxRecDepth 10000 in
theorem wd_864 : Cond.instanceMethod ⟨"KnockBank$Reader", "release", "(I)V"⟩ ∈ zgw := zgw_4 22 rfl rfl
set_option maxRecDepth 10000 in
theorem wd_865 : Cond.code ⟨"KnockBank$Reader", "release", "(I)V"⟩ prog_7_method_23_code 2 none ∈ zgw := zgw_4 23 rfl rfl
set_option maxRecDepth 10000 in
theorem wd_866 : Cond.methodLink "KnockBank$Reader" 241 ⟨"KnockBank$Reader", "rankOf", "(I)I"⟩ ∈ zgw := zgw_4 24 rfl rfl
set_option maxRecDepth 10000 in
theorem wd_867 : Cond.static ⟨"KnockBank$Reader", "rankOf", "(I)I"⟩ ∈ zgw := zgw_4 25 rfl rfl
set_option maxRecDepth 10000 in
theorem wd_868 : Cond.code ⟨"KnockBank$Reader", "rankOf", "(I)I"⟩ prog_7_method_26_code 1 (some .int) ∈ zgw := zgw_4 26 rfl rfl
set_option maxRecDepth 10000 in
theorem wd_869 : Cond.methodLink "KnockBank$Reader" 222 ⟨"KnockBank$Reader", "isBetween", "(I)Z"⟩ ∈ zgw := zgw_4 27 rfl rfl
set_option maxRecDepth 10000 in
theorem wd_870 : Cond.static ⟨"KnockBank$Reader", "isBetween", "(I)Z"⟩ ∈ zgw := zgw_4 28 rfl rfl
set_option maxRecDepth 10000 in
theorem wd_871 : Cond.code ⟨"KnockBank$Reader", "isBetween", "(I)Z"⟩ prog_7_method_25_code 1 (some .boolean) ∈ zgw := zgw_4 29 rfl rfl
set_option maxRecDepth 10000 in
theorem wd_872 : Cond.methodLink "KnockBank$Reader" 226 ⟨"KnockBank$Reader", "readSign", "()V"⟩ ∈ zgw := zgw_4 30 rfl rfl
set_option maxRecDepth 10000 in
theorem wd_874 : Cond.instanceMethod ⟨"KnockBank$Reader", "readSign", "()V"⟩ ∈ zgw := zgw_4 32 rfl rfl
set_option maxRecDepth 10000 in
theorem wd_875 : Cond.code ⟨"KnockBank$Reader", "readSign", "()V"⟩ prog_7_method_20_code 3 none ∈ zgw := zgw_4 33 rfl rfl
set_option maxRecDepth 10000 in
theorem wd_876 : Cond.methodLink "KnockBank" 95 ⟨"KnockBank$Overheard", "clear", "()V"⟩ ∈ zgw := zgw_4 34 rfl rfl
set_option maxRecDepth 10000 in
theorem wd_877 : Cond.instanceMethod ⟨"KnockBank$Overheard", "clear", "()V"⟩ ∈ zgw := zgw_4 35 rfl rfl
set_option maxRecDepth 10000 in
theorem wd_878 : Cond.selects "KnockBank$Overheard" ⟨"KnockBank$Overheard", "clear", "()V"⟩ ⟨"KnockBank$Overheard", "clear", "()V"⟩ ∈ zgw := zgw_4 36 rfl rfl
set_option maxRecDepth 10000 in
theorem wd_879 : Cond.code ⟨"KnockBank$Overheard", "clear", "()V"⟩ prog_5_method_2_code 1 none ∈ zgw := zgw_4 37 rfl rfl
set_option maxRecDepth 10000 in
theorem wd_880 : Cond.methodLink "KnockBank" 98 ⟨"KnockBank$Deeds", "clear", "()V"⟩ ∈ zgw := zgw_4 38 rfl rfl
set_option maxRecDepth 10000 in
theorem wd_881 : Cond.instanceMethod ⟨"KnockBank$Deeds", "clear", "()V"⟩ ∈ zgw := zgw_4 39 rfl rfl
set_option maxRecDepth 10000 in
theorem wd_882 : Cond.selects "KnockBank$Deeds" ⟨"KnockBank$Deeds", "clear", "()V"⟩ ⟨"KnockBank$Deeds", "clear", "()V"⟩ ∈ zgw := zgw_4 40 rfl rfl
set_option maxRecDepth 10000 in
theorem wd_883 : Cond.code ⟨"KnockBank$Deeds", "clear", "()V"⟩ prog_2_method_2_code 1 none ∈ zgw := zgw_4 41 rfl rfl
set_option maxRecDepth 10000 in
theorem wd_892 : Cond.methodLink "KnockBank" 108 ⟨"KnockBank$Text", "handOf", "(I)I"⟩ ∈ zgw := zgw_4 50 rfl rfl
set_option maxRecDepth 10000 in
theorem wd_893 : Cond.methodLink "KnockBank" 112 ⟨"KnockBank$Text", "woodOf", "(I)I"⟩ ∈ zgw := zgw_4 51 rfl rfl
set_option maxRecDepth 10000 in
theorem wd_898 : Cond.methodLink "KnockBank" 158 ⟨"KnockBank", "isHand", "(I)Z"⟩ ∈ zgw := zgw_4 56 rfl rfl
set_option maxRecDepth 10000 in
theorem wd_900 : Cond.instanceMethod ⟨"KnockBank", "isHand", "(I)Z"⟩ ∈ zgw := zgw_4 58 rfl rfl
set_option maxRecDepth 10000 in
theorem wd_901 : Cond.code ⟨"KnockBank", "isHand", "(I)Z"⟩ prog_1_method_49_code 2 (some .boolean) ∈ zgw := zgw_4 59 rfl rfl
set_option maxRecDepth 10000 in
theorem wd_902 : Cond.methodLink "KnockBank" 176 ⟨"KnockBank", "digitsOf", "([I)I"⟩ ∈ zgw := zgw_4 60 rfl rfl
set_option maxRecDepth 10000 in
theorem wd_903 : Cond.static ⟨"KnockBank", "digitsOf", "([I)I"⟩ ∈ zgw := zgw_4 61 rfl rfl
set_option maxRecDepth 10000 in
theorem wd_904 : Cond.code ⟨"KnockBank", "digitsOf", "([I)I"⟩ prog_1_method_54_code 3 (some .int) ∈ zgw := zgw_4 62 rfl rfl
set_option maxRecDepth 10000 in
theorem wd_905 : Cond.methodLink "KnockBank" 183 ⟨"KnockBank$Scene", "manyBoundTo", "(I)I"⟩ ∈ zgw := zgw_4 63 rfl rfl
set_option maxRecDepth 10000 in
theorem wd_906 : Cond.instanceMethod ⟨"KnockBank$Scene", "manyBoundTo", "(I)I"⟩ ∈ zgw := zgw_4 64 rfl rfl
set_option maxRecDepth 10000 in
theorem wd_907 : Cond.selects "KnockBank$Scene" ⟨"KnockBank$Scene", "manyBoundTo", "(I)I"⟩ ⟨"KnockBank$Scene", "manyBoundTo", "(I)I"⟩ ∈ zgw := zgw_4 65 rfl rfl
set_option maxRecDepth 10000 in
theorem wd_908 : Cond.code ⟨"KnockBank$Scene", "manyBoundTo", "(I)I"⟩ prog_10_method_19_code 4 (some .int) ∈ zgw := zgw_4 66 rfl rfl
set_option maxRecDepth 10000 in
theorem wd_913 : Cond.methodLink "KnockBank" 186 ⟨"KnockBank", "isWood", "(I)Z"⟩ ∈ zgw := zgw_4 71 rfl rfl
set_option maxRecDepth 10000 in
theorem wd_915 : Cond.instanceMethod ⟨"KnockBank", "isWood", "(I)Z"⟩ ∈ zgw := zgw_4 73 rfl rfl
set_option maxRecDepth 10000 in
theorem wd_916 : Cond.code ⟨"KnockBank", "isWood", "(I)Z"⟩ prog_1_method_50_code 2 (some .boolean) ∈ zgw := zgw_4 74 rfl rfl
set_option maxRecDepth 10000 in
theorem wd_917 : Cond.methodLink "KnockBank" 204 ⟨"KnockBank$Scene", "freshOn", "(I)I"⟩ ∈ zgw := zgw_4 75 rfl rfl
set_option maxRecDepth 10000 in
theorem wd_918 : Cond.instanceMethod ⟨"KnockBank$Scene", "freshOn", "(I)I"⟩ ∈ zgw := zgw_4 76 rfl rfl
set_option maxRecDepth 10000 in
theorem wd_919 : Cond.selects "KnockBank$Scene" ⟨"KnockBank$Scene", "freshOn", "(I)I"⟩ ⟨"KnockBank$Scene", "freshOn", "(I)I"⟩ ∈ zgw := zgw_4 77 rfl rfl
set_option maxRecDepth 10000 in
theorem wd_920 : Cond.code ⟨"KnockBank$Scene", "freshOn", "(I)I"⟩ prog_10_method_21_code 5 (some .int) ∈ zgw := zgw_4 78 rfl rfl
set_option maxRecDepth 10000 in
theorem wd_921 : Cond.methodLink "KnockBank$Scene" 158 ⟨"KnockBank$Scene", "isFaded", "(I)Z"⟩ ∈ zgw := zgw_4 79 rfl rfl
set_option maxRecDepth 10000 in
theorem wd_922 : Cond.instanceMethod ⟨"KnockBank$Scene", "isFaded", "(I)Z"⟩ ∈ zgw := zgw_4 80 rfl rfl
set_option maxRecDepth 10000 in
theorem wd_923 : Cond.selects "KnockBank$Scene" ⟨"KnockBank$Scene", "isFaded", "(I)Z"⟩ ⟨"KnockBank$Scene", "isFaded", "(I)Z"⟩ ∈ zgw := zgw_4 81 rfl rfl
set_option maxRecDepth 10000 in
theorem wd_924 : Cond.code ⟨"KnockBank$Scene", "isFaded", "(I)Z"⟩ prog_10_method_20_code 2 (some .boolean) ∈ zgw := zgw_4 82 rfl rfl
set_option maxRecDepth 10000 in
theorem wd_925 : Cond.methodLink "KnockBank" 207 ⟨"java/lang/Integer", "bitCount", "(I)I"⟩ ∈ zgw := zgw_4 83 rfl rfl
set_option maxRecDepth 10000 in
theorem wd_926 : Cond.static ⟨"java/lang/Integer", "bitCount", "(I)I"⟩ ∈ zgw := zgw_4 84 rfl rfl
set_option maxRecDepth 10000 in
theorem wd_927 : Cond.code ⟨"java/lang/Integer", "bitCount", "(I)I"⟩ prog_20_method_49_code 1 (some .int) ∈ zgw := zgw_4 85 rfl rfl
set_option maxRecDepth 10000 in
theorem wd_928 : Cond.constant "java/lang/Integer" 265 (1431655765) ∈ zgw := zgw_4 86 rfl rfl
set_option maxRecDepth 10000 in
theorem wd_929 : Cond.constant "java/lang/Integer" 266 (858993459) ∈ zgw := zgw_4 87 rfl rfl
set_option maxRecDepth 10000 in
theorem wd_930 : Cond.constant "java/lang/Integer" 267 (252645135) ∈ zgw := zgw_4 88 rfl rfl
set_option maxRecDepth 10000 in
theorem wd_935 : Cond.constantLong "KnockBank" 214 (-9223372036854775808) ∈ zgw := zgw_4 93 rfl rfl
set_option maxRecDepth 10000 in
theorem wd_936 : Cond.methodLink "KnockBank" 216 ⟨"KnockBank$Scene", "worth", "(IIIII)J"⟩ ∈ zgw := zgw_4 94 rfl rfl
set_option maxRecDepth 10000 in
theorem wd_937 : Cond.instanceMethod ⟨"KnockBank$Scene", "worth", "(IIIII)J"⟩ ∈ zgw := zgw_4 95 rfl rfl
set_option maxRecDepth 10000 in
theorem wd_938 : Cond.selects "KnockBank$Scene" ⟨"KnockBank$Scene", "worth", "(IIIII)J"⟩ ⟨"KnockBank$Scene", "worth", "(IIIII)J"⟩ ∈ zgw := zgw_4 96 rfl rfl
set_option maxRecDepth 10000 in
theorem wd_939 : Cond.code ⟨"KnockBank$Scene", "worth", "(IIIII)J"⟩ prog_10_method_4_code 6 (some .long) ∈ zgw := zgw_4 97 rfl rfl
set_option maxRecDepth 10000 in
theorem wd_940 : Cond.methodLink "KnockBank$Scene" 110 ⟨"KnockBank$Scene", "setNames", "(IIII)V"⟩ ∈ zgw := zgw_4 98 rfl rfl
set_option maxRecDepth 10000 in
theorem wd_942 : Cond.instanceMethod ⟨"KnockBank$Scene", "setNames", "(IIII)V"⟩ ∈ zgw := zgw_4 100 rfl rfl
set_option maxRecDepth 10000 in
theorem wd_943 : Cond.code ⟨"KnockBank$Scene", "setNames", "(IIII)V"⟩ prog_10_method_5_code 5 none ∈ zgw := zgw_4 101 rfl rfl
set_option maxRecDepth 10000 in
theorem wd_944 : Cond.methodLink "KnockBank$Scene" 118 ⟨"KnockBank$Law", "value", "([J)J"⟩ ∈ zgw := zgw_4 102 rfl rfl
set_option maxRecDepth 10000 in
theorem wd_945 : Cond.instanceMethod ⟨"KnockBank$Law", "value", "([J)J"⟩ ∈ zgw := zgw_4 103 rfl rfl
set_option maxRecDepth 10000 in
theorem wd_946 : Cond.selects "KnockBank$Law" ⟨"KnockBank$Law", "value", "([J)J"⟩ ⟨"KnockBank$Law", "value", "([J)J"⟩ ∈ zgw := zgw_4 104 rfl rfl
set_option maxRecDepth 10000 in
theorem wd_947 : Cond.code ⟨"KnockBank$Law", "value", "([J)J"⟩ prog_4_method_2_code 6 (some .long) ∈ zgw := zgw_4 105 rfl rfl
set_option maxRecDepth 10000 in
theorem wd_948 : Cond.methodLink "KnockBank$Law" 27 ⟨"KnockBank$Law", "joined", "(IJJ)J"⟩ ∈ zgw := zgw_4 106 rfl rfl
set_option maxRecDepth 10000 in
theorem wd_949 : Cond.static ⟨"KnockBank$Law", "joined", "(IJJ)J"⟩ ∈ zgw := zgw_4 107 rfl rfl
set_option maxRecDepth 10000 in
theorem wd_950 : Cond.code ⟨"KnockBank$Law", "joined", "(IJJ)J"⟩ prog_4_method_3_code 5 (some .long) ∈ zgw := zgw_4 108 rfl rfl
set_option maxRecDepth 10000 in
theorem wd_951 : Cond.constantLong "KnockBank$Law" 33 (1000000000000) ∈ zgw := zgw_4 109 rfl rfl
set_option maxRecDepth 10000 in
theorem wd_952 : Cond.constantLong "KnockBank$Law" 35 (-1000000000000) ∈ zgw := zgw_4 110 rfl rfl
set_option maxRecDepth 10000 in
theorem wd_953 : Cond.constantLong "KnockBank$Law" 31 (-9223372036854775808) ∈ zgw := zgw_4 111 rfl rfl
set_option maxRecDepth 10000 in
theorem wd_954 : Cond.methodLink "KnockBank$Law" 37 ⟨"java/lang/Math", "abs", "(J)J"⟩ ∈ zgw := zgw_4 112 rfl rfl
set_option maxRecDepth 10000 in
theorem wd_955 : Cond.static ⟨"java/lang/Math", "abs", "(J)J"⟩ ∈ zgw := zgw_4 113 rfl rfl
set_option maxRecDepth 10000 in
theorem wd_956 : Cond.code Lib.MathLoose.abs_long.x Lib.MathLoose.abs_long.code 2 (some .long) ∈ zgw := zgw_4 114 (by decide +kernel) (by decide +kernel)
set_option maxRecDepth 10000 in
theorem wd_961 : Cond.methodLink "KnockBank" 220 ⟨"KnockBank$Deeds", "add", "(IIII)V"⟩ ∈ zgw := zgw_4 119 rfl rfl
set_option maxRecDepth 10000 in
theorem wd_962 : Cond.instanceMethod ⟨"KnockBank$Deeds", "add", "(IIII)V"⟩ ∈ zgw := zgw_4 120 rfl rfl
set_option maxRecDepth 10000 in
theorem wd_963 : Cond.selects "KnockBank$Deeds" ⟨"KnockBank$Deeds", "add", "(IIII)V"⟩ ⟨"KnockBank$Deeds", "add", "(IIII)V"⟩ ∈ zgw := zgw_4 121 rfl rfl
set_option maxRecDepth 10000 in
theorem wd_964 : Cond.code ⟨"KnockBank$Deeds", "add", "(IIII)V"⟩ prog_2_method_3_code 6 none ∈ zgw := zgw_4 122 rfl rfl
set_option maxRecDepth 10000 in
theorem wd_965 : Cond.methodLink "KnockBank$Deeds" 17 ⟨"java/lang/System", "arraycopy", "(Ljava/lang/Object;ILjava/lang/Object;II)V"⟩ ∈ zgw := zgw_4 123 rfl rfl
set_option maxRecDepth 10000 in
theorem wd_966 : Cond.static ⟨"java/lang/System", "arraycopy", "(Ljava/lang/Object;ILjava/lang/Object;II)V"⟩ ∈ zgw := zgw_4 124 rfl rfl
set_option maxRecDepth 10000 in
theorem wd_967 : Cond.native ⟨"java/lang/System", "arraycopy", "(Ljava/lang/Object;ILjava/lang/Object;II)V"⟩ ∈ zgw := zgw_4 125 rfl rfl
set_option maxRecDepth 10000 in
theorem wd_972 : Cond.methodLink "KnockBank" 115 ⟨"KnockBank", "isRap", "(I)Z"⟩ ∈ zgw := zgw_4 130 rfl rfl
set_option maxRecDepth 10000 in
theorem wd_974 : Cond.instanceMethod ⟨"KnockBank", "isRap", "(I)Z"⟩ ∈ zgw := zgw_4 132 rfl rfl
set_option maxRecDepth 10000 in
theorem wd_975 : Cond.code ⟨"KnockBank", "isRap", "(I)Z"⟩ prog_1_method_51_code 2 (some .boolean) ∈ zgw := zgw_4 133 rfl rfl
set_option maxRecDepth 10000 in
theorem wd_988 : Cond.methodLink "KnockBank" 230 ⟨"KnockBank", "isSpan", "(I)Z"⟩ ∈ zgw := zgw_4 146 rfl rfl
set_option maxRecDepth 10000 in
theorem wd_989 : Cond.static ⟨"KnockBank", "isSpan", "(I)Z"⟩ ∈ zgw := zgw_4 147 rfl rfl
set_option maxRecDepth 10000 in
theorem wd_990 : Cond.code ⟨"KnockBank", "isSpan", "(I)Z"⟩ prog_1_method_52_code 1 (some .boolean) ∈ zgw := zgw_4 148 rfl rfl
set_option maxRecDepth 10000 in
theorem wd_991 : Cond.methodLink "KnockBank" 233 ⟨"KnockBank$Scene", "pass", "(IZZ)V"⟩ ∈ zgw := zgw_4 149 rfl rfl
set_option maxRecDepth 10000 in
theorem wd_992 : Cond.instanceMethod ⟨"KnockBank$Scene", "pass", "(IZZ)V"⟩ ∈ zgw := zgw_4 150 rfl rfl
set_option maxRecDepth 10000 in
theorem wd_993 : Cond.selects "KnockBank$Scene" ⟨"KnockBank$Scene", "pass", "(IZZ)V"⟩ ⟨"KnockBank$Scene", "pass", "(IZZ)V"⟩ ∈ zgw := zgw_4 151 rfl rfl
set_option maxRecDepth 10000 in
theorem wd_994 : Cond.code ⟨"KnockBank$Scene", "pass", "(IZZ)V"⟩ prog_10_method_10_code 7 none ∈ zgw := zgw_4 152 rfl rfl
set_option maxRecDepth 10000 in
theorem wd_995 : Cond.methodLink "KnockBank$Scene" 148 ⟨"KnockBank$Scene", "fadeAll", "()V"⟩ ∈ zgw := zgw_4 153 rfl rfl
set_option maxRecDepth 10000 in
theorem wd_997 : Cond.instanceMethod ⟨"KnockBank$Scene", "fadeAll", "()V"⟩ ∈ zgw := zgw_4 155 rfl rfl
set_option maxRecDepth 10000 in
theorem wd_998 : Cond.code ⟨"KnockBank$Scene", "fadeAll", "()V"⟩ prog_10_method_11_code 3 none ∈ zgw := zgw_4 156 rfl rfl
set_option maxRecDepth 10000 in
theorem wd_999 : Cond.methodLink "KnockBank$Scene" 162 ⟨"KnockBank$Scene", "fade", "(I)I"⟩ ∈ zgw := zgw_4 157 rfl rfl
set_option maxRecDepth 10000 in
theorem wd_1001 : Cond.instanceMethod ⟨"KnockBank$Scene", "fade", "(I)I"⟩ ∈ zgw := zgw_4 159 rfl rfl
set_option maxRecDepth 10000 in
theorem wd_1002 : Cond.code ⟨"KnockBank$Scene", "fade", "(I)I"⟩ prog_10_method_8_code 2 (some .int) ∈ zgw := zgw_4 160 rfl rfl
set_option maxRecDepth 10000 in
theorem wd_1003 : Cond.methodLink "KnockBank$Scene" 127 ⟨"KnockBank$Scene", "within", "(JII)I"⟩ ∈ zgw := zgw_4 161 rfl rfl
set_option maxRecDepth 10000 in
theorem wd_1004 : Cond.static ⟨"KnockBank$Scene", "within", "(JII)I"⟩ ∈ zgw := zgw_4 162 rfl rfl
set_option maxRecDepth 10000 in
theorem wd_1005 : Cond.code ⟨"KnockBank$Scene", "within", "(JII)I"⟩ prog_10_method_9_code 6 (some .int) ∈ zgw := zgw_4 163 rfl rfl
set_option maxRecDepth 10000 in
theorem wd_1006 : Cond.constantLong "KnockBank$Scene" 137 (-9223372036854775808) ∈ zgw := zgw_4 164 rfl rfl
set_option maxRecDepth 10000 in
theorem wd_1007 : Cond.methodLink "KnockBank$Scene" 139 ⟨"java/lang/Math", "min", "(JJ)J"⟩ ∈ zgw := zgw_4 165 rfl rfl
set_option maxRecDepth 10000 in
theorem wd_1008 : Cond.static ⟨"java/lang/Math", "min", "(JJ)J"⟩ ∈ zgw := zgw_4 166 rfl rfl
set_option maxRecDepth 10000 in
theorem wd_1009 : Cond.code Lib.MathLoose.min_long.x Lib.MathLoose.min_long.code 4 (some .long) ∈ zgw := zgw_4 167 (by decide +kernel) (by decide +kernel)
set_option maxRecDepth 10000 in
theorem wd_1010 : Cond.methodLink "KnockBank$Scene" 145 ⟨"java/lang/Math", "max", "(JJ)J"⟩ ∈ zgw := zgw_4 168 rfl rfl
set_option maxRecDepth 10000 in
theorem wd_1011 : Cond.static ⟨"java/lang/Math", "max", "(JJ)J"⟩ ∈ zgw := zgw_4 169 rfl rfl
set_option maxRecDepth 10000 in
theorem wd_1012 : Cond.code Lib.MathLoose.max_long.x Lib.MathLoose.max_long.code 4 (some .long) ∈ zgw := zgw_4 170 (by decide +kernel) (by decide +kernel)
set_option maxRecDepth 10000 in
theorem wd_1013 : Cond.methodLink "KnockBank$Scene" 154 ⟨"KnockBank$Scene", "rapOnce", "(IZ)V"⟩ ∈ zgw := zgw_4 171 rfl rfl
set_option maxRecDepth 10000 in
theorem wd_1015 : Cond.instanceMethod ⟨"KnockBank$Scene", "rapOnce", "(IZ)V"⟩ ∈ zgw := zgw_4 173 rfl rfl
set_option maxRecDepth 10000 in
theorem wd_1016 : Cond.code ⟨"KnockBank$Scene", "rapOnce", "(IZ)V"⟩ prog_10_method_12_code 5 none ∈ zgw := zgw_4 174 rfl rfl
set_option maxRecDepth 10000 in
theorem wd_1017 : Cond.methodLink "KnockBank$Scene" 166 ⟨"KnockBank$Scene", "listen", "(IIZ)V"⟩ ∈ zgw := zgw_4 175 rfl rfl
set_option maxRecDepth 10000 in
theorem wd_1018 : Cond.instanceMethod ⟨"KnockBank$Scene", "listen", "(IIZ)V"⟩ ∈ zgw := zgw_4 176 rfl rfl
set_option maxRecDepth 10000 in
theorem wd_1019 : Cond.selects "KnockBank$Scene" ⟨"KnockBank$Scene", "listen", "(IIZ)V"⟩ ⟨"KnockBank$Scene", "listen", "(IIZ)V"⟩ ∈ zgw := zgw_4 177 rfl rfl
set_option maxRecDepth 10000 in
theorem wd_1020 : Cond.code ⟨"KnockBank$Scene", "listen", "(IIZ)V"⟩ prog_10_method_13_code 7 none ∈ zgw := zgw_4 178 rfl rfl
set_option maxRecDepth 10000 in
theorem wd_1021 : Cond.methodLink "KnockBank$Scene" 178 ⟨"KnockBank$Scene", "shake", "(III)I"⟩ ∈ zgw := zgw_4 179 rfl rfl
set_option maxRecDepth 10000 in
theorem wd_1022 : Cond.instanceMethod ⟨"KnockBank$Scene", "shake", "(III)I"⟩ ∈ zgw := zgw_4 180 rfl rfl
set_option maxRecDepth 10000 in
theorem wd_1023 : Cond.selects "KnockBank$Scene" ⟨"KnockBank$Scene", "shake", "(III)I"⟩ ⟨"KnockBank$Scene", "shake", "(III)I"⟩ ∈ zgw := zgw_4 181 rfl rfl
set_option maxRecDepth 10000 in
theorem wd_1024 : Cond.code ⟨"KnockBank$Scene", "shake", "(III)I"⟩ prog_10_method_6_code 5 (some .int) ∈ zgw := zgw_4 182 rfl rfl
set_option maxRecDepth 10000 in
theorem wd_1025 : Cond.methodLink "KnockBank$Scene" 182 ⟨"KnockBank$Scene", "isAboveDrawn", "(I)Z"⟩ ∈ zgw := zgw_4 183 rfl rfl
set_option maxRecDepth 10000 in
theorem wd_1027 : Cond.instanceMethod ⟨"KnockBank$Scene", "isAboveDrawn", "(I)Z"⟩ ∈ zgw := zgw_4 185 rfl rfl
set_option maxRecDepth 10000 in
theorem wd_1028 : Cond.code ⟨"KnockBank$Scene", "isAboveDrawn", "(I)Z"⟩ prog_10_method_14_code 2 (some .boolean) ∈ zgw := zgw_4 186 rfl rfl
set_option maxRecDepth 10000 in
theorem wd_1029 : Cond.constant "KnockBank$Scene" 185 (1103515245) ∈ zgw := zgw_4 187 rfl rfl
set_option maxRecDepth 10000 in
theorem wd_1030 : Cond.constant "KnockBank$Scene" 188 (2147483647) ∈ zgw := zgw_4 188 rfl rfl
set_option maxRecDepth 10000 in
theorem wd_1031 : Cond.constant "KnockBank$Scene" 189 (65536) ∈ zgw := zgw_4 189 rfl rfl
set_option maxRecDepth 10000 in
theorem wd_1032 : Cond.methodLink "KnockBank$Scene" 170 ⟨"KnockBank$Scene", "whoKnocks", "([II)I"⟩ ∈ zgw := zgw_4 190 rfl rfl
set_option maxRecDepth 10000 in
theorem wd_1033 : Cond.instanceMethod ⟨"KnockBank$Scene", "whoKnocks", "([II)I"⟩ ∈ zgw := zgw_4 191 rfl rfl
set_option maxRecDepth 10000 in
theorem wd_1034 : Cond.selects "KnockBank$Scene" ⟨"KnockBank$Scene", "whoKnocks", "([II)I"⟩ ⟨"KnockBank$Scene", "whoKnocks", "([II)I"⟩ ∈ zgw := zgw_4 192 rfl rfl
set_option maxRecDepth 10000 in
theorem wd_1035 : Cond.code ⟨"KnockBank$Scene", "whoKnocks", "([II)I"⟩ prog_10_method_15_code 7 (some .int) ∈ zgw := zgw_4 193 rfl rfl
set_option maxRecDepth 10000 in
theorem wd_1036 : Cond.methodLink "KnockBank$Scene" 193 ⟨"KnockBank$Hand", "apartFrom", "([I)I"⟩ ∈ zgw := zgw_4 194 rfl rfl
set_option maxRecDepth 10000 in
theorem wd_1037 : Cond.instanceMethod ⟨"KnockBank$Hand", "apartFrom", "([I)I"⟩ ∈ zgw := zgw_4 195 rfl rfl
set_option maxRecDepth 10000 in
theorem wd_1038 : Cond.selects "KnockBank$Hand" ⟨"KnockBank$Hand", "apartFrom", "([I)I"⟩ ⟨"KnockBank$Hand", "apartFrom", "([I)I"⟩ ∈ zgw := zgw_4 196 rfl rfl
set_option maxRecDepth 10000 in
theorem wd_1039 : Cond.code ⟨"KnockBank$Hand", "apartFrom", "([I)I"⟩ prog_3_method_6_code 4 (some .int) ∈ zgw := zgw_4 197 rfl rfl
set_option maxRecDepth 10000 in
theorem wd_1040 : Cond.methodLink "KnockBank$Scene" 196 ⟨"KnockBank$Scene", "reach", "(III)I"⟩ ∈ zgw := zgw_4 198 rfl rfl
set_option maxRecDepth 10000 in
theorem wd_1041 : Cond.instanceMethod ⟨"KnockBank$Scene", "reach", "(III)I"⟩ ∈ zgw := zgw_4 199 rfl rfl
set_option maxRecDepth 10000 in
theorem wd_1042 : Cond.selects "KnockBank$Scene" ⟨"KnockBank$Scene", "reach", "(III)I"⟩ ⟨"KnockBank$Scene", "reach", "(III)I"⟩ ∈ zgw := zgw_4 200 rfl rfl
set_option maxRecDepth 10000 in
theorem wd_1043 : Cond.code ⟨"KnockBank$Scene", "reach", "(III)I"⟩ prog_10_method_7_code 4 (some .int) ∈ zgw := zgw_4 201 rfl rfl
set_option maxRecDepth 10000 in
theorem wd_1049 : Cond.methodLink "KnockBank" 237 ⟨"KnockBank$Scene", "copyOf", "(LKnockBank$Scene;)V"⟩ ∈ zgw := zgw_4 207 rfl rfl
set_option maxRecDepth 10000 in
theorem wd_1050 : Cond.instanceMethod ⟨"KnockBank$Scene", "copyOf", "(LKnockBank$Scene;)V"⟩ ∈ zgw := zgw_4 208 rfl rfl
set_option maxRecDepth 10000 in
theorem wd_1051 : Cond.selects "KnockBank$Scene" ⟨"KnockBank$Scene", "copyOf", "(LKnockBank$Scene;)V"⟩ ⟨"KnockBank$Scene", "copyOf", "(LKnockBank$Scene;)V"⟩ ∈ zgw := zgw_4 209 rfl rfl
set_option maxRecDepth 10000 in
theorem wd_1052 : Cond.code ⟨"KnockBank$Scene", "copyOf", "(LKnockBank$Scene;)V"⟩ prog_10_method_3_code 2 none ∈ zgw := zgw_4 210 rfl rfl
set_option maxRecDepth 10000 in
theorem wd_1053 : Cond.methodLink "KnockBank$Scene" 104 ⟨"java/lang/System", "arraycopy", "(Ljava/lang/Object;ILjava/lang/Object;II)V"⟩ ∈ zgw := zgw_4 211 rfl rfl
set_option maxRecDepth 10000 in
theorem wd_1054 : Cond.methodLink "KnockBank" 241 ⟨"KnockBank$Scene", "manyOf", "(I)I"⟩ ∈ zgw := zgw_4 212 rfl rfl
set_option maxRecDepth 10000 in
theorem wd_1055 : Cond.instanceMethod ⟨"KnockBank$Scene", "manyOf", "(I)I"⟩ ∈ zgw := zgw_4 213 rfl rfl
set_option maxRecDepth 10000 in
theorem wd_1056 : Cond.selects "KnockBank$Scene" ⟨"KnockBank$Scene", "manyOf", "(I)I"⟩ ⟨"KnockBank$Scene", "manyOf", "(I)I"⟩ ∈ zgw := zgw_4 214 rfl rfl
set_option maxRecDepth 10000 in
theorem wd_1057 : Cond.code ⟨"KnockBank$Scene", "manyOf", "(I)I"⟩ prog_10_method_17_code 4 (some .int) ∈ zgw := zgw_4 215 rfl rfl
set_option maxRecDepth 10000 in
theorem wd_1058 : Cond.methodLink "KnockBank" 244 ⟨"KnockBank$Scene", "manyWrong", "()I"⟩ ∈ zgw := zgw_4 216 rfl rfl
set_option maxRecDepth 10000 in
theorem wd_1059 : Cond.instanceMethod ⟨"KnockBank$Scene", "manyWrong", "()I"⟩ ∈ zgw := zgw_4 217 rfl rfl
set_option maxRecDepth 10000 in
theorem wd_1060 : Cond.selects "KnockBank$Scene" ⟨"KnockBank$Scene", "manyWrong", "()I"⟩ ⟨"KnockBank$Scene", "manyWrong", "()I"⟩ ∈ zgw := zgw_4 218 rfl rfl
set_option maxRecDepth 10000 in
theorem wd_1061 : Cond.code ⟨"KnockBank$Scene", "manyWrong", "()I"⟩ prog_10_method_18_code 3 (some .int) ∈ zgw := zgw_4 219 rfl rfl
set_option maxRecDepth 10000 in
theorem wd_1066 : Cond.methodLink "KnockBank" 248 ⟨"KnockBank$Hand", "apartFrom", "([I)I"⟩ ∈ zgw := zgw_4 224 rfl rfl
set_option maxRecDepth 10000 in
theorem wd_1071 : Cond.constant "KnockBank" 251 (2147483647) ∈ zgw := zgw_4 229 rfl rfl
set_option maxRecDepth 10000 in
theorem wd_1076 : Cond.methodLink "KnockBank" 255 ⟨"KnockBank$Text", "findNew", "()V"⟩ ∈ zgw := zgw_4 234 rfl rfl
set_option maxRecDepth 10000 in
theorem wd_1077 : Cond.instanceMethod ⟨"KnockBank$Text", "findNew", "()V"⟩ ∈ zgw := zgw_4 235 rfl rfl
set_option maxRecDepth 10000 in
theorem wd_1078 : Cond.selects "KnockBank$Text" ⟨"KnockBank$Text", "findNew", "()V"⟩ ⟨"KnockBank$Text", "findNew", "()V"⟩ ∈ zgw := zgw_4 236 rfl rfl
set_option maxRecDepth 10000 in
theorem wd_1079 : Cond.code ⟨"KnockBank$Text", "findNew", "()V"⟩ prog_11_method_5_code 3 none ∈ zgw := zgw_4 237 rfl rfl
set_option maxRecDepth 10000 in
theorem wd_1080 : Cond.methodLink "KnockBank$Text" 81 ⟨"KnockBank$Text", "leastApart", "(II)I"⟩ ∈ zgw := zgw_4 238 rfl rfl
set_option maxRecDepth 10000 in
theorem wd_1082 : Cond.instanceMethod ⟨"KnockBank$Text", "leastApart", "(II)I"⟩ ∈ zgw := zgw_5 0 rfl rfl
set_option maxRecDepth 10000 in
theorem wd_1083 : Cond.code ⟨"KnockBank$Text", "leastApart", "(II)I"⟩ prog_11_method_6_code 5 (some .int) ∈ zgw := zgw_5 1 rfl rfl
set_option maxRecDepth 10000 in
theorem wd_1084 : Cond.methodLink "KnockBank$Text" 85 ⟨"KnockBank$Hand", "apartFromCode", "(I)I"⟩ ∈ zgw := zgw_5 2 rfl rfl
set_option maxRecDepth 10000 in
theorem wd_1085 : Cond.instanceMethod ⟨"KnockBank$Hand", "apartFromCode", "(I)I"⟩ ∈ zgw := zgw_5 3 rfl rfl
set_option maxRecDepth 10000 in
theorem wd_1086 : Cond.selects "KnockBank$Hand" ⟨"KnockBank$Hand", "apartFromCode", "(I)I"⟩ ⟨"KnockBank$Hand", "apartFromCode", "(I)I"⟩ ∈ zgw := zgw_5 4 rfl rfl
set_option maxRecDepth 10000 in
theorem wd_1087 : Cond.code ⟨"KnockBank$Hand", "apartFromCode", "(I)I"⟩ prog_3_method_5_code 4 (some .int) ∈ zgw := zgw_5 5 rfl rfl
set_option maxRecDepth 10000 in
theorem wd_1088 : Cond.methodLink "KnockBank$Text" 89 ⟨"java/lang/Math", "min", "(II)I"⟩ ∈ zgw := zgw_5 6 rfl rfl
set_option maxRecDepth 10000 in
theorem wd_1089 : Cond.methodLink "KnockBank" 261 ⟨"KnockBank", "digitsOfCode", "(I)I"⟩ ∈ zgw := zgw_5 7 rfl rfl
set_option maxRecDepth 10000 in
theorem wd_1090 : Cond.static ⟨"KnockBank", "digitsOfCode", "(I)I"⟩ ∈ zgw := zgw_5 8 rfl rfl
set_option maxRecDepth 10000 in
theorem wd_1091 : Cond.code ⟨"KnockBank", "digitsOfCode", "(I)I"⟩ prog_1_method_55_code 3 (some .int) ∈ zgw := zgw_5 9 rfl rfl
set_option maxRecDepth 10000 in
theorem wd_1096 : Cond.methodLink "KnockBank" 267 ⟨"KnockBank", "isSpread", "(I[I)Z"⟩ ∈ zgw := zgw_5 14 rfl rfl
set_option maxRecDepth 10000 in
theorem wd_1097 : Cond.static ⟨"KnockBank", "isSpread", "(I[I)Z"⟩ ∈ zgw := zgw_5 15 rfl rfl
set_option maxRecDepth 10000 in
theorem wd_1098 : Cond.code ⟨"KnockBank", "isSpread", "(I[I)Z"⟩ prog_1_method_53_code 5 (some .boolean) ∈ zgw := zgw_5 16 rfl rfl
set_option maxRecDepth 10000 in
theorem wd_1099 : Cond.methodLink "KnockBank" 271 ⟨"KnockBank$Scene", "whoKnocks", "([II)I"⟩ ∈ zgw := zgw_5 17 rfl rfl
set_option maxRecDepth 10000 in
theorem wd_1104 : Cond.methodLink "KnockBank" 275 ⟨"KnockBank$Hand", "canSound", "([I)Z"⟩ ∈ zgw := zgw_5 22 rfl rfl
set_option maxRecDepth 10000 in
theorem wd_1105 : Cond.instanceMethod ⟨"KnockBank$Hand", "canSound", "([I)Z"⟩ ∈ zgw := zgw_5 23 rfl rfl
set_option maxRecDepth 10000 in
theorem wd_1106 : Cond.selects "KnockBank$Hand" ⟨"KnockBank$Hand", "canSound", "([I)Z"⟩ ⟨"KnockBank$Hand", "canSound", "([I)Z"⟩ ∈ zgw := zgw_5 24 rfl rfl
set_option maxRecDepth 10000 in
theorem wd_1107 : Cond.code ⟨"KnockBank$Hand", "canSound", "([I)Z"⟩ prog_3_method_7_code 3 (some .boolean) ∈ zgw := zgw_5 25 rfl rfl
set_option maxRecDepth 10000 in
theorem wd_1112 : Cond.constantLong "KnockBank" 279 (-1) ∈ zgw := zgw_5 30 rfl rfl
set_option maxRecDepth 10000 in
theorem wd_1113 : Cond.methodLink "KnockBank" 281 ⟨"KnockBank$Scene", "rightly", "(II)J"⟩ ∈ zgw := zgw_5 31 rfl rfl
set_option maxRecDepth 10000 in
theorem wd_1114 : Cond.instanceMethod ⟨"KnockBank$Scene", "rightly", "(II)J"⟩ ∈ zgw := zgw_5 32 rfl rfl
set_option maxRecDepth 10000 in
theorem wd_1115 : Cond.selects "KnockBank$Scene" ⟨"KnockBank$Scene", "rightly", "(II)J"⟩ ⟨"KnockBank$Scene", "rightly", "(II)J"⟩ ∈ zgw := zgw_5 33 rfl rfl
set_option maxRecDepth 10000 in
theorem wd_1116 : Cond.code ⟨"KnockBank$Scene", "rightly", "(II)J"⟩ prog_10_method_16_code 6 (some .long) ∈ zgw := zgw_5 34 rfl rfl
set_option maxRecDepth 10000 in
theorem wd_1117 : Cond.constantLong "KnockBank" 285 (1000000000000) ∈ zgw := zgw_5 35 rfl rfl
set_option maxRecDepth 10000 in
theorem wd_1118 : Cond.methodLink "KnockBank" 287 ⟨"KnockBank", "commonDivisor", "(JJ)J"⟩ ∈ zgw := zgw_5 36 rfl rfl
set_option maxRecDepth 10000 in
theorem wd_1119 : Cond.static ⟨"KnockBank", "commonDivisor", "(JJ)J"⟩ ∈ zgw := zgw_5 37 rfl rfl
set_option maxRecDepth 10000 in
theorem wd_1120 : Cond.code ⟨"KnockBank", "commonDivisor", "(JJ)J"⟩ prog_1_method_56_code 11 (some .long) ∈ zgw := zgw_5 38 rfl rfl
set_option maxRecDepth 10000 in
theorem wd_1129 : Cond.methodLink "KnockBank" 294 ⟨"KnockBank$Hand", "countChanges", "([I)V"⟩ ∈ zgw := zgw_5 47 rfl rfl
set_option maxRecDepth 10000 in
theorem wd_1130 : Cond.instanceMethod ⟨"KnockBank$Hand", "countChanges", "([I)V"⟩ ∈ zgw := zgw_5 48 rfl rfl
set_option maxRecDepth 10000 in
theorem wd_1131 : Cond.selects "KnockBank$Hand" ⟨"KnockBank$Hand", "countChanges", "([I)V"⟩ ⟨"KnockBank$Hand", "countChanges", "([I)V"⟩ ∈ zgw := zgw_5 49 rfl rfl
set_option maxRecDepth 10000 in
theorem wd_1132 : Cond.code ⟨"KnockBank$Hand", "countChanges", "([I)V"⟩ prog_3_method_3_code 6 none ∈ zgw := zgw_5 50 rfl rfl
set_option maxRecDepth 10000 in
theorem wd_1133 : Cond.methodLink "KnockBank" 298 ⟨"KnockBank$Scene", "reach", "(III)I"⟩ ∈ zgw := zgw_5 51 rfl rfl
set_option maxRecDepth 10000 in
theorem wd_1134 : Cond.methodLink "KnockBank" 302 ⟨"KnockBank", "isTakenFor", "(II)Z"⟩ ∈ zgw := zgw_5 52 rfl rfl
set_option maxRecDepth 10000 in
theorem wd_1136 : Cond.instanceMethod ⟨"KnockBank", "isTakenFor", "(II)Z"⟩ ∈ zgw := zgw_5 54 rfl rfl
set_option maxRecDepth 10000 in
theorem wd_1137 : Cond.code ⟨"KnockBank", "isTakenFor", "(II)Z"⟩ prog_1_method_25_code 6 (some .boolean) ∈ zgw := zgw_5 55 rfl rfl
set_option maxRecDepth 10000 in
theorem wd_1138 : Cond.methodLink "KnockBank" 306 ⟨"KnockBank$Hand", "apartFromCode", "(I)I"⟩ ∈ zgw := zgw_5 56 rfl rfl
set_option maxRecDepth 10000 in
theorem wd_1143 : Cond.methodLink "KnockBank" 309 ⟨"KnockBank$Text", "areToldApart", "(I)Z"⟩ ∈ zgw := zgw_5 61 rfl rfl
set_option maxRecDepth 10000 in
theorem wd_1144 : Cond.instanceMethod ⟨"KnockBank$Text", "areToldApart", "(I)Z"⟩ ∈ zgw := zgw_5 62 rfl rfl
set_option maxRecDepth 10000 in
theorem wd_1145 : Cond.selects "KnockBank$Text" ⟨"KnockBank$Text", "areToldApart", "(I)Z"⟩ ⟨"KnockBank$Text", "areToldApart", "(I)Z"⟩ ∈ zgw := zgw_5 63 rfl rfl
set_option maxRecDepth 10000 in
theorem wd_1146 : Cond.code ⟨"KnockBank$Text", "areToldApart", "(I)Z"⟩ prog_11_method_7_code 4 (some .boolean) ∈ zgw := zgw_5 64 rfl rfl
set_option maxRecDepth 10000 in
theorem wd_1147 : Cond.methodLink "KnockBank$Text" 94 ⟨"KnockBank$Hand", "isUnlike", "(LKnockBank$Hand;I)Z"⟩ ∈ zgw := zgw_5 65 rfl rfl
set_option maxRecDepth 10000 in
theorem wd_1148 : Cond.instanceMethod ⟨"KnockBank$Hand", "isUnlike", "(LKnockBank$Hand;I)Z"⟩ ∈ zgw := zgw_5 66 rfl rfl
set_option maxRecDepth 10000 in
theorem wd_1149 : Cond.selects "KnockBank$Hand" ⟨"KnockBank$Hand", "isUnlike", "(LKnockBank$Hand;I)Z"⟩ ⟨"KnockBank$Hand", "isUnlike", "(LKnockBank$Hand;I)Z"⟩ ∈ zgw := zgw_5 67 rfl rfl
set_option maxRecDepth 10000 in
theorem wd_1150 : Cond.code ⟨"KnockBank$Hand", "isUnlike", "(LKnockBank$Hand;I)Z"⟩ prog_3_method_8_code 4 (some .boolean) ∈ zgw := zgw_5 68 rfl rfl
set_option maxRecDepth 10000 in
theorem wd_1155 : Cond.methodLink "KnockBank" 312 ⟨"KnockBank$Row", "lay", "(LKnockBank$Text;I)V"⟩ ∈ zgw := zgw_5 73 rfl rfl
set_option maxRecDepth 10000 in
theorem wd_1156 : Cond.instanceMethod ⟨"KnockBank$Row", "lay", "(LKnockBank$Text;I)V"⟩ ∈ zgw := zgw_5 74 rfl rfl
set_option maxRecDepth 10000 in
theorem wd_1157 : Cond.selects "KnockBank$Row" ⟨"KnockBank$Row", "lay", "(LKnockBank$Text;I)V"⟩ ⟨"KnockBank$Row", "lay", "(LKnockBank$Text;I)V"⟩ ∈ zgw := zgw_5 75 rfl rfl
set_option maxRecDepth 10000 in
theorem wd_1158 : Cond.code ⟨"KnockBank$Row", "lay", "(LKnockBank$Text;I)V"⟩ prog_8_method_2_code 7 none ∈ zgw := zgw_5 76 rfl rfl
set_option maxRecDepth 10000 in
theorem wd_1159 : Cond.methodLink "KnockBank$Row" 22 ⟨"KnockBank$Row", "weigh", "(I)V"⟩ ∈ zgw := zgw_5 77 rfl rfl
set_option maxRecDepth 10000 in
theorem wd_1161 : Cond.instanceMethod ⟨"KnockBank$Row", "weigh", "(I)V"⟩ ∈ zgw := zgw_5 79 rfl rfl
set_option maxRecDepth 10000 in
theorem wd_1162 : Cond.code ⟨"KnockBank$Row", "weigh", "(I)V"⟩ prog_8_method_3_code 4 none ∈ zgw := zgw_5 80 rfl rfl
set_option maxRecDepth 10000 in
theorem wd_1163 : Cond.methodLink "KnockBank$Row" 33 ⟨"KnockBank$Row", "bestNext", "(II)I"⟩ ∈ zgw := zgw_5 81 rfl rfl
set_option maxRecDepth 10000 in
theorem wd_1165 : Cond.instanceMethod ⟨"KnockBank$Row", "bestNext", "(II)I"⟩ ∈ zgw := zgw_5 83 rfl rfl
set_option maxRecDepth 10000 in
theorem wd_1166 : Cond.code ⟨"KnockBank$Row", "bestNext", "(II)I"⟩ prog_8_method_4_code 6 (some .int) ∈ zgw := zgw_5 84 rfl rfl
set_option maxRecDepth 10000 in
theorem wd_1167 : Cond.constant "KnockBank$Row" 52 (2147483647) ∈ zgw := zgw_5 85 rfl rfl
set_option maxRecDepth 10000 in
theorem wd_1168 : Cond.methodLink "KnockBank$Row" 46 ⟨"KnockBank$Row", "costOf", "(III)I"⟩ ∈ zgw := zgw_5 86 rfl rfl
set_option maxRecDepth 10000 in
theorem wd_1170 : Cond.instanceMethod ⟨"KnockBank$Row", "costOf", "(III)I"⟩ ∈ zgw := zgw_5 88 rfl rfl
set_option maxRecDepth 10000 in
theorem wd_1171 : Cond.code ⟨"KnockBank$Row", "costOf", "(III)I"⟩ prog_8_method_5_code 5 (some .int) ∈ zgw := zgw_5 89 rfl rfl
set_option maxRecDepth 10000 in
theorem wd_1172 : Cond.methodLink "KnockBank$Row" 37 ⟨"KnockBank$Row", "isMasked", "(II)Z"⟩ ∈ zgw := zgw_5 90 rfl rfl
set_option maxRecDepth 10000 in
theorem wd_1174 : Cond.instanceMethod ⟨"KnockBank$Row", "isMasked", "(II)Z"⟩ ∈ zgw := zgw_5 92 rfl rfl
set_option maxRecDepth 10000 in
theorem wd_1175 : Cond.code ⟨"KnockBank$Row", "isMasked", "(II)Z"⟩ prog_8_method_6_code 3 (some .boolean) ∈ zgw := zgw_5 93 rfl rfl
set_option maxRecDepth 10000 in
theorem wd_1176 : Cond.methodLink "KnockBank$Row" 56 ⟨"KnockBank$Hand", "masks", "(LKnockBank$Hand;)Z"⟩ ∈ zgw := zgw_5 94 rfl rfl
set_option maxRecDepth 10000 in
theorem wd_1177 : Cond.instanceMethod ⟨"KnockBank$Hand", "masks", "(LKnockBank$Hand;)Z"⟩ ∈ zgw := zgw_5 95 rfl rfl
set_option maxRecDepth 10000 in
theorem wd_1178 : Cond.selects "KnockBank$Hand" ⟨"KnockBank$Hand", "masks", "(LKnockBank$Hand;)Z"⟩ ⟨"KnockBank$Hand", "masks", "(LKnockBank$Hand;)Z"⟩ ∈ zgw := zgw_5 96 rfl rfl
set_option maxRecDepth 10000 in
theorem wd_1179 : Cond.code ⟨"KnockBank$Hand", "masks", "(LKnockBank$Hand;)Z"⟩ prog_3_method_9_code 2 (some .boolean) ∈ zgw := zgw_5 97 rfl rfl
set_option maxRecDepth 10000 in
theorem wd_1184 : Cond.methodLink "KnockBank" 147 ⟨"KnockBank$Scene", "isFaded", "(I)Z"⟩ ∈ zgw := zgw_5 102 rfl rfl
set_option maxRecDepth 10000 in
theorem wd_1193 : Cond.methodLink "KnockBank" 327 ⟨"KnockBank", "restBits", "(II)I"⟩ ∈ zgw := zgw_5 111 rfl rfl
set_option maxRecDepth 10000 in
theorem wd_1195 : Cond.instanceMethod ⟨"KnockBank", "restBits", "(II)I"⟩ ∈ zgw := zgw_5 113 rfl rfl
set_option maxRecDepth 10000 in
theorem wd_1196 : Cond.code ⟨"KnockBank", "restBits", "(II)I"⟩ prog_1_method_32_code 10 (some .int) ∈ zgw := zgw_5 114 rfl rfl
set_option maxRecDepth 10000 in
theorem wd_1197 : Cond.methodLink "KnockBank" 331 ⟨"KnockBank$Scene", "listen", "(IIZ)V"⟩ ∈ zgw := zgw_5 115 rfl rfl
set_option maxRecDepth 10000 in
theorem wd_1198 : Cond.methodLink "KnockBank" 338 ⟨"KnockBank", "gain", "(III)I"⟩ ∈ zgw := zgw_5 116 rfl rfl
set_option maxRecDepth 10000 in
theorem wd_1200 : Cond.instanceMethod ⟨"KnockBank", "gain", "(III)I"⟩ ∈ zgw := zgw_5 118 rfl rfl
set_option maxRecDepth 10000 in
theorem wd_1201 : Cond.code ⟨"KnockBank", "gain", "(III)I"⟩ prog_1_method_33_code 5 (some .int) ∈ zgw := zgw_5 119 rfl rfl
set_option maxRecDepth 10000 in
theorem wd_1202 : Cond.methodLink "KnockBank" 341 ⟨"KnockBank", "takes", "(II)Z"⟩ ∈ zgw := zgw_5 120 rfl rfl
set_option maxRecDepth 10000 in
theorem wd_1204 : Cond.instanceMethod ⟨"KnockBank", "takes", "(II)Z"⟩ ∈ zgw := zgw_5 122 rfl rfl
set_option maxRecDepth 10000 in
theorem wd_1205 : Cond.code ⟨"KnockBank", "takes", "(II)Z"⟩ prog_1_method_34_code 3 (some .boolean) ∈ zgw := zgw_5 123 rfl rfl
set_option maxRecDepth 10000 in
theorem wd_1206 : Cond.methodLink "KnockBank" 347 ⟨"java/lang/Math", "max", "(II)I"⟩ ∈ zgw := zgw_5 124 rfl rfl
set_option maxRecDepth 10000 in
theorem wd_1207 : Cond.static ⟨"java/lang/Math", "max", "(II)I"⟩ ∈ zgw := zgw_5 125 rfl rfl
set_option maxRecDepth 10000 in
theorem wd_1208 : Cond.code Lib.Math.max.name Lib.Math.max.code 2 (some .int) ∈ zgw := zgw_5 126 (by decide +kernel) (by decide +kernel)
set_option maxRecDepth 10000 in
theorem wd_1229 : Cond.methodLink "KnockBank" 352 ⟨"KnockBank$Overheard", "add", "(IIZ)I"⟩ ∈ zgw := zgw_5 147 rfl rfl
set_option maxRecDepth 10000 in
theorem wd_1230 : Cond.instanceMethod ⟨"KnockBank$Overheard", "add", "(IIZ)I"⟩ ∈ zgw := zgw_5 148 rfl rfl
set_option maxRecDepth 10000 in
theorem wd_1231 : Cond.selects "KnockBank$Overheard" ⟨"KnockBank$Overheard", "add", "(IIZ)I"⟩ ⟨"KnockBank$Overheard", "add", "(IIZ)I"⟩ ∈ zgw := zgw_5 149 rfl rfl
set_option maxRecDepth 10000 in
theorem wd_1232 : Cond.code ⟨"KnockBank$Overheard", "add", "(IIZ)I"⟩ prog_5_method_3_code 4 (some .int) ∈ zgw := zgw_5 150 rfl rfl
set_option maxRecDepth 10000 in
theorem wd_1237 : Cond.methodLink "KnockBank" 358 ⟨"KnockBank$Overheard", "addStrike", "(I)I"⟩ ∈ zgw := zgw_5 155 rfl rfl
set_option maxRecDepth 10000 in
theorem wd_1238 : Cond.instanceMethod ⟨"KnockBank$Overheard", "addStrike", "(I)I"⟩ ∈ zgw := zgw_5 156 rfl rfl
set_option maxRecDepth 10000 in
theorem wd_1239 : Cond.selects "KnockBank$Overheard" ⟨"KnockBank$Overheard", "addStrike", "(I)I"⟩ ⟨"KnockBank$Overheard", "addStrike", "(I)I"⟩ ∈ zgw := zgw_5 157 rfl rfl
set_option maxRecDepth 10000 in
theorem wd_1240 : Cond.code ⟨"KnockBank$Overheard", "addStrike", "(I)I"⟩ prog_5_method_4_code 3 (some .int) ∈ zgw := zgw_5 158 rfl rfl
set_option maxRecDepth 10000 in
theorem wd_1241 : Cond.methodLink "KnockBank$Overheard" 35 ⟨"KnockBank$Overheard", "add", "(IIZ)I"⟩ ∈ zgw := zgw_5 159 rfl rfl
set_option maxRecDepth 10000 in
theorem wd_1250 : Cond.methodLink "KnockBank" 364 ⟨"KnockBank$Overheard", "sift", "()V"⟩ ∈ zgw := zgw_5 168 rfl rfl
set_option maxRecDepth 10000 in
theorem wd_1251 : Cond.instanceMethod ⟨"KnockBank$Overheard", "sift", "()V"⟩ ∈ zgw := zgw_5 169 rfl rfl
set_option maxRecDepth 10000 in
theorem wd_1252 : Cond.selects "KnockBank$Overheard" ⟨"KnockBank$Overheard", "sift", "()V"⟩ ⟨"KnockBank$Overheard", "sift", "()V"⟩ ∈ zgw := zgw_5 170 rfl rfl
set_option maxRecDepth 10000 in
theorem wd_1253 : Cond.code ⟨"KnockBank$Overheard", "sift", "()V"⟩ prog_5_method_6_code 2 none ∈ zgw := zgw_5 171 rfl rfl
set_option maxRecDepth 10000 in
theorem wd_1254 : Cond.methodLink "KnockBank$Overheard" 39 ⟨"KnockBank$Overheard", "manyKnown", "()I"⟩ ∈ zgw := zgw_5 172 rfl rfl
set_option maxRecDepth 10000 in
theorem wd_1255 : Cond.instanceMethod ⟨"KnockBank$Overheard", "manyKnown", "()I"⟩ ∈ zgw := zgw_5 173 rfl rfl
set_option maxRecDepth 10000 in
theorem wd_1256 : Cond.selects "KnockBank$Overheard" ⟨"KnockBank$Overheard", "manyKnown", "()I"⟩ ⟨"KnockBank$Overheard", "manyKnown", "()I"⟩ ∈ zgw := zgw_5 174 rfl rfl
set_option maxRecDepth 10000 in
theorem wd_1257 : Cond.code ⟨"KnockBank$Overheard", "manyKnown", "()I"⟩ prog_5_method_5_code 1 (some .int) ∈ zgw := zgw_5 175 rfl rfl
set_option maxRecDepth 10000 in
theorem wd_1258 : Cond.methodLink "KnockBank" 367 ⟨"KnockBank$Overheard", "manyKnown", "()I"⟩ ∈ zgw := zgw_5 176 rfl rfl
set_option maxRecDepth 10000 in
theorem wd_1259 : Cond.methodLink "KnockBank" 370 ⟨"KnockBank$Overheard", "counts", "(I)Z"⟩ ∈ zgw := zgw_5 177 rfl rfl
set_option maxRecDepth 10000 in
theorem wd_1260 : Cond.instanceMethod ⟨"KnockBank$Overheard", "counts", "(I)Z"⟩ ∈ zgw := zgw_5 178 rfl rfl
set_option maxRecDepth 10000 in
theorem wd_1261 : Cond.selects "KnockBank$Overheard" ⟨"KnockBank$Overheard", "counts", "(I)Z"⟩ ⟨"KnockBank$Overheard", "counts", "(I)Z"⟩ ∈ zgw := zgw_5 179 rfl rfl
set_option maxRecDepth 10000 in
theorem wd_1262 : Cond.code ⟨"KnockBank$Overheard", "counts", "(I)Z"⟩ prog_5_method_7_code 2 (some .boolean) ∈ zgw := zgw_5 180 rfl rfl
set_option maxRecDepth 10000 in
theorem wd_1263 : Cond.methodLink "KnockBank" 376 ⟨"KnockBank", "coldsBy", "(I)I"⟩ ∈ zgw := zgw_5 181 rfl rfl
set_option maxRecDepth 10000 in
theorem wd_1265 : Cond.instanceMethod ⟨"KnockBank", "coldsBy", "(I)I"⟩ ∈ zgw := zgw_5 183 rfl rfl
set_option maxRecDepth 10000 in
theorem wd_1266 : Cond.code ⟨"KnockBank", "coldsBy", "(I)I"⟩ prog_1_method_42_code 7 (some .int) ∈ zgw := zgw_5 184 rfl rfl
set_option maxRecDepth 10000 in
theorem wd_1267 : Cond.methodLink "KnockBank" 380 ⟨"KnockBank$Text", "rapsAhead", "(I)I"⟩ ∈ zgw := zgw_5 185 rfl rfl
set_option maxRecDepth 10000 in
theorem wd_1268 : Cond.instanceMethod ⟨"KnockBank$Text", "rapsAhead", "(I)I"⟩ ∈ zgw := zgw_5 186 rfl rfl
set_option maxRecDepth 10000 in
theorem wd_1269 : Cond.selects "KnockBank$Text" ⟨"KnockBank$Text", "rapsAhead", "(I)I"⟩ ⟨"KnockBank$Text", "rapsAhead", "(I)I"⟩ ∈ zgw := zgw_5 187 rfl rfl
set_option maxRecDepth 10000 in
theorem wd_1270 : Cond.code ⟨"KnockBank$Text", "rapsAhead", "(I)I"⟩ prog_11_method_8_code 5 (some .int) ∈ zgw := zgw_5 188 rfl rfl
set_option maxRecDepth 10000 in
theorem wd_1271 : Cond.methodLink "KnockBank" 387 ⟨"KnockBank$Scene", "shake", "(III)I"⟩ ∈ zgw := zgw_5 189 rfl rfl
set_option maxRecDepth 10000 in
theorem wd_1280 : Cond.methodLink "KnockBank" 396 ⟨"KnockBank$Scene", "warmAll", "()V"⟩ ∈ zgw := zgw_5 198 rfl rfl
set_option maxRecDepth 10000 in
theorem wd_1281 : Cond.instanceMethod ⟨"KnockBank$Scene", "warmAll", "()V"⟩ ∈ zgw := zgw_5 199 rfl rfl
set_option maxRecDepth 10000 in
theorem wd_1282 : Cond.selects "KnockBank$Scene" ⟨"KnockBank$Scene", "warmAll", "()V"⟩ ⟨"KnockBank$Scene", "warmAll", "()V"⟩ ∈ zgw := zgw_5 200 rfl rfl
set_option maxRecDepth 10000 in
theorem wd_1283 : Cond.code ⟨"KnockBank$Scene", "warmAll", "()V"⟩ prog_10_method_22_code 2 none ∈ zgw := zgw_5 201 rfl rfl
set_option maxRecDepth 10000 in
theorem wd_1284 : Cond.methodLink "KnockBank" 399 ⟨"KnockBank$Scene", "renewAll", "()V"⟩ ∈ zgw := zgw_5 202 rfl rfl
set_option maxRecDepth 10000 in
theorem wd_1285 : Cond.instanceMethod ⟨"KnockBank$Scene", "renewAll", "()V"⟩ ∈ zgw := zgw_5 203 rfl rfl
set_option maxRecDepth 10000 in
theorem wd_1286 : Cond.selects "KnockBank$Scene" ⟨"KnockBank$Scene", "renewAll", "()V"⟩ ⟨"KnockBank$Scene", "renewAll", "()V"⟩ ∈ zgw := zgw_5 204 rfl rfl
set_option maxRecDepth 10000 in
theorem wd_1287 : Cond.code ⟨"KnockBank$Scene", "renewAll", "()V"⟩ prog_10_method_23_code 2 none ∈ zgw := zgw_5 205 rfl rfl
set_option maxRecDepth 10000 in
theorem wd_1288 : Cond.methodLink "KnockBank" 405 ⟨"KnockBank$Scene", "hardenAll", "()V"⟩ ∈ zgw := zgw_5 206 rfl rfl
set_option maxRecDepth 10000 in
theorem wd_1289 : Cond.instanceMethod ⟨"KnockBank$Scene", "hardenAll", "()V"⟩ ∈ zgw := zgw_5 207 rfl rfl
set_option maxRecDepth 10000 in
theorem wd_1290 : Cond.selects "KnockBank$Scene" ⟨"KnockBank$Scene", "hardenAll", "()V"⟩ ⟨"KnockBank$Scene", "hardenAll", "()V"⟩ ∈ zgw := zgw_5 208 rfl rfl
set_option maxRecDepth 10000 in
theorem wd_1291 : Cond.code ⟨"KnockBank$Scene", "hardenAll", "()V"⟩ prog_10_method_24_code 2 none ∈ zgw := zgw_5 209 rfl rfl
set_option maxRecDepth 10000 in
theorem wd_1296 : Cond.methodLink "KnockBank" 409 ⟨"KnockBank$Deeds", "takeLast", "()V"⟩ ∈ zgw := zgw_5 214 rfl rfl
set_option maxRecDepth 10000 in
theorem wd_1297 : Cond.instanceMethod ⟨"KnockBank$Deeds", "takeLast", "()V"⟩ ∈ zgw := zgw_5 215 rfl rfl
set_option maxRecDepth 10000 in
theorem wd_1298 : Cond.selects "KnockBank$Deeds" ⟨"KnockBank$Deeds", "takeLast", "()V"⟩ ⟨"KnockBank$Deeds", "takeLast", "()V"⟩ ∈ zgw := zgw_5 216 rfl rfl
set_option maxRecDepth 10000 in
theorem wd_1299 : Cond.code ⟨"KnockBank$Deeds", "takeLast", "()V"⟩ prog_2_method_4_code 2 none ∈ zgw := zgw_5 217 rfl rfl
set_option maxRecDepth 10000 in
theorem wd_1409 : Cond.methodLink "KnockBankModel" 148 ⟨"KnockBankModel", "plain", "()V"⟩ ∈ zgw := zgw_6 87 rfl rfl
set_option maxRecDepth 10000 in
theorem wd_1411 : Cond.instanceMethod ⟨"KnockBankModel", "plain", "()V"⟩ ∈ zgw := zgw_6 89 rfl rfl
set_option maxRecDepth 10000 in
theorem wd_1412 : Cond.code ⟨"KnockBankModel", "plain", "()V"⟩ prog_14_method_17_code 2 none ∈ zgw := zgw_6 90 rfl rfl
set_option maxRecDepth 10000 in
theorem wd_1413 : Cond.methodLink "KnockBankModel" 151 ⟨"KnockBankModel", "keepText", "()V"⟩ ∈ zgw := zgw_6 91 rfl rfl
set_option maxRecDepth 10000 in
theorem wd_1415 : Cond.instanceMethod ⟨"KnockBankModel", "keepText", "()V"⟩ ∈ zgw := zgw_6 93 rfl rfl
set_option maxRecDepth 10000 in
theorem wd_1416 : Cond.code ⟨"KnockBankModel", "keepText", "()V"⟩ prog_14_method_19_code 2 none ∈ zgw := zgw_6 94 rfl rfl
set_option maxRecDepth 10000 in
theorem wd_1417 : Cond.methodLink "KnockBankModel" 243 ⟨"KnockBankModel", "copies", "([II)V"⟩ ∈ zgw := zgw_6 95 rfl rfl
set_option maxRecDepth 10000 in
theorem wd_1418 : Cond.static ⟨"KnockBankModel", "copies", "([II)V"⟩ ∈ zgw := zgw_6 96 rfl rfl
set_option maxRecDepth 10000 in
theorem wd_1419 : Cond.code ⟨"KnockBankModel", "copies", "([II)V"⟩ prog_14_method_18_code 3 none ∈ zgw := zgw_6 97 rfl rfl
set_option maxRecDepth 10000 in
theorem wd_1420 : Cond.methodLink "KnockBankModel" 247 ⟨"KnockBankModel", "begin", "()V"⟩ ∈ zgw := zgw_6 98 rfl rfl
set_option maxRecDepth 10000 in
theorem wd_1422 : Cond.instanceMethod ⟨"KnockBankModel", "begin", "()V"⟩ ∈ zgw := zgw_6 100 rfl rfl
set_option maxRecDepth 10000 in
theorem wd_1423 : Cond.code ⟨"KnockBankModel", "begin", "()V"⟩ prog_14_method_45_code 1 none ∈ zgw := zgw_6 101 rfl rfl
set_option maxRecDepth 10000 in
theorem wd_1424 : Cond.methodLink "KnockBankModel" 349 ⟨"KnockBankModel", "atFirst", "(I)V"⟩ ∈ zgw := zgw_6 102 rfl rfl
set_option maxRecDepth 10000 in
theorem wd_1426 : Cond.instanceMethod ⟨"KnockBankModel", "atFirst", "(I)V"⟩ ∈ zgw := zgw_6 104 rfl rfl
set_option maxRecDepth 10000 in
theorem wd_1427 : Cond.code ⟨"KnockBankModel", "atFirst", "(I)V"⟩ prog_14_method_46_code 3 none ∈ zgw := zgw_6 105 rfl rfl
set_option maxRecDepth 10000 in
theorem wd_1428 : Cond.methodLink "KnockBankModel" 356 ⟨"KnockBankModel", "plainTried", "()V"⟩ ∈ zgw := zgw_6 106 rfl rfl
set_option maxRecDepth 10000 in
theorem wd_1430 : Cond.instanceMethod ⟨"KnockBankModel", "plainTried", "()V"⟩ ∈ zgw := zgw_6 108 rfl rfl
set_option maxRecDepth 10000 in
theorem wd_1431 : Cond.code ⟨"KnockBankModel", "plainTried", "()V"⟩ prog_14_method_47_code 1 none ∈ zgw := zgw_6 109 rfl rfl
set_option maxRecDepth 10000 in
theorem wd_1432 : Cond.fieldLink "KnockBankModel" 7 "KnockBankModel" "tape" "[I" ∈ zgw := zgw_6 110 rfl rfl
set_option maxRecDepth 10000 in
theorem wd_1433 : Cond.fieldLink "KnockBankModel" 157 "KnockBankModel" "tapeSize" "I" ∈ zgw := zgw_6 111 rfl rfl
set_option maxRecDepth 10000 in
theorem wd_1434 : Cond.fieldLink "KnockBankModel" 154 "KnockBankModel" "thrown" "I" ∈ zgw := zgw_6 112 rfl rfl
set_option maxRecDepth 10000 in
theorem wd_1435 : Cond.fieldLink "KnockBankModel" 13 "KnockBankModel" "words" "[I" ∈ zgw := zgw_6 113 rfl rfl
set_option maxRecDepth 10000 in
theorem wd_1436 : Cond.fieldLink "KnockBankModel" 160 "KnockBankModel" "fault" "I" ∈ zgw := zgw_6 114 rfl rfl
set_option maxRecDepth 10000 in
theorem wd_1437 : Cond.fieldLink "KnockBankModel" 16 "KnockBankModel" "faultPlace" "I" ∈ zgw := zgw_6 115 rfl rfl
set_option maxRecDepth 10000 in
theorem wd_1438 : Cond.fieldLink "KnockBankModel" 166 "KnockBankModel" "stop" "I" ∈ zgw := zgw_6 116 rfl rfl
set_option maxRecDepth 10000 in
theorem wd_1439 : Cond.fieldLink "KnockBankModel" 169 "KnockBankModel" "next" "I" ∈ zgw := zgw_6 117 rfl rfl
set_option maxRecDepth 10000 in
theorem wd_1440 : Cond.fieldLink "KnockBankModel" 172 "KnockBankModel" "kind" "I" ∈ zgw := zgw_6 118 rfl rfl
set_option maxRecDepth 10000 in
theorem wd_1441 : Cond.fieldLink "KnockBankModel" 183 "KnockBankModel" "which" "I" ∈ zgw := zgw_6 119 rfl rfl
set_option maxRecDepth 10000 in
theorem wd_1442 : Cond.fieldLink "KnockBankModel" 163 "KnockBankModel" "at" "I" ∈ zgw := zgw_6 120 rfl rfl
set_option maxRecDepth 10000 in
theorem wd_1443 : Cond.fieldLink "KnockBankModel" 203 "KnockBankModel" "got" "I" ∈ zgw := zgw_6 121 rfl rfl
set_option maxRecDepth 10000 in
theorem wd_1444 : Cond.fieldLink "KnockBankModel" 231 "KnockBankModel" "hands" "I" ∈ zgw := zgw_6 122 rfl rfl
set_option maxRecDepth 10000 in
theorem wd_1445 : Cond.fieldLink "KnockBankModel" 234 "KnockBankModel" "woods" "I" ∈ zgw := zgw_6 123 rfl rfl
set_option maxRecDepth 10000 in
theorem wd_1446 : Cond.fieldLink "KnockBankModel" 237 "KnockBankModel" "rapMany" "I" ∈ zgw := zgw_6 124 rfl rfl
set_option maxRecDepth 10000 in
theorem wd_1447 : Cond.fieldLink "KnockBankModel" 240 "KnockBankModel" "knots" "I" ∈ zgw := zgw_6 125 rfl rfl
set_option maxRecDepth 10000 in
theorem wd_1448 : Cond.fieldLink "KnockBankModel" 216 "KnockBankModel" "handsRead" "I" ∈ zgw := zgw_6 126 rfl rfl
set_option maxRecDepth 10000 in
theorem wd_1449 : Cond.fieldLink "KnockBankModel" 219 "KnockBankModel" "woodsRead" "I" ∈ zgw := zgw_6 127 rfl rfl
set_option maxRecDepth 10000 in
theorem wd_1450 : Cond.fieldLink "KnockBankModel" 222 "KnockBankModel" "rapsRead" "I" ∈ zgw := zgw_6 128 rfl rfl
set_option maxRecDepth 10000 in
theorem wd_1451 : Cond.fieldLink "KnockBankModel" 225 "KnockBankModel" "knotsRead" "I" ∈ zgw := zgw_6 129 rfl rfl
set_option maxRecDepth 10000 in
theorem wd_1452 : Cond.fieldLink "KnockBankModel" 20 "KnockBankModel" "onceTold" "[Z" ∈ zgw := zgw_6 130 rfl rfl
set_option maxRecDepth 10000 in
theorem wd_1453 : Cond.fieldLink "KnockBankModel" 24 "KnockBankModel" "once" "[I" ∈ zgw := zgw_6 131 rfl rfl
set_option maxRecDepth 10000 in
theorem wd_1454 : Cond.fieldLink "KnockBankModel" 27 "KnockBankModel" "handName" "[I" ∈ zgw := zgw_6 132 rfl rfl
set_option maxRecDepth 10000 in
theorem wd_1455 : Cond.fieldLink "KnockBankModel" 30 "KnockBankModel" "handCold" "[I" ∈ zgw := zgw_6 133 rfl rfl
set_option maxRecDepth 10000 in
theorem wd_1456 : Cond.fieldLink "KnockBankModel" 33 "KnockBankModel" "handAged" "[I" ∈ zgw := zgw_6 134 rfl rfl
set_option maxRecDepth 10000 in
theorem wd_1457 : Cond.fieldLink "KnockBankModel" 36 "KnockBankModel" "handBeat" "[I" ∈ zgw := zgw_6 135 rfl rfl
set_option maxRecDepth 10000 in
theorem wd_1458 : Cond.fieldLink "KnockBankModel" 39 "KnockBankModel" "woodName" "[I" ∈ zgw := zgw_6 136 rfl rfl
set_option maxRecDepth 10000 in
theorem wd_1459 : Cond.fieldLink "KnockBankModel" 42 "KnockBankModel" "woodKeeps" "[I" ∈ zgw := zgw_6 137 rfl rfl
set_option maxRecDepth 10000 in
theorem wd_1460 : Cond.fieldLink "KnockBankModel" 45 "KnockBankModel" "woodHard" "[I" ∈ zgw := zgw_6 138 rfl rfl
set_option maxRecDepth 10000 in
theorem wd_1461 : Cond.fieldLink "KnockBankModel" 48 "KnockBankModel" "woodOwner" "[I" ∈ zgw := zgw_6 139 rfl rfl
set_option maxRecDepth 10000 in
theorem wd_1462 : Cond.fieldLink "KnockBankModel" 51 "KnockBankModel" "rapHand" "[I" ∈ zgw := zgw_6 140 rfl rfl
set_option maxRecDepth 10000 in
theorem wd_1463 : Cond.fieldLink "KnockBankModel" 54 "KnockBankModel" "rapOn" "[I" ∈ zgw := zgw_6 141 rfl rfl
set_option maxRecDepth 10000 in
theorem wd_1464 : Cond.fieldLink "KnockBankModel" 57 "KnockBankModel" "rapDay" "[I" ∈ zgw := zgw_6 142 rfl rfl
set_option maxRecDepth 10000 in
theorem wd_1465 : Cond.fieldLink "KnockBankModel" 60 "KnockBankModel" "lawTold" "[Z" ∈ zgw := zgw_6 143 rfl rfl
set_option maxRecDepth 10000 in
theorem wd_1466 : Cond.fieldLink "KnockBankModel" 63 "KnockBankModel" "first" "[I" ∈ zgw := zgw_6 144 rfl rfl
set_option maxRecDepth 10000 in
theorem wd_1467 : Cond.fieldLink "KnockBankModel" 66 "KnockBankModel" "last" "[I" ∈ zgw := zgw_6 145 rfl rfl
set_option maxRecDepth 10000 in
theorem wd_1468 : Cond.fieldLink "KnockBankModel" 69 "KnockBankModel" "knot" "[I" ∈ zgw := zgw_6 146 rfl rfl
set_option maxRecDepth 10000 in
theorem wd_1469 : Cond.fieldLink "KnockBankModel" 72 "KnockBankModel" "part" "[I" ∈ zgw := zgw_6 147 rfl rfl
set_option maxRecDepth 10000 in
theorem wd_1470 : Cond.fieldLink "KnockBankModel" 75 "KnockBankModel" "other" "[I" ∈ zgw := zgw_6 148 rfl rfl
set_option maxRecDepth 10000 in
theorem wd_1471 : Cond.fieldLink "KnockBankModel" 78 "KnockBankModel" "wait" "[I" ∈ zgw := zgw_6 149 rfl rfl
set_option maxRecDepth 10000 in
theorem wd_1472 : Cond.fieldLink "KnockBankModel" 81 "KnockBankModel" "held" "[I" ∈ zgw := zgw_6 150 rfl rfl
set_option maxRecDepth 10000 in
theorem wd_1473 : Cond.fieldLink "KnockBankModel" 283 "KnockBankModel" "waits" "I" ∈ zgw := zgw_6 151 rfl rfl
set_option maxRecDepth 10000 in
theorem wd_1474 : Cond.fieldLink "KnockBankModel" 280 "KnockBankModel" "helds" "I" ∈ zgw := zgw_6 152 rfl rfl
set_option maxRecDepth 10000 in
theorem wd_1475 : Cond.fieldLink "KnockBankModel" 298 "KnockBankModel" "brackets" "I" ∈ zgw := zgw_6 153 rfl rfl
set_option maxRecDepth 10000 in
theorem wd_1476 : Cond.fieldLink "KnockBankModel" 228 "KnockBankModel" "counted" "I" ∈ zgw := zgw_6 154 rfl rfl
set_option maxRecDepth 10000 in
theorem wd_1477 : Cond.fieldLink "KnockBankModel" 318 "KnockBankModel" "wants" "Z" ∈ zgw := zgw_6 155 rfl rfl
set_option maxRecDepth 10000 in
theorem wd_1478 : Cond.fieldLink "KnockBankModel" 305 "KnockBankModel" "mayNot" "Z" ∈ zgw := zgw_6 156 rfl rfl
set_option maxRecDepth 10000 in
theorem wd_1479 : Cond.fieldLink "KnockBankModel" 84 "KnockBankModel" "names" "[J" ∈ zgw := zgw_6 157 rfl rfl
set_option maxRecDepth 10000 in
theorem wd_1480 : Cond.fieldLink "KnockBankModel" 88 "KnockBankModel" "value" "[J" ∈ zgw := zgw_6 158 rfl rfl
set_option maxRecDepth 10000 in
theorem wd_1481 : Cond.fieldLink "KnockBankModel" 330 "KnockBankModel" "isError" "Z" ∈ zgw := zgw_6 159 rfl rfl
set_option maxRecDepth 10000 in
theorem wd_1482 : Cond.fieldLink "KnockBankModel" 91 "KnockBankModel" "cold" "[I" ∈ zgw := zgw_6 160 rfl rfl
set_option maxRecDepth 10000 in
theorem wd_1483 : Cond.fieldLink "KnockBankModel" 94 "KnockBankModel" "rapped" "[I" ∈ zgw := zgw_6 161 rfl rfl
set_option maxRecDepth 10000 in
theorem wd_1484 : Cond.fieldLink "KnockBankModel" 97 "KnockBankModel" "owner" "[I" ∈ zgw := zgw_6 162 rfl rfl
set_option maxRecDepth 10000 in
theorem wd_1485 : Cond.fieldLink "KnockBankModel" 100 "KnockBankModel" "onWood" "[I" ∈ zgw := zgw_6 163 rfl rfl
set_option maxRecDepth 10000 in
theorem wd_1486 : Cond.fieldLink "KnockBankModel" 103 "KnockBankModel" "onDay" "[I" ∈ zgw := zgw_6 164 rfl rfl
set_option maxRecDepth 10000 in
theorem wd_1487 : Cond.fieldLink "KnockBankModel" 106 "KnockBankModel" "state" "[I" ∈ zgw := zgw_6 165 rfl rfl
set_option maxRecDepth 10000 in
theorem wd_1488 : Cond.fieldLink "KnockBankModel" 109 "KnockBankModel" "boundTo" "[I" ∈ zgw := zgw_6 166 rfl rfl
set_option maxRecDepth 10000 in
theorem wd_1489 : Cond.fieldLink "KnockBankModel" 112 "KnockBankModel" "faded" "[Z" ∈ zgw := zgw_6 167 rfl rfl
set_option maxRecDepth 10000 in
theorem wd_1490 : Cond.fieldLink "KnockBankModel" 115 "KnockBankModel" "cameOn" "[I" ∈ zgw := zgw_6 168 rfl rfl
set_option maxRecDepth 10000 in
theorem wd_1491 : Cond.fieldLink "KnockBankModel" 118 "KnockBankModel" "beats" "[I" ∈ zgw := zgw_6 169 rfl rfl
set_option maxRecDepth 10000 in
theorem wd_1492 : Cond.fieldLink "KnockBankModel" 121 "KnockBankModel" "day" "[I" ∈ zgw := zgw_6 170 rfl rfl
set_option maxRecDepth 10000 in
theorem wd_1493 : Cond.fieldLink "KnockBankModel" 352 "KnockBankModel" "drawn" "J" ∈ zgw := zgw_6 171 rfl rfl
set_option maxRecDepth 10000 in
theorem wd_1494 : Cond.fieldLink "KnockBankModel" 124 "KnockBankModel" "asked" "[I" ∈ zgw := zgw_6 172 rfl rfl
set_option maxRecDepth 10000 in
theorem wd_1495 : Cond.fieldLink "KnockBankModel" 368 "KnockBankModel" "draws" "Z" ∈ zgw := zgw_6 173 rfl rfl
set_option maxRecDepth 10000 in
theorem wd_1496 : Cond.fieldLink "KnockBankModel" 371 "KnockBankModel" "how" "I" ∈ zgw := zgw_6 174 rfl rfl
set_option maxRecDepth 10000 in
theorem wd_1497 : Cond.fieldLink "KnockBankModel" 374 "KnockBankModel" "who" "I" ∈ zgw := zgw_6 175 rfl rfl
set_option maxRecDepth 10000 in
theorem wd_1498 : Cond.fieldLink "KnockBankModel" 377 "KnockBankModel" "coldOf" "I" ∈ zgw := zgw_6 176 rfl rfl
set_option maxRecDepth 10000 in
theorem wd_1499 : Cond.fieldLink "KnockBankModel" 380 "KnockBankModel" "coldBy" "I" ∈ zgw := zgw_6 177 rfl rfl
set_option maxRecDepth 10000 in
theorem wd_1500 : Cond.fieldLink "KnockBankModel" 127 "KnockBankModel" "member" "[I" ∈ zgw := zgw_6 178 rfl rfl
set_option maxRecDepth 10000 in
theorem wd_1501 : Cond.fieldLink "KnockBankModel" 359 "KnockBankModel" "heardMany" "I" ∈ zgw := zgw_6 179 rfl rfl
set_option maxRecDepth 10000 in
theorem wd_1502 : Cond.fieldLink "KnockBankModel" 130 "KnockBankModel" "knownTold" "I" ∈ zgw := zgw_6 180 rfl rfl
set_option maxRecDepth 10000 in
theorem wd_1503 : Cond.fieldLink "KnockBankModel" 133 "KnockBankModel" "overheard" "[I" ∈ zgw := zgw_6 181 rfl rfl
set_option maxRecDepth 10000 in
theorem wd_1504 : Cond.fieldLink "KnockBankModel" 136 "KnockBankModel" "counts" "[Z" ∈ zgw := zgw_6 182 rfl rfl
set_option maxRecDepth 10000 in
theorem wd_1505 : Cond.fieldLink "KnockBankModel" 362 "KnockBankModel" "undos" "I" ∈ zgw := zgw_6 183 rfl rfl
set_option maxRecDepth 10000 in
theorem wd_1506 : Cond.fieldLink "KnockBankModel" 139 "KnockBankModel" "undo" "[I" ∈ zgw := zgw_6 184 rfl rfl
set_option maxRecDepth 10000 in
theorem wd_1507 : Cond.fieldLink "KnockBankModel" 365 "KnockBankModel" "hasImage" "Z" ∈ zgw := zgw_6 185 rfl rfl
set_option maxRecDepth 10000 in
theorem wd_1508 : Cond.fieldLink "KnockBankModel" 142 "KnockBankModel" "image" "[I" ∈ zgw := zgw_6 186 rfl rfl
set_option maxRecDepth 10000 in
theorem wd_1509 : Cond.fieldLink "KnockBankModel" 145 "KnockBankModel" "imageRest" "[I" ∈ zgw := zgw_6 187 rfl rfl
set_option maxRecDepth 10000 in
theorem wd_1510 : Cond.fieldLink "KnockBankModel" 538 "KnockBankModel" "imageDrawn" "J" ∈ zgw := zgw_6 188 rfl rfl
set_option maxRecDepth 10000 in
theorem wd_1682 : Cond.methodLink "KnockBankModel" 206 ⟨"KnockBankModel", "token", "()V"⟩ ∈ zgw := zgw_7 120 rfl rfl
set_option maxRecDepth 10000 in
theorem wd_1684 : Cond.instanceMethod ⟨"KnockBankModel", "token", "()V"⟩ ∈ zgw := zgw_7 122 rfl rfl
set_option maxRecDepth 10000 in
theorem wd_1685 : Cond.code ⟨"KnockBankModel", "token", "()V"⟩ prog_14_method_10_code 1 none ∈ zgw := zgw_7 123 rfl rfl
set_option maxRecDepth 10000 in
theorem wd_1686 : Cond.methodLink "KnockBankModel" 175 ⟨"KnockBankModel", "isSmall", "(I)Z"⟩ ∈ zgw := zgw_7 124 rfl rfl
set_option maxRecDepth 10000 in
theorem wd_1688 : Cond.instanceMethod ⟨"KnockBankModel", "isSmall", "(I)Z"⟩ ∈ zgw := zgw_7 126 rfl rfl
set_option maxRecDepth 10000 in
theorem wd_1689 : Cond.code ⟨"KnockBankModel", "isSmall", "(I)Z"⟩ prog_14_method_8_code 2 (some .boolean) ∈ zgw := zgw_7 127 rfl rfl
set_option maxRecDepth 10000 in
theorem wd_1690 : Cond.methodLink "KnockBankModel" 179 ⟨"KnockBankModel", "wordAt", "(II)I"⟩ ∈ zgw := zgw_7 128 rfl rfl
set_option maxRecDepth 10000 in
theorem wd_1692 : Cond.instanceMethod ⟨"KnockBankModel", "wordAt", "(II)I"⟩ ∈ zgw := zgw_7 130 rfl rfl
set_option maxRecDepth 10000 in
theorem wd_1693 : Cond.code ⟨"KnockBankModel", "wordAt", "(II)I"⟩ prog_14_method_7_code 8 (some .int) ∈ zgw := zgw_7 131 rfl rfl
set_option maxRecDepth 10000 in
theorem wd_1694 : Cond.methodLink "KnockBankModel" 186 ⟨"KnockBankModel", "packed", "(II)I"⟩ ∈ zgw := zgw_7 132 rfl rfl
set_option maxRecDepth 10000 in
theorem wd_1696 : Cond.instanceMethod ⟨"KnockBankModel", "packed", "(II)I"⟩ ∈ zgw := zgw_7 134 rfl rfl
set_option maxRecDepth 10000 in
theorem wd_1697 : Cond.code ⟨"KnockBankModel", "packed", "(II)I"⟩ prog_14_method_12_code 5 (some .int) ∈ zgw := zgw_7 135 rfl rfl
set_option maxRecDepth 10000 in
theorem wd_1698 : Cond.methodLink "KnockBankModel" 189 ⟨"KnockBankModel", "isDigit", "(I)Z"⟩ ∈ zgw := zgw_7 136 rfl rfl
set_option maxRecDepth 10000 in
theorem wd_1700 : Cond.instanceMethod ⟨"KnockBankModel", "isDigit", "(I)Z"⟩ ∈ zgw := zgw_7 138 rfl rfl
set_option maxRecDepth 10000 in
theorem wd_1701 : Cond.code ⟨"KnockBankModel", "isDigit", "(I)Z"⟩ prog_14_method_9_code 2 (some .boolean) ∈ zgw := zgw_7 139 rfl rfl
set_option maxRecDepth 10000 in
theorem wd_1702 : Cond.constant "KnockBankModel" 192 (99999) ∈ zgw := zgw_7 140 rfl rfl
set_option maxRecDepth 10000 in
theorem wd_1703 : Cond.methodLink "KnockBankModel" 193 ⟨"KnockBankModel", "signToken", "()V"⟩ ∈ zgw := zgw_7 141 rfl rfl
set_option maxRecDepth 10000 in
theorem wd_1705 : Cond.instanceMethod ⟨"KnockBankModel", "signToken", "()V"⟩ ∈ zgw := zgw_7 143 rfl rfl
set_option maxRecDepth 10000 in
theorem wd_1706 : Cond.code ⟨"KnockBankModel", "signToken", "()V"⟩ prog_14_method_11_code 4 none ∈ zgw := zgw_7 144 rfl rfl
set_option maxRecDepth 10000 in
theorem wd_1707 : Cond.methodLink "KnockBankModel" 277 ⟨"KnockBankModel", "lineRead", "()Z"⟩ ∈ zgw := zgw_7 145 rfl rfl
set_option maxRecDepth 10000 in
theorem wd_1709 : Cond.instanceMethod ⟨"KnockBankModel", "lineRead", "()Z"⟩ ∈ zgw := zgw_7 147 rfl rfl
set_option maxRecDepth 10000 in
theorem wd_1710 : Cond.code ⟨"KnockBankModel", "lineRead", "()Z"⟩ prog_14_method_27_code 3 (some .boolean) ∈ zgw := zgw_7 148 rfl rfl
set_option maxRecDepth 10000 in
theorem wd_1711 : Cond.methodLink "KnockBankModel" 196 ⟨"KnockBankModel", "wrong", "(I)Z"⟩ ∈ zgw := zgw_7 149 rfl rfl
set_option maxRecDepth 10000 in
theorem wd_1713 : Cond.instanceMethod ⟨"KnockBankModel", "wrong", "(I)Z"⟩ ∈ zgw := zgw_7 151 rfl rfl
set_option maxRecDepth 10000 in
theorem wd_1714 : Cond.code ⟨"KnockBankModel", "wrong", "(I)Z"⟩ prog_14_method_6_code 2 (some .boolean) ∈ zgw := zgw_7 152 rfl rfl
set_option maxRecDepth 10000 in
theorem wd_1715 : Cond.methodLink "KnockBankModel" 261 ⟨"KnockBankModel", "handLine", "()Z"⟩ ∈ zgw := zgw_7 153 rfl rfl
set_option maxRecDepth 10000 in
theorem wd_1717 : Cond.instanceMethod ⟨"KnockBankModel", "handLine", "()Z"⟩ ∈ zgw := zgw_7 155 rfl rfl
set_option maxRecDepth 10000 in
theorem wd_1718 : Cond.code ⟨"KnockBankModel", "handLine", "()Z"⟩ prog_14_method_23_code 2 (some .boolean) ∈ zgw := zgw_7 156 rfl rfl
set_option maxRecDepth 10000 in
theorem wd_1719 : Cond.methodLink "KnockBankModel" 254 ⟨"KnockBankModel", "newName", "([III)Z"⟩ ∈ zgw := zgw_7 157 rfl rfl
set_option maxRecDepth 10000 in
theorem wd_1721 : Cond.instanceMethod ⟨"KnockBankModel", "newName", "([III)Z"⟩ ∈ zgw := zgw_7 159 rfl rfl
set_option maxRecDepth 10000 in
theorem wd_1722 : Cond.code ⟨"KnockBankModel", "newName", "([III)Z"⟩ prog_14_method_21_code 4 (some .boolean) ∈ zgw := zgw_7 160 rfl rfl
set_option maxRecDepth 10000 in
theorem wd_1723 : Cond.methodLink "KnockBankModel" 250 ⟨"KnockBankModel", "find", "([IIII)I"⟩ ∈ zgw := zgw_7 161 rfl rfl
set_option maxRecDepth 10000 in
theorem wd_1724 : Cond.static ⟨"KnockBankModel", "find", "([IIII)I"⟩ ∈ zgw := zgw_7 162 rfl rfl
set_option maxRecDepth 10000 in
theorem wd_1725 : Cond.code ⟨"KnockBankModel", "find", "([IIII)I"⟩ prog_14_method_20_code 5 (some .int) ∈ zgw := zgw_7 163 rfl rfl
set_option maxRecDepth 10000 in
theorem wd_1726 : Cond.methodLink "KnockBankModel" 212 ⟨"KnockBankModel", "number", "(II)Z"⟩ ∈ zgw := zgw_7 164 rfl rfl
set_option maxRecDepth 10000 in
theorem wd_1728 : Cond.instanceMethod ⟨"KnockBankModel", "number", "(II)Z"⟩ ∈ zgw := zgw_7 166 rfl rfl
set_option maxRecDepth 10000 in
theorem wd_1729 : Cond.code ⟨"KnockBankModel", "number", "(II)Z"⟩ prog_14_method_15_code 3 (some .boolean) ∈ zgw := zgw_7 167 rfl rfl
set_option maxRecDepth 10000 in
theorem wd_1730 : Cond.methodLink "KnockBankModel" 199 ⟨"KnockBankModel", "isIn", "(III)Z"⟩ ∈ zgw := zgw_7 168 rfl rfl
set_option maxRecDepth 10000 in
theorem wd_1731 : Cond.static ⟨"KnockBankModel", "isIn", "(III)Z"⟩ ∈ zgw := zgw_7 169 rfl rfl
set_option maxRecDepth 10000 in
theorem wd_1732 : Cond.code ⟨"KnockBankModel", "isIn", "(III)Z"⟩ prog_14_method_4_code 3 (some .boolean) ∈ zgw := zgw_7 170 rfl rfl
set_option maxRecDepth 10000 in
theorem wd_1733 : Cond.methodLink "KnockBankModel" 265 ⟨"KnockBankModel", "woodLine", "()Z"⟩ ∈ zgw := zgw_7 171 rfl rfl
set_option maxRecDepth 10000 in
theorem wd_1735 : Cond.instanceMethod ⟨"KnockBankModel", "woodLine", "()Z"⟩ ∈ zgw := zgw_7 173 rfl rfl
set_option maxRecDepth 10000 in
theorem wd_1736 : Cond.code ⟨"KnockBankModel", "woodLine", "()Z"⟩ prog_14_method_24_code 1 (some .boolean) ∈ zgw := zgw_7 174 rfl rfl
set_option maxRecDepth 10000 in
theorem wd_1737 : Cond.methodLink "KnockBankModel" 258 ⟨"KnockBankModel", "thereIn", "([III)Z"⟩ ∈ zgw := zgw_7 175 rfl rfl
set_option maxRecDepth 10000 in
theorem wd_1739 : Cond.instanceMethod ⟨"KnockBankModel", "thereIn", "([III)Z"⟩ ∈ zgw := zgw_7 177 rfl rfl
set_option maxRecDepth 10000 in
theorem wd_1740 : Cond.code ⟨"KnockBankModel", "thereIn", "([III)Z"⟩ prog_14_method_22_code 5 (some .boolean) ∈ zgw := zgw_7 178 rfl rfl
set_option maxRecDepth 10000 in
theorem wd_1741 : Cond.methodLink "KnockBankModel" 268 ⟨"KnockBankModel", "rapLine", "()Z"⟩ ∈ zgw := zgw_7 179 rfl rfl
set_option maxRecDepth 10000 in
theorem wd_1743 : Cond.instanceMethod ⟨"KnockBankModel", "rapLine", "()Z"⟩ ∈ zgw := zgw_7 181 rfl rfl
set_option maxRecDepth 10000 in
theorem wd_1744 : Cond.code ⟨"KnockBankModel", "rapLine", "()Z"⟩ prog_14_method_25_code 1 (some .boolean) ∈ zgw := zgw_7 182 rfl rfl
set_option maxRecDepth 10000 in
theorem wd_1745 : Cond.methodLink "KnockBankModel" 271 ⟨"KnockBankModel", "onceLine", "(II)Z"⟩ ∈ zgw := zgw_7 183 rfl rfl
set_option maxRecDepth 10000 in
theorem wd_1747 : Cond.instanceMethod ⟨"KnockBankModel", "onceLine", "(II)Z"⟩ ∈ zgw := zgw_7 185 rfl rfl
set_option maxRecDepth 10000 in
theorem wd_1748 : Cond.code ⟨"KnockBankModel", "onceLine", "(II)Z"⟩ prog_14_method_26_code 3 (some .boolean) ∈ zgw := zgw_7 186 rfl rfl
set_option maxRecDepth 10000 in
theorem wd_1749 : Cond.methodLink "KnockBankModel" 274 ⟨"KnockBankModel", "sumRead", "()Z"⟩ ∈ zgw := zgw_7 187 rfl rfl
set_option maxRecDepth 10000 in
theorem wd_1751 : Cond.instanceMethod ⟨"KnockBankModel", "sumRead", "()Z"⟩ ∈ zgw := zgw_7 189 rfl rfl
set_option maxRecDepth 10000 in
theorem wd_1752 : Cond.code ⟨"KnockBankModel", "sumRead", "()Z"⟩ prog_14_method_40_code 1 (some .boolean) ∈ zgw := zgw_7 190 rfl rfl
set_option maxRecDepth 10000 in
theorem wd_1753 : Cond.methodLink "KnockBankModel" 209 ⟨"KnockBankModel", "isSign", "(I)Z"⟩ ∈ zgw := zgw_7 191 rfl rfl
set_option maxRecDepth 10000 in
theorem wd_1755 : Cond.instanceMethod ⟨"KnockBankModel", "isSign", "(I)Z"⟩ ∈ zgw := zgw_7 193 rfl rfl
set_option maxRecDepth 10000 in
theorem wd_1756 : Cond.code ⟨"KnockBankModel", "isSign", "(I)Z"⟩ prog_14_method_14_code 2 (some .boolean) ∈ zgw := zgw_7 194 rfl rfl
set_option maxRecDepth 10000 in
theorem wd_1757 : Cond.methodLink "KnockBankModel" 324 ⟨"KnockBankModel", "leafRead", "()Z"⟩ ∈ zgw := zgw_7 195 rfl rfl
set_option maxRecDepth 10000 in
theorem wd_1759 : Cond.instanceMethod ⟨"KnockBankModel", "leafRead", "()Z"⟩ ∈ zgw := zgw_7 197 rfl rfl
set_option maxRecDepth 10000 in
theorem wd_1760 : Cond.code ⟨"KnockBankModel", "leafRead", "()Z"⟩ prog_14_method_38_code 2 (some .boolean) ∈ zgw := zgw_7 198 rfl rfl
set_option maxRecDepth 10000 in
theorem wd_1761 : Cond.methodLink "KnockBankModel" 301 ⟨"KnockBankModel", "waitsFor", "(I)V"⟩ ∈ zgw := zgw_7 199 rfl rfl
set_option maxRecDepth 10000 in
theorem wd_1763 : Cond.instanceMethod ⟨"KnockBankModel", "waitsFor", "(I)V"⟩ ∈ zgw := zgw_7 201 rfl rfl
set_option maxRecDepth 10000 in
theorem wd_1764 : Cond.code ⟨"KnockBankModel", "waitsFor", "(I)V"⟩ prog_14_method_36_code 2 none ∈ zgw := zgw_7 202 rfl rfl
set_option maxRecDepth 10000 in
theorem wd_1765 : Cond.methodLink "KnockBankModel" 309 ⟨"KnockBankModel", "isKey", "(I)Z"⟩ ∈ zgw := zgw_7 203 rfl rfl
set_option maxRecDepth 10000 in
theorem wd_1767 : Cond.instanceMethod ⟨"KnockBankModel", "isKey", "(I)Z"⟩ ∈ zgw := zgw_7 205 rfl rfl
set_option maxRecDepth 10000 in
theorem wd_1768 : Cond.code ⟨"KnockBankModel", "isKey", "(I)Z"⟩ prog_14_method_13_code 2 (some .boolean) ∈ zgw := zgw_7 206 rfl rfl
set_option maxRecDepth 10000 in
theorem wd_1769 : Cond.methodLink "KnockBankModel" 312 ⟨"KnockBankModel", "isCounted", "()Z"⟩ ∈ zgw := zgw_7 207 rfl rfl
set_option maxRecDepth 10000 in
theorem wd_1771 : Cond.instanceMethod ⟨"KnockBankModel", "isCounted", "()Z"⟩ ∈ zgw := zgw_7 209 rfl rfl
set_option maxRecDepth 10000 in
theorem wd_1772 : Cond.code ⟨"KnockBankModel", "isCounted", "()Z"⟩ prog_14_method_35_code 1 (some .boolean) ∈ zgw := zgw_7 210 rfl rfl
set_option maxRecDepth 10000 in
theorem wd_1773 : Cond.methodLink "KnockBankModel" 315 ⟨"KnockBankModel", "nameMet", "()I"⟩ ∈ zgw := zgw_7 211 rfl rfl
set_option maxRecDepth 10000 in
theorem wd_1775 : Cond.instanceMethod ⟨"KnockBankModel", "nameMet", "()I"⟩ ∈ zgw := zgw_7 213 rfl rfl
set_option maxRecDepth 10000 in
theorem wd_1776 : Cond.code ⟨"KnockBankModel", "nameMet", "()I"⟩ prog_14_method_37_code 1 (some .int) ∈ zgw := zgw_7 214 rfl rfl
set_option maxRecDepth 10000 in
theorem wd_1777 : Cond.methodLink "KnockBankModel" 294 ⟨"KnockBankModel", "grown", "(III)V"⟩ ∈ zgw := zgw_7 215 rfl rfl
set_option maxRecDepth 10000 in
theorem wd_1779 : Cond.instanceMethod ⟨"KnockBankModel", "grown", "(III)V"⟩ ∈ zgw := zgw_7 217 rfl rfl
set_option maxRecDepth 10000 in
theorem wd_1780 : Cond.code ⟨"KnockBankModel", "grown", "(III)V"⟩ prog_14_method_32_code 4 none ∈ zgw := zgw_7 218 rfl rfl
set_option maxRecDepth 10000 in
theorem wd_1781 : Cond.methodLink "KnockBankModel" 327 ⟨"KnockBankModel", "signs", "()Z"⟩ ∈ zgw := zgw_7 219 rfl rfl
set_option maxRecDepth 10000 in
theorem wd_1783 : Cond.instanceMethod ⟨"KnockBankModel", "signs", "()Z"⟩ ∈ zgw := zgw_7 221 rfl rfl
set_option maxRecDepth 10000 in
theorem wd_1784 : Cond.code ⟨"KnockBankModel", "signs", "()Z"⟩ prog_14_method_39_code 2 (some .boolean) ∈ zgw := zgw_7 222 rfl rfl
set_option maxRecDepth 10000 in
theorem wd_1785 : Cond.methodLink "KnockBankModel" 321 ⟨"KnockBankModel", "bind", "(I)V"⟩ ∈ zgw := zgw_7 223 rfl rfl
set_option maxRecDepth 10000 in
theorem wd_1787 : Cond.instanceMethod ⟨"KnockBankModel", "bind", "(I)V"⟩ ∈ zgw := zgw_7 225 rfl rfl
set_option maxRecDepth 10000 in
theorem wd_1788 : Cond.code ⟨"KnockBankModel", "bind", "(I)V"⟩ prog_14_method_34_code 5 none ∈ zgw := zgw_7 226 rfl rfl
set_option maxRecDepth 10000 in
theorem wd_1789 : Cond.methodLink "KnockBankModel" 286 ⟨"KnockBankModel", "rank", "(I)I"⟩ ∈ zgw := zgw_7 227 rfl rfl
set_option maxRecDepth 10000 in
theorem wd_1790 : Cond.static ⟨"KnockBankModel", "rank", "(I)I"⟩ ∈ zgw := zgw_7 228 rfl rfl
set_option maxRecDepth 10000 in
theorem wd_1791 : Cond.code ⟨"KnockBankModel", "rank", "(I)I"⟩ prog_14_method_31_code 1 (some .int) ∈ zgw := zgw_7 229 rfl rfl
set_option maxRecDepth 10000 in
theorem wd_1792 : Cond.methodLink "KnockBankModel" 290 ⟨"KnockBankModel", "dropHeld", "()I"⟩ ∈ zgw := zgw_7 230 rfl rfl
set_option maxRecDepth 10000 in
theorem wd_1794 : Cond.instanceMethod ⟨"KnockBankModel", "dropHeld", "()I"⟩ ∈ zgw := zgw_7 232 rfl rfl
set_option maxRecDepth 10000 in
theorem wd_1795 : Cond.code ⟨"KnockBankModel", "dropHeld", "()I"⟩ prog_14_method_33_code 1 (some .int) ∈ zgw := zgw_7 233 rfl rfl
set_option maxRecDepth 10000 in
theorem wd_1808 : Cond.methodLink "KnockBankModel" 445 ⟨"KnockBankModel", "isRap", "(I)Z"⟩ ∈ zgw := zgw_8 6 rfl rfl
set_option maxRecDepth 10000 in
theorem wd_1810 : Cond.instanceMethod ⟨"KnockBankModel", "isRap", "(I)Z"⟩ ∈ zgw := zgw_8 8 rfl rfl
set_option maxRecDepth 10000 in
theorem wd_1811 : Cond.code ⟨"KnockBankModel", "isRap", "(I)Z"⟩ prog_14_method_51_code 2 (some .boolean) ∈ zgw := zgw_8 9 rfl rfl
set_option maxRecDepth 10000 in
theorem wd_1812 : Cond.methodLink "KnockBankModel" 448 ⟨"KnockBankModel", "fails", "(I)I"⟩ ∈ zgw := zgw_8 10 rfl rfl
set_option maxRecDepth 10000 in
theorem wd_1814 : Cond.instanceMethod ⟨"KnockBankModel", "fails", "(I)I"⟩ ∈ zgw := zgw_8 12 rfl rfl
set_option maxRecDepth 10000 in
theorem wd_1815 : Cond.code ⟨"KnockBankModel", "fails", "(I)I"⟩ prog_14_method_71_code 2 (some .int) ∈ zgw := zgw_8 13 rfl rfl
set_option maxRecDepth 10000 in
theorem wd_1816 : Cond.methodLink "KnockBankModel" 451 ⟨"KnockBankModel", "digitsOf", "([II)I"⟩ ∈ zgw := zgw_8 14 rfl rfl
set_option maxRecDepth 10000 in
theorem wd_1818 : Cond.instanceMethod ⟨"KnockBankModel", "digitsOf", "([II)I"⟩ ∈ zgw := zgw_8 16 rfl rfl
set_option maxRecDepth 10000 in
theorem wd_1819 : Cond.code ⟨"KnockBankModel", "digitsOf", "([II)I"⟩ prog_14_method_72_code 5 (some .int) ∈ zgw := zgw_8 17 rfl rfl
set_option maxRecDepth 10000 in
theorem wd_1824 : Cond.methodLink "KnockBankModel" 455 ⟨"KnockBankModel", "isHand", "(I)Z"⟩ ∈ zgw := zgw_8 22 rfl rfl
set_option maxRecDepth 10000 in
theorem wd_1826 : Cond.instanceMethod ⟨"KnockBankModel", "isHand", "(I)Z"⟩ ∈ zgw := zgw_8 24 rfl rfl
set_option maxRecDepth 10000 in
theorem wd_1827 : Cond.code ⟨"KnockBankModel", "isHand", "(I)Z"⟩ prog_14_method_49_code 2 (some .boolean) ∈ zgw := zgw_8 25 rfl rfl
set_option maxRecDepth 10000 in
theorem wd_1832 : Cond.methodLink "KnockBankModel" 458 ⟨"KnockBankModel", "isWood", "(I)Z"⟩ ∈ zgw := zgw_8 30 rfl rfl
set_option maxRecDepth 10000 in
theorem wd_1834 : Cond.instanceMethod ⟨"KnockBankModel", "isWood", "(I)Z"⟩ ∈ zgw := zgw_8 32 rfl rfl
set_option maxRecDepth 10000 in
theorem wd_1835 : Cond.code ⟨"KnockBankModel", "isWood", "(I)Z"⟩ prog_14_method_50_code 2 (some .boolean) ∈ zgw := zgw_8 33 rfl rfl
set_option maxRecDepth 10000 in
theorem wd_1840 : Cond.constantLong "KnockBankModel" 461 (-9223372036854775808) ∈ zgw := zgw_8 38 rfl rfl
set_option maxRecDepth 10000 in
theorem wd_1841 : Cond.methodLink "KnockBankModel" 399 ⟨"KnockBankModel", "layNames", "(IIIII)V"⟩ ∈ zgw := zgw_8 39 rfl rfl
set_option maxRecDepth 10000 in
theorem wd_1843 : Cond.instanceMethod ⟨"KnockBankModel", "layNames", "(IIIII)V"⟩ ∈ zgw := zgw_8 41 rfl rfl
set_option maxRecDepth 10000 in
theorem wd_1844 : Cond.code ⟨"KnockBankModel", "layNames", "(IIIII)V"⟩ prog_14_method_55_code 6 none ∈ zgw := zgw_8 42 rfl rfl
set_option maxRecDepth 10000 in
theorem wd_1845 : Cond.methodLink "KnockBankModel" 383 ⟨"KnockBankModel", "coldIn", "(II)I"⟩ ∈ zgw := zgw_8 43 rfl rfl
set_option maxRecDepth 10000 in
theorem wd_1847 : Cond.instanceMethod ⟨"KnockBankModel", "coldIn", "(II)I"⟩ ∈ zgw := zgw_8 45 rfl rfl
set_option maxRecDepth 10000 in
theorem wd_1848 : Cond.code ⟨"KnockBankModel", "coldIn", "(II)I"⟩ prog_14_method_52_code 3 (some .int) ∈ zgw := zgw_8 46 rfl rfl
set_option maxRecDepth 10000 in
theorem wd_1849 : Cond.methodLink "KnockBankModel" 386 ⟨"KnockBankModel", "agedOf", "(I)I"⟩ ∈ zgw := zgw_8 47 rfl rfl
set_option maxRecDepth 10000 in
theorem wd_1851 : Cond.instanceMethod ⟨"KnockBankModel", "agedOf", "(I)I"⟩ ∈ zgw := zgw_8 49 rfl rfl
set_option maxRecDepth 10000 in
theorem wd_1852 : Cond.code ⟨"KnockBankModel", "agedOf", "(I)I"⟩ prog_14_method_53_code 2 (some .int) ∈ zgw := zgw_8 50 rfl rfl
set_option maxRecDepth 10000 in
theorem wd_1853 : Cond.methodLink "KnockBankModel" 389 ⟨"KnockBankModel", "hardOf", "(I)I"⟩ ∈ zgw := zgw_8 51 rfl rfl
set_option maxRecDepth 10000 in
theorem wd_1855 : Cond.instanceMethod ⟨"KnockBankModel", "hardOf", "(I)I"⟩ ∈ zgw := zgw_8 53 rfl rfl
set_option maxRecDepth 10000 in
theorem wd_1856 : Cond.code ⟨"KnockBankModel", "hardOf", "(I)I"⟩ prog_14_method_54_code 2 (some .int) ∈ zgw := zgw_8 54 rfl rfl
set_option maxRecDepth 10000 in
theorem wd_1857 : Cond.methodLink "KnockBankModel" 396 ⟨"KnockBankModel", "lawOf", "(I)J"⟩ ∈ zgw := zgw_8 55 rfl rfl
set_option maxRecDepth 10000 in
theorem wd_1859 : Cond.instanceMethod ⟨"KnockBankModel", "lawOf", "(I)J"⟩ ∈ zgw := zgw_8 57 rfl rfl
set_option maxRecDepth 10000 in
theorem wd_1860 : Cond.code ⟨"KnockBankModel", "lawOf", "(I)J"⟩ prog_14_method_56_code 3 (some .long) ∈ zgw := zgw_8 58 rfl rfl
set_option maxRecDepth 10000 in
theorem wd_1861 : Cond.methodLink "KnockBankModel" 392 ⟨"KnockBankModel", "valueOf", "(I)J"⟩ ∈ zgw := zgw_8 59 rfl rfl
set_option maxRecDepth 10000 in
theorem wd_1863 : Cond.instanceMethod ⟨"KnockBankModel", "valueOf", "(I)J"⟩ ∈ zgw := zgw_8 61 rfl rfl
set_option maxRecDepth 10000 in
theorem wd_1864 : Cond.code ⟨"KnockBankModel", "valueOf", "(I)J"⟩ prog_14_method_44_code 6 (some .long) ∈ zgw := zgw_8 62 rfl rfl
set_option maxRecDepth 10000 in
theorem wd_1865 : Cond.methodLink "KnockBankModel" 337 ⟨"KnockBankModel", "bounded", "(J)J"⟩ ∈ zgw := zgw_8 63 rfl rfl
set_option maxRecDepth 10000 in
theorem wd_1867 : Cond.instanceMethod ⟨"KnockBankModel", "bounded", "(J)J"⟩ ∈ zgw := zgw_8 65 rfl rfl
set_option maxRecDepth 10000 in
theorem wd_1868 : Cond.code ⟨"KnockBankModel", "bounded", "(J)J"⟩ prog_14_method_41_code 3 (some .long) ∈ zgw := zgw_8 66 rfl rfl
set_option maxRecDepth 10000 in
theorem wd_1869 : Cond.constantLong "KnockBankModel" 333 (1000000000000) ∈ zgw := zgw_8 67 rfl rfl
set_option maxRecDepth 10000 in
theorem wd_1870 : Cond.constantLong "KnockBankModel" 335 (-1000000000000) ∈ zgw := zgw_8 68 rfl rfl
set_option maxRecDepth 10000 in
theorem wd_1871 : Cond.methodLink "KnockBankModel" 341 ⟨"KnockBankModel", "times", "(JJ)J"⟩ ∈ zgw := zgw_8 69 rfl rfl
set_option maxRecDepth 10000 in
theorem wd_1873 : Cond.instanceMethod ⟨"KnockBankModel", "times", "(JJ)J"⟩ ∈ zgw := zgw_8 71 rfl rfl
set_option maxRecDepth 10000 in
theorem wd_1874 : Cond.code ⟨"KnockBankModel", "times", "(JJ)J"⟩ prog_14_method_43_code 6 (some .long) ∈ zgw := zgw_8 72 rfl rfl
set_option maxRecDepth 10000 in
theorem wd_1875 : Cond.methodLink "KnockBankModel" 345 ⟨"KnockBankModel", "compares", "(IJJ)Z"⟩ ∈ zgw := zgw_8 73 rfl rfl
set_option maxRecDepth 10000 in
theorem wd_1876 : Cond.static ⟨"KnockBankModel", "compares", "(IJJ)Z"⟩ ∈ zgw := zgw_8 74 rfl rfl
set_option maxRecDepth 10000 in
theorem wd_1877 : Cond.code ⟨"KnockBankModel", "compares", "(IJJ)Z"⟩ prog_14_method_42_code 5 (some .boolean) ∈ zgw := zgw_8 75 rfl rfl
set_option maxRecDepth 10000 in
theorem wd_1882 : Cond.methodLink "KnockBankModel" 463 ⟨"KnockBankModel", "remember", "()V"⟩ ∈ zgw := zgw_8 80 rfl rfl
set_option maxRecDepth 10000 in
theorem wd_1884 : Cond.instanceMethod ⟨"KnockBankModel", "remember", "()V"⟩ ∈ zgw := zgw_8 82 rfl rfl
set_option maxRecDepth 10000 in
theorem wd_1885 : Cond.code ⟨"KnockBankModel", "remember", "()V"⟩ prog_14_method_123_code 2 none ∈ zgw := zgw_8 83 rfl rfl
set_option maxRecDepth 10000 in
theorem wd_1886 : Cond.methodLink "KnockBankModel" 532 ⟨"KnockBankModel", "put", "([II)V"⟩ ∈ zgw := zgw_8 84 rfl rfl
set_option maxRecDepth 10000 in
theorem wd_1888 : Cond.instanceMethod ⟨"KnockBankModel", "put", "([II)V"⟩ ∈ zgw := zgw_8 86 rfl rfl
set_option maxRecDepth 10000 in
theorem wd_1889 : Cond.code ⟨"KnockBankModel", "put", "([II)V"⟩ prog_14_method_121_code 4 none ∈ zgw := zgw_8 87 rfl rfl
set_option maxRecDepth 10000 in
theorem wd_1906 : Cond.methodLink "KnockBankModel" 442 ⟨"KnockBankModel", "dayGoes", "(I)V"⟩ ∈ zgw := zgw_8 104 rfl rfl
set_option maxRecDepth 10000 in
theorem wd_1908 : Cond.instanceMethod ⟨"KnockBankModel", "dayGoes", "(I)V"⟩ ∈ zgw := zgw_8 106 rfl rfl
set_option maxRecDepth 10000 in
theorem wd_1909 : Cond.code ⟨"KnockBankModel", "dayGoes", "(I)V"⟩ prog_14_method_66_code 3 none ∈ zgw := zgw_8 107 rfl rfl
set_option maxRecDepth 10000 in
theorem wd_1910 : Cond.methodLink "KnockBankModel" 435 ⟨"KnockBankModel", "fades", "(II)V"⟩ ∈ zgw := zgw_8 108 rfl rfl
set_option maxRecDepth 10000 in
theorem wd_1912 : Cond.instanceMethod ⟨"KnockBankModel", "fades", "(II)V"⟩ ∈ zgw := zgw_8 110 rfl rfl
set_option maxRecDepth 10000 in
theorem wd_1913 : Cond.code ⟨"KnockBankModel", "fades", "(II)V"⟩ prog_14_method_65_code 5 none ∈ zgw := zgw_8 111 rfl rfl
set_option maxRecDepth 10000 in
theorem wd_1914 : Cond.methodLink "KnockBankModel" 406 ⟨"KnockBankModel", "boundLaw", "(III)I"⟩ ∈ zgw := zgw_8 112 rfl rfl
set_option maxRecDepth 10000 in
theorem wd_1916 : Cond.instanceMethod ⟨"KnockBankModel", "boundLaw", "(III)I"⟩ ∈ zgw := zgw_8 114 rfl rfl
set_option maxRecDepth 10000 in
theorem wd_1917 : Cond.code ⟨"KnockBankModel", "boundLaw", "(III)I"⟩ prog_14_method_57_code 6 (some .int) ∈ zgw := zgw_8 115 rfl rfl
set_option maxRecDepth 10000 in
theorem wd_1918 : Cond.methodLink "KnockBankModel" 439 ⟨"KnockBankModel", "raps", "(II)V"⟩ ∈ zgw := zgw_8 116 rfl rfl
set_option maxRecDepth 10000 in
theorem wd_1920 : Cond.instanceMethod ⟨"KnockBankModel", "raps", "(II)V"⟩ ∈ zgw := zgw_8 118 rfl rfl
set_option maxRecDepth 10000 in
theorem wd_1921 : Cond.code ⟨"KnockBankModel", "raps", "(II)V"⟩ prog_14_method_64_code 6 none ∈ zgw := zgw_8 119 rfl rfl
set_option maxRecDepth 10000 in
theorem wd_1922 : Cond.methodLink "KnockBankModel" 428 ⟨"KnockBankModel", "isLonger", "(IIII)Z"⟩ ∈ zgw := zgw_8 120 rfl rfl
set_option maxRecDepth 10000 in
theorem wd_1924 : Cond.instanceMethod ⟨"KnockBankModel", "isLonger", "(IIII)Z"⟩ ∈ zgw := zgw_8 122 rfl rfl
set_option maxRecDepth 10000 in
theorem wd_1925 : Cond.code ⟨"KnockBankModel", "isLonger", "(IIII)Z"⟩ prog_14_method_61_code 6 (some .boolean) ∈ zgw := zgw_8 123 rfl rfl
set_option maxRecDepth 10000 in
theorem wd_1926 : Cond.methodLink "KnockBankModel" 418 ⟨"KnockBankModel", "shakeOf", "(IIII)I"⟩ ∈ zgw := zgw_8 124 rfl rfl
set_option maxRecDepth 10000 in
theorem wd_1928 : Cond.instanceMethod ⟨"KnockBankModel", "shakeOf", "(IIII)I"⟩ ∈ zgw := zgw_8 126 rfl rfl
set_option maxRecDepth 10000 in
theorem wd_1929 : Cond.code ⟨"KnockBankModel", "shakeOf", "(IIII)I"⟩ prog_14_method_59_code 5 (some .int) ∈ zgw := zgw_8 127 rfl rfl
set_option maxRecDepth 10000 in
theorem wd_1930 : Cond.methodLink "KnockBankModel" 403 ⟨"KnockBankModel", "within", "(II)I"⟩ ∈ zgw := zgw_8 128 rfl rfl
set_option maxRecDepth 10000 in
theorem wd_1931 : Cond.static ⟨"KnockBankModel", "within", "(II)I"⟩ ∈ zgw := zgw_8 129 rfl rfl
set_option maxRecDepth 10000 in
theorem wd_1932 : Cond.code ⟨"KnockBankModel", "within", "(II)I"⟩ prog_14_method_58_code 2 (some .int) ∈ zgw := zgw_8 130 rfl rfl
set_option maxRecDepth 10000 in
theorem wd_1933 : Cond.methodLink "KnockBankModel" 422 ⟨"KnockBankModel", "number1", "(I)I"⟩ ∈ zgw := zgw_8 131 rfl rfl
set_option maxRecDepth 10000 in
theorem wd_1935 : Cond.instanceMethod ⟨"KnockBankModel", "number1", "(I)I"⟩ ∈ zgw := zgw_8 133 rfl rfl
set_option maxRecDepth 10000 in
theorem wd_1936 : Cond.code ⟨"KnockBankModel", "number1", "(I)I"⟩ prog_14_method_60_code 2 (some .int) ∈ zgw := zgw_8 134 rfl rfl
set_option maxRecDepth 10000 in
theorem wd_1937 : Cond.constantLong "KnockBankModel" 410 (1103515245) ∈ zgw := zgw_8 135 rfl rfl
set_option maxRecDepth 10000 in
theorem wd_1938 : Cond.constantLong "KnockBankModel" 412 (12345) ∈ zgw := zgw_8 136 rfl rfl
set_option maxRecDepth 10000 in
theorem wd_1939 : Cond.constantLong "KnockBankModel" 414 (2147483647) ∈ zgw := zgw_8 137 rfl rfl
set_option maxRecDepth 10000 in
theorem wd_1940 : Cond.constantLong "KnockBankModel" 416 (65536) ∈ zgw := zgw_8 138 rfl rfl
set_option maxRecDepth 10000 in
theorem wd_1941 : Cond.methodLink "KnockBankModel" 432 ⟨"KnockBankModel", "boundBy", "(II)I"⟩ ∈ zgw := zgw_8 139 rfl rfl
set_option maxRecDepth 10000 in
theorem wd_1943 : Cond.instanceMethod ⟨"KnockBankModel", "boundBy", "(II)I"⟩ ∈ zgw := zgw_8 141 rfl rfl
set_option maxRecDepth 10000 in
theorem wd_1944 : Cond.code ⟨"KnockBankModel", "boundBy", "(II)I"⟩ prog_14_method_63_code 5 (some .int) ∈ zgw := zgw_8 142 rfl rfl
set_option maxRecDepth 10000 in
theorem wd_1945 : Cond.methodLink "KnockBankModel" 425 ⟨"KnockBankModel", "apartFrom", "(I)I"⟩ ∈ zgw := zgw_8 143 rfl rfl
set_option maxRecDepth 10000 in
theorem wd_1947 : Cond.instanceMethod ⟨"KnockBankModel", "apartFrom", "(I)I"⟩ ∈ zgw := zgw_8 145 rfl rfl
set_option maxRecDepth 10000 in
theorem wd_1948 : Cond.code ⟨"KnockBankModel", "apartFrom", "(I)I"⟩ prog_14_method_62_code 5 (some .int) ∈ zgw := zgw_8 146 rfl rfl
set_option maxRecDepth 10000 in
theorem wd_1953 : Cond.methodLink "KnockBankModel" 466 ⟨"KnockBankModel", "layTried", "()V"⟩ ∈ zgw := zgw_8 151 rfl rfl
set_option maxRecDepth 10000 in
theorem wd_1955 : Cond.instanceMethod ⟨"KnockBankModel", "layTried", "()V"⟩ ∈ zgw := zgw_8 153 rfl rfl
set_option maxRecDepth 10000 in
theorem wd_1956 : Cond.code ⟨"KnockBankModel", "layTried", "()V"⟩ prog_14_method_48_code 2 none ∈ zgw := zgw_8 154 rfl rfl
set_option maxRecDepth 10000 in
theorem wd_1957 : Cond.methodLink "KnockBankModel" 469 ⟨"KnockBankModel", "goMany", "(I)V"⟩ ∈ zgw := zgw_8 155 rfl rfl
set_option maxRecDepth 10000 in
theorem wd_1959 : Cond.instanceMethod ⟨"KnockBankModel", "goMany", "(I)V"⟩ ∈ zgw := zgw_8 157 rfl rfl
set_option maxRecDepth 10000 in
theorem wd_1960 : Cond.code ⟨"KnockBankModel", "goMany", "(I)V"⟩ prog_14_method_67_code 3 none ∈ zgw := zgw_8 158 rfl rfl
set_option maxRecDepth 10000 in
theorem wd_1961 : Cond.methodLink "KnockBankModel" 472 ⟨"KnockBankModel", "areIn", "(II)I"⟩ ∈ zgw := zgw_8 159 rfl rfl
set_option maxRecDepth 10000 in
theorem wd_1963 : Cond.instanceMethod ⟨"KnockBankModel", "areIn", "(II)I"⟩ ∈ zgw := zgw_8 161 rfl rfl
set_option maxRecDepth 10000 in
theorem wd_1964 : Cond.code ⟨"KnockBankModel", "areIn", "(II)I"⟩ prog_14_method_68_code 5 (some .int) ∈ zgw := zgw_8 162 rfl rfl
set_option maxRecDepth 10000 in
theorem wd_1965 : Cond.methodLink "KnockBankModel" 475 ⟨"KnockBankModel", "wrongIn", "(I)I"⟩ ∈ zgw := zgw_8 163 rfl rfl
set_option maxRecDepth 10000 in
theorem wd_1967 : Cond.instanceMethod ⟨"KnockBankModel", "wrongIn", "(I)I"⟩ ∈ zgw := zgw_8 165 rfl rfl
set_option maxRecDepth 10000 in
theorem wd_1968 : Cond.code ⟨"KnockBankModel", "wrongIn", "(I)I"⟩ prog_14_method_69_code 4 (some .int) ∈ zgw := zgw_8 166 rfl rfl
set_option maxRecDepth 10000 in
theorem wd_1969 : Cond.methodLink "KnockBankModel" 478 ⟨"KnockBankModel", "fadedIn", "(I)I"⟩ ∈ zgw := zgw_8 167 rfl rfl
set_option maxRecDepth 10000 in
theorem wd_1971 : Cond.instanceMethod ⟨"KnockBankModel", "fadedIn", "(I)I"⟩ ∈ zgw := zgw_8 169 rfl rfl
set_option maxRecDepth 10000 in
theorem wd_1972 : Cond.code ⟨"KnockBankModel", "fadedIn", "(I)I"⟩ prog_14_method_70_code 4 (some .int) ∈ zgw := zgw_8 170 rfl rfl
set_option maxRecDepth 10000 in
theorem wd_1977 : Cond.methodLink "KnockBankModel" 481 ⟨"KnockBankModel", "apartOf", "(II)I"⟩ ∈ zgw := zgw_8 175 rfl rfl
set_option maxRecDepth 10000 in
theorem wd_1979 : Cond.instanceMethod ⟨"KnockBankModel", "apartOf", "(II)I"⟩ ∈ zgw := zgw_8 177 rfl rfl
set_option maxRecDepth 10000 in
theorem wd_1980 : Cond.code ⟨"KnockBankModel", "apartOf", "(II)I"⟩ prog_14_method_83_code 6 (some .int) ∈ zgw := zgw_8 178 rfl rfl
set_option maxRecDepth 10000 in
theorem wd_1989 : Cond.methodLink "KnockBankModel" 484 ⟨"KnockBankModel", "layAsked", "(I)V"⟩ ∈ zgw := zgw_8 187 rfl rfl
set_option maxRecDepth 10000 in
theorem wd_1991 : Cond.instanceMethod ⟨"KnockBankModel", "layAsked", "(I)V"⟩ ∈ zgw := zgw_8 189 rfl rfl
set_option maxRecDepth 10000 in
theorem wd_1992 : Cond.code ⟨"KnockBankModel", "layAsked", "(I)V"⟩ prog_14_method_86_code 3 none ∈ zgw := zgw_8 190 rfl rfl
set_option maxRecDepth 10000 in
theorem wd_1993 : Cond.methodLink "KnockBankModel" 487 ⟨"KnockBankModel", "leastApart", "()I"⟩ ∈ zgw := zgw_8 191 rfl rfl
set_option maxRecDepth 10000 in
theorem wd_1995 : Cond.instanceMethod ⟨"KnockBankModel", "leastApart", "()I"⟩ ∈ zgw := zgw_8 193 rfl rfl
set_option maxRecDepth 10000 in
theorem wd_1996 : Cond.code ⟨"KnockBankModel", "leastApart", "()I"⟩ prog_14_method_87_code 3 (some .int) ∈ zgw := zgw_8 194 rfl rfl
set_option maxRecDepth 10000 in
theorem wd_2001 : Cond.methodLink "KnockBankModel" 490 ⟨"KnockBankModel", "isKnock", "(I)Z"⟩ ∈ zgw := zgw_8 199 rfl rfl
set_option maxRecDepth 10000 in
theorem wd_2003 : Cond.instanceMethod ⟨"KnockBankModel", "isKnock", "(I)Z"⟩ ∈ zgw := zgw_8 201 rfl rfl
set_option maxRecDepth 10000 in
theorem wd_2004 : Cond.code ⟨"KnockBankModel", "isKnock", "(I)Z"⟩ prog_14_method_89_code 5 (some .boolean) ∈ zgw := zgw_8 202 rfl rfl
set_option maxRecDepth 10000 in
theorem wd_2013 : Cond.constantLong "KnockBankModel" 493 (-1) ∈ zgw := zgw_8 211 rfl rfl
set_option maxRecDepth 10000 in
theorem wd_2014 : Cond.methodLink "KnockBankModel" 495 ⟨"KnockBankModel", "surely", "(II)J"⟩ ∈ zgw := zgw_8 212 rfl rfl
set_option maxRecDepth 10000 in
theorem wd_2016 : Cond.instanceMethod ⟨"KnockBankModel", "surely", "(II)J"⟩ ∈ zgw := zgw_8 214 rfl rfl
set_option maxRecDepth 10000 in
theorem wd_2017 : Cond.code ⟨"KnockBankModel", "surely", "(II)J"⟩ prog_14_method_92_code 6 (some .long) ∈ zgw := zgw_8 215 rfl rfl
set_option maxRecDepth 10000 in
theorem wd_2030 : Cond.methodLink "KnockBankModel" 502 ⟨"KnockBankModel", "manyOf", "(I)I"⟩ ∈ zgw := zgw_8 228 rfl rfl
set_option maxRecDepth 10000 in
theorem wd_2031 : Cond.static ⟨"KnockBankModel", "manyOf", "(I)I"⟩ ∈ zgw := zgw_8 229 rfl rfl
set_option maxRecDepth 10000 in
theorem wd_2032 : Cond.code ⟨"KnockBankModel", "manyOf", "(I)I"⟩ prog_14_method_96_code 3 (some .int) ∈ zgw := zgw_8 230 rfl rfl
set_option maxRecDepth 10000 in
theorem wd_2033 : Cond.methodLink "KnockBankModel" 505 ⟨"KnockBankModel", "tellsAll", "(I)Z"⟩ ∈ zgw := zgw_8 231 rfl rfl
set_option maxRecDepth 10000 in
theorem wd_2035 : Cond.instanceMethod ⟨"KnockBankModel", "tellsAll", "(I)Z"⟩ ∈ zgw := zgw_8 233 rfl rfl
set_option maxRecDepth 10000 in
theorem wd_2036 : Cond.code ⟨"KnockBankModel", "tellsAll", "(I)Z"⟩ prog_14_method_97_code 6 (some .boolean) ∈ zgw := zgw_8 234 rfl rfl
set_option maxRecDepth 10000 in
theorem wd_2037 : Cond.methodLink "KnockBankModel" 499 ⟨"KnockBankModel", "isOf", "(II)Z"⟩ ∈ zgw := zgw_8 235 rfl rfl
set_option maxRecDepth 10000 in
theorem wd_2038 : Cond.static ⟨"KnockBankModel", "isOf", "(II)Z"⟩ ∈ zgw := zgw_8 236 rfl rfl
set_option maxRecDepth 10000 in
theorem wd_2039 : Cond.code ⟨"KnockBankModel", "isOf", "(II)Z"⟩ prog_14_method_5_code 2 (some .boolean) ∈ zgw := zgw_8 237 rfl rfl
set_option maxRecDepth 10000 in
theorem wd_2044 : Cond.methodLink "KnockBankModel" 508 ⟨"KnockBankModel", "powerOf", "(II)I"⟩ ∈ zgw := zgw_9 2 rfl rfl
set_option maxRecDepth 10000 in
theorem wd_2045 : Cond.static ⟨"KnockBankModel", "powerOf", "(II)I"⟩ ∈ zgw := zgw_9 3 rfl rfl
set_option maxRecDepth 10000 in
theorem wd_2046 : Cond.code ⟨"KnockBankModel", "powerOf", "(II)I"⟩ prog_14_method_99_code 4 (some .int) ∈ zgw := zgw_9 4 rfl rfl
set_option maxRecDepth 10000 in
theorem wd_2047 : Cond.methodLink "KnockBankModel" 511 ⟨"KnockBankModel", "masked", "(II)I"⟩ ∈ zgw := zgw_9 5 rfl rfl
set_option maxRecDepth 10000 in
theorem wd_2049 : Cond.instanceMethod ⟨"KnockBankModel", "masked", "(II)I"⟩ ∈ zgw := zgw_9 7 rfl rfl
set_option maxRecDepth 10000 in
theorem wd_2050 : Cond.code ⟨"KnockBankModel", "masked", "(II)I"⟩ prog_14_method_100_code 8 (some .int) ∈ zgw := zgw_9 8 rfl rfl
set_option maxRecDepth 10000 in
theorem wd_2075 : Cond.methodLink "KnockBankModel" 520 ⟨"KnockBankModel", "restAt", "(III)I"⟩ ∈ zgw := zgw_9 33 rfl rfl
set_option maxRecDepth 10000 in
theorem wd_2077 : Cond.instanceMethod ⟨"KnockBankModel", "restAt", "(III)I"⟩ ∈ zgw := zgw_9 35 rfl rfl
set_option maxRecDepth 10000 in
theorem wd_2078 : Cond.code ⟨"KnockBankModel", "restAt", "(III)I"⟩ prog_14_method_109_code 9 (some .int) ∈ zgw := zgw_9 36 rfl rfl
set_option maxRecDepth 10000 in
theorem wd_2079 : Cond.methodLink "KnockBankModel" 517 ⟨"KnockBankModel", "hasBy", "(III)I"⟩ ∈ zgw := zgw_9 37 rfl rfl
set_option maxRecDepth 10000 in
theorem wd_2081 : Cond.instanceMethod ⟨"KnockBankModel", "hasBy", "(III)I"⟩ ∈ zgw := zgw_9 39 rfl rfl
set_option maxRecDepth 10000 in
theorem wd_2082 : Cond.code ⟨"KnockBankModel", "hasBy", "(III)I"⟩ prog_14_method_108_code 5 (some .int) ∈ zgw := zgw_9 40 rfl rfl
set_option maxRecDepth 10000 in
theorem wd_2083 : Cond.methodLink "KnockBankModel" 514 ⟨"KnockBankModel", "takes", "(II)Z"⟩ ∈ zgw := zgw_9 41 rfl rfl
set_option maxRecDepth 10000 in
theorem wd_2085 : Cond.instanceMethod ⟨"KnockBankModel", "takes", "(II)Z"⟩ ∈ zgw := zgw_9 43 rfl rfl
set_option maxRecDepth 10000 in
theorem wd_2086 : Cond.code ⟨"KnockBankModel", "takes", "(II)Z"⟩ prog_14_method_107_code 4 (some .boolean) ∈ zgw := zgw_9 44 rfl rfl
set_option maxRecDepth 10000 in
theorem wd_2095 : Cond.methodLink "KnockBankModel" 523 ⟨"KnockBankModel", "noted", "(III)I"⟩ ∈ zgw := zgw_9 53 rfl rfl
set_option maxRecDepth 10000 in
theorem wd_2097 : Cond.instanceMethod ⟨"KnockBankModel", "noted", "(III)I"⟩ ∈ zgw := zgw_9 55 rfl rfl
set_option maxRecDepth 10000 in
theorem wd_2098 : Cond.code ⟨"KnockBankModel", "noted", "(III)I"⟩ prog_14_method_112_code 4 (some .int) ∈ zgw := zgw_9 56 rfl rfl
set_option maxRecDepth 10000 in
theorem wd_2111 : Cond.methodLink "KnockBankModel" 526 ⟨"KnockBankModel", "knownBy", "()I"⟩ ∈ zgw := zgw_9 69 rfl rfl
set_option maxRecDepth 10000 in
theorem wd_2113 : Cond.instanceMethod ⟨"KnockBankModel", "knownBy", "()I"⟩ ∈ zgw := zgw_9 71 rfl rfl
set_option maxRecDepth 10000 in
theorem wd_2114 : Cond.code ⟨"KnockBankModel", "knownBy", "()I"⟩ prog_14_method_116_code 1 (some .int) ∈ zgw := zgw_9 72 rfl rfl
set_option maxRecDepth 10000 in
theorem wd_2115 : Cond.methodLink "KnockBankModel" 529 ⟨"KnockBankModel", "isSo", "(I)Z"⟩ ∈ zgw := zgw_9 73 rfl rfl
set_option maxRecDepth 10000 in
theorem wd_2117 : Cond.instanceMethod ⟨"KnockBankModel", "isSo", "(I)Z"⟩ ∈ zgw := zgw_9 75 rfl rfl
set_option maxRecDepth 10000 in
theorem wd_2118 : Cond.code ⟨"KnockBankModel", "isSo", "(I)Z"⟩ prog_14_method_117_code 6 (some .boolean) ∈ zgw := zgw_9 76 rfl rfl
set_option maxRecDepth 10000 in
theorem wd_2131 : Cond.methodLink "KnockBankModel" 535 ⟨"KnockBankModel", "take", "([II)V"⟩ ∈ zgw := zgw_9 89 rfl rfl
set_option maxRecDepth 10000 in
theorem wd_2133 : Cond.instanceMethod ⟨"KnockBankModel", "take", "([II)V"⟩ ∈ zgw := zgw_9 91 rfl rfl
set_option maxRecDepth 10000 in
theorem wd_2134 : Cond.code ⟨"KnockBankModel", "take", "([II)V"⟩ prog_14_method_122_code 4 none ∈ zgw := zgw_9 92 rfl rfl
