-- the steps, applied
theorem x_int {n : Int32} {f : zF} {ls : zL} {st : List zV} {M : zM} : g_int n f ls st M = (f ls (.inl n :: st) M) := rfl
theorem x_lng {n : Int64} {f : zF} {ls : zL} {st : List zV} {M : zM} : g_lng n f ls st M = (f ls (.inr (.inl n) :: st) M) := rfl
theorem x_ild {i : Nat} {f : zF} {ls : zL} {st : List zV} {M : zM} : g_ild i f ls st M = (match zg ls i with
  | some (.inl x) => f ls (.inl x :: st) M
  | _ => False) := rfl
theorem x_lld {i : Nat} {f : zF} {ls : zL} {st : List zV} {M : zM} : g_lld i f ls st M = (match zg ls i with
  | some (.inr (.inl x)) => f ls (.inr (.inl x) :: st) M
  | _ => False) := rfl
theorem x_ald {i : Nat} {f : zF} {ls : zL} {st : List zV} {M : zM} : g_ald i f ls st M = (match zg ls i with
  | some (.inr (.inr x)) => f ls (.inr (.inr x) :: st) M
  | _ => False) := rfl
theorem x_ist {i : Nat} {f : zF} {ls : zL} {st : List zV} {M : zM} : g_ist i f ls st M = (match st with
  | .inl x :: r => bif zbef ls i then False else f (zset ls i (some (.inl x))) r M
  | _ => False) := rfl
theorem x_ast {i : Nat} {f : zF} {ls : zL} {st : List zV} {M : zM} : g_ast i f ls st M = (match st with
  | .inr (.inr x) :: r => bif zbef ls i then False else f (zset ls i (some (.inr (.inr x)))) r M
  | _ => False) := rfl
theorem x_lst {i : Nat} {f : zF} {ls : zL} {st : List zV} {M : zM} : g_lst i f ls st M = (match st with
  | .inr (.inl x) :: r => bif zbef ls i then False else f (zset (zset ls i (some (.inr (.inl x)))) (i + 1) none) r M
  | _ => False) := rfl
theorem x_inc {i : Nat} {n : Int32} {f : zF} {ls : zL} {st : List zV} {M : zM} : g_inc i n f ls st M = (match zg ls i with
  | some (.inl x) => bif zbef ls i then False else f (zset ls i (some (.inl (x + n)))) st M
  | _ => False) := rfl
theorem x_ii {op : Int32 → Int32 → Int32} {f : zF} {ls : zL} {st : List zV} {M : zM} : g_ii op f ls st M = (match st with
  | .inl y :: .inl x :: r => f ls (.inl (op x y) :: r) M
  | _ => False) := rfl
theorem x_id {op : Int32 → Int32 → Int32} {f : zF} {ls : zL} {st : List zV} {M : zM} : g_id op f ls st M = (match st with
  | .inl y :: .inl x :: r => ¬ y = 0 ∧ f ls (.inl (op x y) :: r) M
  | _ => False) := rfl
theorem x_i {op : Int32 → Int32} {f : zF} {ls : zL} {st : List zV} {M : zM} : g_i op f ls st M = (match st with
  | .inl x :: r => f ls (.inl (op x) :: r) M
  | _ => False) := rfl
theorem x_ll {op : Int64 → Int64 → Int64} {f : zF} {ls : zL} {st : List zV} {M : zM} : g_ll op f ls st M = (match st with
  | .inr (.inl y) :: .inr (.inl x) :: r => f ls (.inr (.inl (op x y)) :: r) M
  | _ => False) := rfl
theorem x_ld {op : Int64 → Int64 → Int64} {f : zF} {ls : zL} {st : List zV} {M : zM} : g_ld op f ls st M = (match st with
  | .inr (.inl y) :: .inr (.inl x) :: r => ¬ y = 0 ∧ f ls (.inr (.inl (op x y)) :: r) M
  | _ => False) := rfl
theorem x_l {op : Int64 → Int64} {f : zF} {ls : zL} {st : List zV} {M : zM} : g_l op f ls st M = (match st with
  | .inr (.inl x) :: r => f ls (.inr (.inl (op x)) :: r) M
  | _ => False) := rfl
theorem x_cmp {f : zF} {ls : zL} {st : List zV} {M : zM} : g_cmp f ls st M = (match st with
  | .inr (.inl y) :: .inr (.inl x) :: r => f ls (.inl (lg_cmp x y) :: r) M
  | _ => False) := rfl
theorem x_i2l {f : zF} {ls : zL} {st : List zV} {M : zM} : g_i2l f ls st M = (match st with
  | .inl x :: r => f ls (.inr (.inl x.toInt64) :: r) M
  | _ => False) := rfl
theorem x_l2i {f : zF} {ls : zL} {st : List zV} {M : zM} : g_l2i f ls st M = (match st with
  | .inr (.inl x) :: r => f ls (.inl x.toInt32 :: r) M
  | _ => False) := rfl
theorem x_if {c : Int32 → Prop} {f g : zF} {ls : zL} {st : List zV} {M : zM} : g_if c f g ls st M = (match st with
  | .inl x :: r => (c x → f ls r M) ∧ (¬ c x → g ls r M)
  | _ => False) := rfl
theorem x_ic {c : Int32 → Int32 → Prop} {f g : zF} {ls : zL} {st : List zV} {M : zM} : g_ic c f g ls st M = (match st with
  | .inl y :: .inl x :: r => (c x y → f ls r M) ∧ (¬ c x y → g ls r M)
  | _ => False) := rfl
theorem x_dup {f : zF} {ls : zL} {st : List zV} {M : zM} : g_dup f ls st M = (match st with
  | v :: r => bif zcat v == 1 then f ls (v :: v :: r) M else False
  | _ => False) := rfl
theorem x_pop {f : zF} {ls : zL} {st : List zV} {M : zM} : g_pop f ls st M = (match st with
  | v :: r => bif zcat v == 1 then f ls r M else False
  | _ => False) := rfl
theorem x_dup2 {f : zF} {ls : zL} {st : List zV} {M : zM} : g_dup2 f ls st M = (match st with
  | v :: u :: r => bif zcat v == 1 && zcat u == 1 then f ls (v :: u :: v :: u :: r) M else False
  | _ => False) := rfl
theorem x_gI {k s : Nat} {f : zF} {ls : zL} {st : List zV} {M : zM} : g_gI k s f ls st M = (match st with
  | .inr (.inr (k', i)) :: r => bif k' == k then f ls (.inl (M.1 k i s) :: r) M else False
  | _ => False) := rfl
theorem x_gL {k s : Nat} {f : zF} {ls : zL} {st : List zV} {M : zM} : g_gL k s f ls st M = (match st with
  | .inr (.inr (k', i)) :: r => bif k' == k then f ls (.inr (.inl (M.2.1 k i s)) :: r) M else False
  | _ => False) := rfl
theorem x_gR {k s tk a c : Nat} {f : zF} {ls : zL} {st : List zV} {M : zM} : g_gR k s tk a c f ls st M = (match st with
  | .inr (.inr (k', i)) :: r => bif k' == k then f ls (.inr (.inr (tk, a * i + c)) :: r) M else False
  | _ => False) := rfl
theorem x_g1 {k s tk : Nat} {f : zF} {ls : zL} {st : List zV} {M : zM} : g_g1 k s tk f ls st M = (match st with
  | .inr (.inr (k', i)) :: r => bif k' == k then f ls (.inr (.inr (tk, i)) :: r) M else False
  | _ => False) := rfl
theorem x_g0 {k s tk c : Nat} {f : zF} {ls : zL} {st : List zV} {M : zM} : g_g0 k s tk c f ls st M = (match st with
  | .inr (.inr (k', _)) :: r => bif k' == k then f ls (.inr (.inr (tk, c)) :: r) M else False
  | _ => False) := rfl
theorem x_gP {k s tk : Nat} {f : zF} {ls : zL} {st : List zV} {M : zM} : g_gP k s tk f ls st M = (match st with
  | .inr (.inr (k', i)) :: r => bif k' == k then M.2.2 k i s < zcnt tk ∧ f ls (.inr (.inr (tk, M.2.2 k i s)) :: r) M else False
  | _ => False) := rfl
theorem x_pI {k s : Nat} {f : zF} {ls : zL} {st : List zV} {M : zM} : g_pI k s f ls st M = (match st with
  | .inl v :: .inr (.inr (k', i)) :: r => bif k' == k then f ls r (zsI M k i s v) else False
  | _ => False) := rfl
theorem x_pZ {k s : Nat} {f : zF} {ls : zL} {st : List zV} {M : zM} : g_pZ k s f ls st M = (match st with
  | .inl v :: .inr (.inr (k', i)) :: r => bif k' == k then zb v ∧ f ls r (zsI M k i s v) else False
  | _ => False) := rfl
theorem x_pL {k s : Nat} {f : zF} {ls : zL} {st : List zV} {M : zM} : g_pL k s f ls st M = (match st with
  | .inr (.inl v) :: .inr (.inr (k', i)) :: r => bif k' == k then f ls r (zsL M k i s v) else False
  | _ => False) := rfl
theorem x_pP {k s tk : Nat} {f : zF} {ls : zL} {st : List zV} {M : zM} : g_pP k s tk f ls st M = (match st with
  | .inr (.inr (k2, j)) :: .inr (.inr (k', i)) :: r => bif k' == k && k2 == tk then f ls r (zsP M k i s j) else False
  | _ => False) := rfl
theorem x_al {t : Nat} {f : zF} {ls : zL} {st : List zV} {M : zM} : g_al t f ls st M = (match st with
  | .inl j :: .inr (.inr (k, i)) :: r => bif zsrt k == 1 && zaux k == t then zin j (zlen k) ∧ f ls (.inl (M.1 k i j.toNatClampNeg) :: r) M else False
  | _ => False) := rfl
theorem x_as {t : Nat} {nr : Int32 → Int32} {f : zF} {ls : zL} {st : List zV} {M : zM} : g_as t nr f ls st M = (match st with
  | .inl v :: .inl j :: .inr (.inr (k, i)) :: r => bif zsrt k == 1 && zaux k == t then zin j (zlen k) ∧ f ls r (zsI M k i j.toNatClampNeg (nr v)) else False
  | _ => False) := rfl
theorem x_all {f : zF} {ls : zL} {st : List zV} {M : zM} : g_all f ls st M = (match st with
  | .inl j :: .inr (.inr (k, i)) :: r => bif zsrt k == 2 && zaux k == 3 then zin j (zlen k) ∧ f ls (.inr (.inl (M.2.1 k i j.toNatClampNeg)) :: r) M else False
  | _ => False) := rfl
theorem x_asl {f : zF} {ls : zL} {st : List zV} {M : zM} : g_asl f ls st M = (match st with
  | .inr (.inl v) :: .inl j :: .inr (.inr (k, i)) :: r => bif zsrt k == 2 && zaux k == 3 then zin j (zlen k) ∧ f ls r (zsL M k i j.toNatClampNeg v) else False
  | _ => False) := rfl
theorem x_alr {k tk per : Nat} {f : zF} {ls : zL} {st : List zV} {M : zM} : g_alr k tk per f ls st M = (match st with
  | .inl j :: .inr (.inr (k', i)) :: r => bif k' == k then zin j (zlen k) ∧ f ls (.inr (.inr (tk, per * i + j.toNatClampNeg)) :: r) M else False
  | _ => False) := rfl
theorem x_len {f : zF} {ls : zL} {st : List zV} {M : zM} : g_len f ls st M = (match st with
  | .inr (.inr (k, _)) :: r => bif zsrt k == 1 || zsrt k == 2 then f ls (.inl (Int32.ofNat (zlen k)) :: r) M else False
  | _ => False) := rfl
theorem x_cpy {f : zF} {ls : zL} {st : List zV} {M : zM} : g_cpy f ls st M = (match st with
  | .inl n :: .inl dp :: .inr (.inr (k', i')) :: .inl sp :: .inr (.inr (k, i)) :: r => bif zsrt k == 1 && (zsrt k' == 1 && (zaux k == 0 && (zaux k' == 0 && Nat.ble ((r.map zcat).sum) 8))) then
      (0 ≤ sp.toInt ∧ 0 ≤ dp.toInt ∧ 0 ≤ n.toInt ∧ sp.toInt + n.toInt ≤ (zlen k : Int) ∧ dp.toInt + n.toInt ≤ (zlen k' : Int)) ∧ f ls r (zcp M k i sp.toNatClampNeg k' i' dp.toNatClampNeg n.toNatClampNeg) else False
  | _ => False) := rfl
theorem x_m2 {op : Int32 → Int32 → Int32} {f : zF} {ls : zL} {st : List zV} {M : zM} : g_m2 op f ls st M = (match st with
  | .inl y :: .inl x :: r => bif Nat.ble ((r.map zcat).sum) 8 then f ls (.inl (op x y) :: r) M else False
  | _ => False) := rfl
theorem x_m1 {op : Int32 → Int32} {f : zF} {ls : zL} {st : List zV} {M : zM} : g_m1 op f ls st M = (match st with
  | .inl x :: r => bif Nat.ble ((r.map zcat).sum) 8 then f ls (.inl (op x) :: r) M else False
  | _ => False) := rfl
theorem x_m2l {op : Int64 → Int64 → Int64} {f : zF} {ls : zL} {st : List zV} {M : zM} : g_m2l op f ls st M = (match st with
  | .inr (.inl y) :: .inr (.inl x) :: r => bif Nat.ble ((r.map zcat).sum) 8 then f ls (.inr (.inl (op x y)) :: r) M else False
  | _ => False) := rfl
theorem x_m1l {op : Int64 → Int64} {f : zF} {ls : zL} {st : List zV} {M : zM} : g_m1l op f ls st M = (match st with
  | .inr (.inl x) :: r => bif Nat.ble ((r.map zcat).sum) 8 then f ls (.inr (.inl (op x)) :: r) M else False
  | _ => False) := rfl
theorem x_call {m : zQ → List zV → zM → Prop} {n : Nat} {f : zF} {ls : zL} {st : List zV} {M : zM} : g_call m n f ls st M = (bif Nat.ble n st.length && Nat.ble (((st.drop n).map zcat).sum) 8 then m (fun r M' => f ls (r ++ st.drop n) M') (st.take n).reverse M else False) := rfl
theorem x_cv {k : Nat} {m : zQ → List zV → zM → Prop} {n : Nat} {f : zF} {ls : zL} {st : List zV} {M : zM} : g_cv k m n f ls st M = (match (st.take (n + 1)).reverse with
  | .inr (.inr (k', i)) :: as => bif k' == k && (Nat.ble (((st.drop (n + 1)).map zcat).sum) 8 && as.length == n) then m (fun r M' => f ls (r ++ st.drop (n + 1)) M') (.inr (.inr (k', i)) :: as) M else False
  | _ => False) := rfl
theorem x_ri {K : zQ} {ls : zL} {st : List zV} {M : zM} : g_ri K ls st M = (match st with
  | [.inl x] => K [.inl x] M
  | _ => False) := rfl
theorem x_rz {K : zQ} {ls : zL} {st : List zV} {M : zM} : g_rz K ls st M = (match st with
  | [.inl x] => zb x ∧ K [.inl x] M
  | _ => False) := rfl
theorem x_rl {K : zQ} {ls : zL} {st : List zV} {M : zM} : g_rl K ls st M = (match st with
  | [.inr (.inl x)] => K [.inr (.inl x)] M
  | _ => False) := rfl
theorem x_rv {K : zQ} {ls : zL} {st : List zV} {M : zM} : g_rv K ls st M = (match st with
  | [] => K [] M
  | _ => False) := rfl
theorem zn_0 : zcnt 0 = 1 := rfl
theorem zn_1 : zcnt 1 = 12 := rfl
theorem zn_2 : zcnt 2 = 6 := rfl
theorem zn_3 : zcnt 3 = 1 := rfl
theorem zn_4 : zcnt 4 = 20 := rfl
theorem zn_5 : zcnt 5 = 1 := rfl
theorem zn_6 : zcnt 6 = 1 := rfl
theorem zn_7 : zcnt 7 = 1 := rfl
theorem zn_8 : zcnt 8 = 3 := rfl
theorem zn_9 : zcnt 9 = 2 := rfl
theorem zn_10 : zcnt 10 = 8 := rfl
theorem zn_11 : zcnt 11 = 1 := rfl
theorem zn_12 : zcnt 12 = 1 := rfl
theorem zk_13 : (zsrt 13 == 1 && zaux 13 == 0) = true := rfl
theorem zl_13 : zlen 13 = 80 := rfl
theorem zn_13 : zcnt 13 = 1 := rfl
theorem zk_14 : (zsrt 14 == 1 && zaux 14 == 0) = true := rfl
theorem zl_14 : zlen 14 = 6 := rfl
theorem zn_14 : zcnt 14 = 12 := rfl
theorem zk_15 : (zsrt 15 == 1 && zaux 15 == 0) = true := rfl
theorem zl_15 : zlen 15 = 128 := rfl
theorem zn_15 : zcnt 15 = 12 := rfl
theorem zk_16 : (zsrt 16 == 1 && zaux 16 == 0) = true := rfl
theorem zl_16 : zlen 16 = 64 := rfl
theorem zn_16 : zcnt 16 = 6 := rfl
theorem zk_17 : (zsrt 17 == 2 && zaux 17 == 3) = true := rfl
theorem zl_17 : zlen 17 = 64 := rfl
theorem zn_17 : zcnt 17 = 6 := rfl
theorem zk_18 : (zsrt 18 == 1 && zaux 18 == 0) = true := rfl
theorem zl_18 : zlen 18 = 24 := rfl
theorem zn_18 : zcnt 18 = 1 := rfl
theorem zk_19 : (zsrt 19 == 1 && zaux 19 == 0) = true := rfl
theorem zl_19 : zlen 19 = 24 := rfl
theorem zn_19 : zcnt 19 = 1 := rfl
theorem zk_20 : (zsrt 20 == 1 && zaux 20 == 2) = true := rfl
theorem zl_20 : zlen 20 = 24 := rfl
theorem zn_20 : zcnt 20 = 1 := rfl
theorem zk_21 : (zsrt 21 == 1 && zaux 21 == 0) = true := rfl
theorem zl_21 : zlen 21 = 24 := rfl
theorem zn_21 : zcnt 21 = 1 := rfl
theorem zk_22 : (zsrt 22 == 1 && zaux 22 == 2) = true := rfl
theorem zl_22 : zlen 22 = 24 := rfl
theorem zn_22 : zcnt 22 = 1 := rfl
theorem zk_23 : (zsrt 23 == 1 && zaux 23 == 0) = true := rfl
theorem zl_23 : zlen 23 = 72 := rfl
theorem zn_23 : zcnt 23 = 1 := rfl
theorem zk_24 : (zsrt 24 == 1 && zaux 24 == 2) = true := rfl
theorem zl_24 : zlen 24 = 9 := rfl
theorem zn_24 : zcnt 24 = 1 := rfl
theorem zk_25 : (zsrt 25 == 1 && zaux 25 == 0) = true := rfl
theorem zl_25 : zlen 25 = 6 := rfl
theorem zn_25 : zcnt 25 = 1 := rfl
theorem zk_26 : (zsrt 26 == 1 && zaux 26 == 0) = true := rfl
theorem zl_26 : zlen 26 = 384 := rfl
theorem zn_26 : zcnt 26 = 1 := rfl
theorem zk_27 : (zsrt 27 == 1 && zaux 27 == 0) = true := rfl
theorem zl_27 : zlen 27 = 19 := rfl
theorem zn_27 : zcnt 27 = 1 := rfl
theorem zk_28 : (zsrt 28 == 1 && zaux 28 == 0) = true := rfl
theorem zl_28 : zlen 28 = 701 := rfl
theorem zn_28 : zcnt 28 = 1 := rfl
theorem zk_29 : (zsrt 29 == 1 && zaux 29 == 0) = true := rfl
theorem zl_29 : zlen 29 = 701 := rfl
theorem zn_29 : zcnt 29 = 1 := rfl
theorem zk_30 : (zsrt 30 == 1 && zaux 30 == 0) = true := rfl
theorem zl_30 : zlen 30 = 701 := rfl
theorem zn_30 : zcnt 30 = 1 := rfl
theorem zk_31 : (zsrt 31 == 1 && zaux 31 == 0) = true := rfl
theorem zl_31 : zlen 31 = 6 := rfl
theorem zn_31 : zcnt 31 = 3 := rfl
theorem zk_32 : (zsrt 32 == 1 && zaux 32 == 0) = true := rfl
theorem zl_32 : zlen 32 = 6 := rfl
theorem zn_32 : zcnt 32 = 3 := rfl
theorem zk_33 : (zsrt 33 == 1 && zaux 33 == 0) = true := rfl
theorem zl_33 : zlen 33 = 6 := rfl
theorem zn_33 : zcnt 33 = 3 := rfl
theorem zk_34 : (zsrt 34 == 1 && zaux 34 == 0) = true := rfl
theorem zl_34 : zlen 34 = 4 := rfl
theorem zn_34 : zcnt 34 = 3 := rfl
theorem zk_35 : (zsrt 35 == 1 && zaux 35 == 0) = true := rfl
theorem zl_35 : zlen 35 = 4 := rfl
theorem zn_35 : zcnt 35 = 3 := rfl
theorem zk_36 : (zsrt 36 == 1 && zaux 36 == 0) = true := rfl
theorem zl_36 : zlen 36 = 10 := rfl
theorem zn_36 : zcnt 36 = 3 := rfl
theorem zk_37 : (zsrt 37 == 1 && zaux 37 == 0) = true := rfl
theorem zl_37 : zlen 37 = 10 := rfl
theorem zn_37 : zcnt 37 = 3 := rfl
theorem zk_38 : (zsrt 38 == 1 && zaux 38 == 0) = true := rfl
theorem zl_38 : zlen 38 = 10 := rfl
theorem zn_38 : zcnt 38 = 3 := rfl
theorem zk_39 : (zsrt 39 == 1 && zaux 39 == 0) = true := rfl
theorem zl_39 : zlen 39 = 10 := rfl
theorem zn_39 : zcnt 39 = 3 := rfl
theorem zk_40 : (zsrt 40 == 1 && zaux 40 == 0) = true := rfl
theorem zl_40 : zlen 40 = 10 := rfl
theorem zn_40 : zcnt 40 = 3 := rfl
theorem zk_41 : (zsrt 41 == 1 && zaux 41 == 0) = true := rfl
theorem zl_41 : zlen 41 = 6 := rfl
theorem zn_41 : zcnt 41 = 3 := rfl
theorem zk_42 : (zsrt 42 == 2 && zaux 42 == 3) = true := rfl
theorem zl_42 : zlen 42 = 7 := rfl
theorem zn_42 : zcnt 42 = 3 := rfl
theorem zl_43 : zlen 43 = 6 := rfl
theorem zn_43 : zcnt 43 = 2 := rfl
theorem zl_44 : zlen 44 = 4 := rfl
theorem zn_44 : zcnt 44 = 2 := rfl
theorem zl_45 : zlen 45 = 10 := rfl
theorem zn_45 : zcnt 45 = 2 := rfl
theorem zl_46 : zlen 46 = 3 := rfl
theorem zn_46 : zcnt 46 = 2 := rfl
theorem zk_47 : (zsrt 47 == 1 && zaux 47 == 1) = true := rfl
theorem zl_47 : zlen 47 = 700 := rfl
theorem zn_47 : zcnt 47 = 1 := rfl
theorem zk_48 : (zsrt 48 == 1 && zaux 48 == 0) = true := rfl
theorem zl_48 : zlen 48 = 6 := rfl
theorem zn_48 : zcnt 48 = 1 := rfl
theorem zk_49 : (zsrt 49 == 1 && zaux 49 == 0) = true := rfl
theorem zl_49 : zlen 49 = 128 := rfl
theorem zn_49 : zcnt 49 = 1 := rfl
theorem zk_50 : (zsrt 50 == 1 && zaux 50 == 2) = true := rfl
theorem zl_50 : zlen 50 = 31 := rfl
theorem zn_50 : zcnt 50 = 1 := rfl
theorem zk_51 : (zsrt 51 == 1 && zaux 51 == 0) = true := rfl
theorem zl_51 : zlen 51 = 700 := rfl
theorem zn_51 : zcnt 51 = 1 := rfl
theorem zk_52 : (zsrt 52 == 1 && zaux 52 == 0) = true := rfl
theorem zl_52 : zlen 52 = 90 := rfl
theorem zn_52 : zcnt 52 = 1 := rfl
theorem zk_53 : (zsrt 53 == 1 && zaux 53 == 2) = true := rfl
theorem zl_53 : zlen 53 = 2 := rfl
theorem zn_53 : zcnt 53 = 1 := rfl
theorem zk_54 : (zsrt 54 == 1 && zaux 54 == 0) = true := rfl
theorem zl_54 : zlen 54 = 4 := rfl
theorem zn_54 : zcnt 54 = 1 := rfl
theorem zk_55 : (zsrt 55 == 1 && zaux 55 == 0) = true := rfl
theorem zl_55 : zlen 55 = 12 := rfl
theorem zn_55 : zcnt 55 = 1 := rfl
theorem zk_56 : (zsrt 56 == 1 && zaux 56 == 0) = true := rfl
theorem zl_56 : zlen 56 = 12 := rfl
theorem zn_56 : zcnt 56 = 1 := rfl
theorem zk_57 : (zsrt 57 == 1 && zaux 57 == 0) = true := rfl
theorem zl_57 : zlen 57 = 12 := rfl
theorem zn_57 : zcnt 57 = 1 := rfl
theorem zk_58 : (zsrt 58 == 1 && zaux 58 == 0) = true := rfl
theorem zl_58 : zlen 58 = 72 := rfl
theorem zn_58 : zcnt 58 = 1 := rfl
theorem zk_59 : (zsrt 59 == 1 && zaux 59 == 0) = true := rfl
theorem zl_59 : zlen 59 = 8 := rfl
theorem zn_59 : zcnt 59 = 1 := rfl
theorem zk_60 : (zsrt 60 == 1 && zaux 60 == 0) = true := rfl
theorem zl_60 : zlen 60 = 8 := rfl
theorem zn_60 : zcnt 60 = 1 := rfl
theorem zk_61 : (zsrt 61 == 1 && zaux 61 == 0) = true := rfl
theorem zl_61 : zlen 61 = 8 := rfl
theorem zn_61 : zcnt 61 = 1 := rfl
theorem zk_62 : (zsrt 62 == 1 && zaux 62 == 0) = true := rfl
theorem zl_62 : zlen 62 = 8 := rfl
theorem zn_62 : zcnt 62 = 1 := rfl
theorem zk_63 : (zsrt 63 == 1 && zaux 63 == 0) = true := rfl
theorem zl_63 : zlen 63 = 20 := rfl
theorem zn_63 : zcnt 63 = 1 := rfl
theorem zk_64 : (zsrt 64 == 1 && zaux 64 == 0) = true := rfl
theorem zl_64 : zlen 64 = 20 := rfl
theorem zn_64 : zcnt 64 = 1 := rfl
theorem zk_65 : (zsrt 65 == 1 && zaux 65 == 0) = true := rfl
theorem zl_65 : zlen 65 = 20 := rfl
theorem zn_65 : zcnt 65 = 1 := rfl
theorem zk_66 : (zsrt 66 == 1 && zaux 66 == 2) = true := rfl
theorem zl_66 : zlen 66 = 6 := rfl
theorem zn_66 : zcnt 66 = 1 := rfl
theorem zk_67 : (zsrt 67 == 1 && zaux 67 == 0) = true := rfl
theorem zl_67 : zlen 67 = 6 := rfl
theorem zn_67 : zcnt 67 = 1 := rfl
theorem zk_68 : (zsrt 68 == 1 && zaux 68 == 0) = true := rfl
theorem zl_68 : zlen 68 = 6 := rfl
theorem zn_68 : zcnt 68 = 1 := rfl
theorem zk_69 : (zsrt 69 == 1 && zaux 69 == 0) = true := rfl
theorem zl_69 : zlen 69 = 128 := rfl
theorem zn_69 : zcnt 69 = 1 := rfl
theorem zk_70 : (zsrt 70 == 1 && zaux 70 == 0) = true := rfl
theorem zl_70 : zlen 70 = 128 := rfl
theorem zn_70 : zcnt 70 = 1 := rfl
theorem zk_71 : (zsrt 71 == 1 && zaux 71 == 0) = true := rfl
theorem zl_71 : zlen 71 = 128 := rfl
theorem zn_71 : zcnt 71 = 1 := rfl
theorem zk_72 : (zsrt 72 == 1 && zaux 72 == 0) = true := rfl
theorem zl_72 : zlen 72 = 96 := rfl
theorem zn_72 : zcnt 72 = 1 := rfl
theorem zk_73 : (zsrt 73 == 1 && zaux 73 == 0) = true := rfl
theorem zl_73 : zlen 73 = 96 := rfl
theorem zn_73 : zcnt 73 = 1 := rfl
theorem zk_74 : (zsrt 74 == 2 && zaux 74 == 3) = true := rfl
theorem zl_74 : zlen 74 = 7 := rfl
theorem zn_74 : zcnt 74 = 1 := rfl
theorem zk_75 : (zsrt 75 == 2 && zaux 75 == 3) = true := rfl
theorem zl_75 : zlen 75 = 64 := rfl
theorem zn_75 : zcnt 75 = 1 := rfl
theorem zk_76 : (zsrt 76 == 1 && zaux 76 == 0) = true := rfl
theorem zl_76 : zlen 76 = 12 := rfl
theorem zn_76 : zcnt 76 = 1 := rfl
theorem zk_77 : (zsrt 77 == 1 && zaux 77 == 0) = true := rfl
theorem zl_77 : zlen 77 = 12 := rfl
theorem zn_77 : zcnt 77 = 1 := rfl
theorem zk_78 : (zsrt 78 == 1 && zaux 78 == 0) = true := rfl
theorem zl_78 : zlen 78 = 8 := rfl
theorem zn_78 : zcnt 78 = 1 := rfl
theorem zk_79 : (zsrt 79 == 1 && zaux 79 == 0) = true := rfl
theorem zl_79 : zlen 79 = 20 := rfl
theorem zn_79 : zcnt 79 = 1 := rfl
theorem zk_80 : (zsrt 80 == 1 && zaux 80 == 0) = true := rfl
theorem zl_80 : zlen 80 = 20 := rfl
theorem zn_80 : zcnt 80 = 1 := rfl
theorem zk_81 : (zsrt 81 == 1 && zaux 81 == 0) = true := rfl
theorem zl_81 : zlen 81 = 20 := rfl
theorem zn_81 : zcnt 81 = 1 := rfl
theorem zk_82 : (zsrt 82 == 1 && zaux 82 == 0) = true := rfl
theorem zl_82 : zlen 82 = 20 := rfl
theorem zn_82 : zcnt 82 = 1 := rfl
theorem zk_83 : (zsrt 83 == 1 && zaux 83 == 2) = true := rfl
theorem zl_83 : zlen 83 = 20 := rfl
theorem zn_83 : zcnt 83 = 1 := rfl
theorem zk_84 : (zsrt 84 == 1 && zaux 84 == 0) = true := rfl
theorem zl_84 : zlen 84 = 20 := rfl
theorem zn_84 : zcnt 84 = 1 := rfl
theorem zk_85 : (zsrt 85 == 1 && zaux 85 == 0) = true := rfl
theorem zl_85 : zlen 85 = 120 := rfl
theorem zn_85 : zcnt 85 = 1 := rfl
theorem zk_86 : (zsrt 86 == 1 && zaux 86 == 0) = true := rfl
theorem zl_86 : zlen 86 = 2 := rfl
theorem zn_86 : zcnt 86 = 1 := rfl
theorem zk_87 : (zsrt 87 == 1 && zaux 87 == 0) = true := rfl
theorem zl_87 : zlen 87 = 6 := rfl
theorem zn_87 : zcnt 87 = 1 := rfl
theorem zk_88 : (zsrt 88 == 1 && zaux 88 == 0) = true := rfl
theorem zl_88 : zlen 88 = 6 := rfl
theorem zn_88 : zcnt 88 = 1 := rfl
theorem zk_89 : (zsrt 89 == 1 && zaux 89 == 0) = true := rfl
theorem zl_89 : zlen 89 = 72 := rfl
theorem zn_89 : zcnt 89 = 1 := rfl
theorem zk_90 : (zsrt 90 == 1 && zaux 90 == 2) = true := rfl
theorem zl_90 : zlen 90 = 24 := rfl
theorem zn_90 : zcnt 90 = 1 := rfl
theorem zk_91 : (zsrt 91 == 1 && zaux 91 == 0) = true := rfl
theorem zl_91 : zlen 91 = 800 := rfl
theorem zn_91 : zcnt 91 = 1 := rfl
theorem zk_92 : (zsrt 92 == 1 && zaux 92 == 0) = true := rfl
theorem zl_92 : zlen 92 = 40 := rfl
theorem zn_92 : zcnt 92 = 1 := rfl
theorem zk_93 : (zsrt 93 == 1 && zaux 93 == 0) = true := rfl
theorem zl_93 : zlen 93 = 97 := rfl
theorem zn_93 : zcnt 93 = 1 := rfl
theorem zk_94 : (zsrt 94 == 2 && zaux 94 == 3) = true := rfl
theorem zl_94 : zlen 94 = 1 := rfl
theorem zn_94 : zcnt 94 = 1 := rfl
theorem rv1 {a0 : zV} : [a0].reverse = [a0] := rfl
theorem rv2 {a0 a1 : zV} : [a0, a1].reverse = [a1, a0] := rfl
theorem rv3 {a0 a1 a2 : zV} : [a0, a1, a2].reverse = [a2, a1, a0] := rfl
theorem rv4 {a0 a1 a2 a3 : zV} : [a0, a1, a2, a3].reverse = [a3, a2, a1, a0] := rfl
theorem rv5 {a0 a1 a2 a3 a4 : zV} : [a0, a1, a2, a3, a4].reverse = [a4, a3, a2, a1, a0] := rfl
theorem rv6 {a0 a1 a2 a3 a4 a5 : zV} : [a0, a1, a2, a3, a4, a5].reverse = [a5, a4, a3, a2, a1, a0] := rfl
theorem rv7 {a0 a1 a2 a3 a4 a5 a6 : zV} : [a0, a1, a2, a3, a4, a5, a6].reverse = [a6, a5, a4, a3, a2, a1, a0] := rfl
theorem sm0 : (List.map zcat []).sum = 0 := rfl
theorem sm1 {v : zV} {r : List zV} : (List.map zcat (v :: r)).sum = zcat v + (List.map zcat r).sum := rfl
theorem bl0 : Nat.ble 0 8 = true := rfl
theorem bl1 : Nat.ble 1 8 = true := rfl
theorem bl2 : Nat.ble 2 8 = true := rfl
theorem bl3 : Nat.ble 3 8 = true := rfl
theorem bl4 : Nat.ble 4 8 = true := rfl
theorem bl5 : Nat.ble 5 8 = true := rfl
theorem bl6 : Nat.ble 6 8 = true := rfl
theorem bl7 : Nat.ble 7 8 = true := rfl
theorem bl8 : Nat.ble 8 8 = true := rfl
theorem tk0 {r : List zV} : List.take 0 r = [] := rfl
theorem ta {b : Bool} : (true && b) = b := rfl
theorem tb : (false || true) = true := rfl
theorem tn0 : Int32.toNatClampNeg 0 = 0 := rfl
theorem tn1 : Int32.toNatClampNeg 1 = 1 := rfl
theorem tn2 : Int32.toNatClampNeg 2 = 2 := rfl
theorem tn3 : Int32.toNatClampNeg 3 = 3 := rfl
theorem tn4 : Int32.toNatClampNeg 4 = 4 := rfl
theorem tn5 : Int32.toNatClampNeg 5 = 5 := rfl
theorem tn6 : Int32.toNatClampNeg 6 = 6 := rfl
theorem tn7 : Int32.toNatClampNeg 7 = 7 := rfl
theorem tn8 : Int32.toNatClampNeg 8 = 8 := rfl
theorem tn9 : Int32.toNatClampNeg 9 = 9 := rfl
theorem tn10 : Int32.toNatClampNeg 10 = 10 := rfl
theorem tn11 : Int32.toNatClampNeg 11 = 11 := rfl
theorem tn12 : Int32.toNatClampNeg 12 = 12 := rfl
theorem zc_31 {b : Bool} : (zsrt 31 == 1 && (zsrt 31 == 1 && (zaux 31 == 0 && (zaux 31 == 0 && b)))) = b := rfl
theorem zc_32 {b : Bool} : (zsrt 32 == 1 && (zsrt 32 == 1 && (zaux 32 == 0 && (zaux 32 == 0 && b)))) = b := rfl
theorem zc_33 {b : Bool} : (zsrt 33 == 1 && (zsrt 33 == 1 && (zaux 33 == 0 && (zaux 33 == 0 && b)))) = b := rfl
theorem zc_34 {b : Bool} : (zsrt 34 == 1 && (zsrt 34 == 1 && (zaux 34 == 0 && (zaux 34 == 0 && b)))) = b := rfl
theorem zc_35 {b : Bool} : (zsrt 35 == 1 && (zsrt 35 == 1 && (zaux 35 == 0 && (zaux 35 == 0 && b)))) = b := rfl
theorem zc_36 {b : Bool} : (zsrt 36 == 1 && (zsrt 36 == 1 && (zaux 36 == 0 && (zaux 36 == 0 && b)))) = b := rfl
theorem zc_37 {b : Bool} : (zsrt 37 == 1 && (zsrt 37 == 1 && (zaux 37 == 0 && (zaux 37 == 0 && b)))) = b := rfl
theorem zc_38 {b : Bool} : (zsrt 38 == 1 && (zsrt 38 == 1 && (zaux 38 == 0 && (zaux 38 == 0 && b)))) = b := rfl
theorem zc_39 {b : Bool} : (zsrt 39 == 1 && (zsrt 39 == 1 && (zaux 39 == 0 && (zaux 39 == 0 && b)))) = b := rfl
theorem zc_40 {b : Bool} : (zsrt 40 == 1 && (zsrt 40 == 1 && (zaux 40 == 0 && (zaux 40 == 0 && b)))) = b := rfl
theorem zc_13 {b : Bool} : (zsrt 13 == 1 && (zsrt 13 == 1 && (zaux 13 == 0 && (zaux 13 == 0 && b)))) = b := rfl
theorem tn76 : Int32.toNatClampNeg 76 = 76 := rfl
