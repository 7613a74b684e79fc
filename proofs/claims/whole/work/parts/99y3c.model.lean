theorem m_init : mX12_plain (fun rr M1 => rr = [] ∧ mX12_keepText (fun rr M2 => rr = [] ∧ RR (newA T00) M2.1 M2.2.1) [refR] M1) [refR] mM0 := by
  refine p_plainR (fun I6 f6 hQ6 => ⟨rfl, ?_⟩)
  refine p_keepCopies (fun w hw => ?_) (fun J I8 j0 j1 j2 j3 j4 kp => p_beginR (fun I9 Ia La f9 r9 fa pa a1 a2 a3 a4 hL => ⟨rfl, ?_⟩))
  · rcases (hQ6.2.2.2.2.2.2.1 w hw).told with u | u
    · rw [u.2]; exact Or.inl rfl
    · rw [u.2]; exact Or.inr rfl
  · refine RR.new hQ6 QW_0 j0 j1 j2 j3 j4 kp f9 r9 fa pa a1 a2 a3 a4 hL ?_ ?_ ?_ (fun i hi => ?_)
    · rw [f6.lo (by omega)]; rfl
    · rw [f6.lo (by omega)]; rfl
    · rw [f6.lo (by omega)]; rfl
    · rw [f6.lo (by omega)]; show fw 90 i = _; unfold fw; rw [if_pos hi]
theorem gB_inj {G : zG} {b : Nat} : yInj cnB (gB G b) := ⟨fun k i k' i' h h' e => adG_inj (Nat.lt_of_lt_of_le h (hleB k)) (Nat.lt_of_lt_of_le h' (hleB k')) e, fun k i hi => by
  have hk := cnB_lt hi
  show b + 155 ≤ b + offG k i
  rcases hk with rfl | hk
  · exact Nat.le_refl _
  · have e : offG k i = 105 + k := offG_hi hk.1
    omega⟩
set_option maxHeartbeats 4000000 in
set_option maxRecDepth 100000 in
/-- the reference's constructor -/
theorem icX12 {G : zG} (b : Nat) : Met G.1 yX12_init (zws yX12_init YX12_init) YX12_init.2.2.2.2 (va_Pc [.ref (b + 155)] (iPre G e0X12 (b + 155))) (va_Qv (fun M : zM => RR (newA T00) M.1 M.2.1) (fun M t => yRep cnB (gB G b) M t.heap) (bA (b + 155))) YX12_init.2.2.2.2.cells YX12_init.2.2.2.2.slots (bA (b + 155)) := by
  refine iMetX_of (by decide) rfl rfl rfl (by decide) (fun X arr h hS hl => ?_)
  obtain ⟨a, ea⟩ : ∃ a, a = b + 155 := ⟨_, rfl⟩
  rw [← ea] at h hS hl
  obtain ⟨hx, hb, hml, hown, hts, hr, hlk, hK, -⟩ := id h
  refine i_obj (pc := 0) h hl rfl wi_1408 wobj1 wobj2 (by decide) (by decide) (by decide +kernel) (by decide +kernel) ?_
  refine mck_1 h hl hS (fun H1 locs1 hS => ?_)
  refine mck_2 h hl hS (fun H1 locs1 hS => ?_)
  refine mck_3 h hl hS (fun H1 locs1 hS => ?_)
  refine mck_4 h hl hS (fun H1 locs1 hS => ?_)
  refine mck_5 h hl hS (fun H1 locs1 hS => ?_)
  refine mck_6 h hl hS (fun H1 locs1 hS => ?_)
  refine mck_7 h hl hS (fun H1 locs1 hS => ?_)
  refine mck_8 h hl hS (fun H1 locs1 hS => ?_)
  refine mck_9 h hl hS (fun H1 locs1 hS => ?_)
  refine mck_10 h hl hS (fun H1 locs1 hS => ?_)
  refine mck_11 h hl hS (fun H1 locs1 hS => ?_)
  refine mck_12 h hl hS (fun H1 locs1 hS => ?_)
  refine mck_13 h hl hS (fun H1 locs1 hS => ?_)
  refine mck_14 h hl hS (fun H1 locs1 hS => ?_)
  refine mck_15 h hl hS (fun H1 locs1 hS => ?_)
  refine mck_16 h hl hS (fun H1 locs1 hS => ?_)
  refine mck_17 h hl hS (fun H1 locs1 hS => ?_)
  refine mck_18 h hl hS (fun H1 locs1 hS => ?_)
  refine mck_19 h hl hS (fun H1 locs1 hS => ?_)
  refine mck_20 h hl hS (fun H1 locs1 hS => ?_)
  refine mck_21 h hl hS (fun H1 locs1 hS => ?_)
  refine mck_22 h hl hS (fun H1 locs1 hS => ?_)
  refine mck_23 h hl hS (fun H1 locs1 hS => ?_)
  refine mck_24 h hl hS (fun H1 locs1 hS => ?_)
  refine mck_25 h hl hS (fun H1 locs1 hS => ?_)
  refine mck_26 h hl hS (fun H1 locs1 hS => ?_)
  refine mck_27 h hl hS (fun H1 locs1 hS => ?_)
  refine mck_28 h hl hS (fun H1 locs1 hS => ?_)
  refine mck_29 h hl hS (fun H1 locs1 hS => ?_)
  refine mck_30 h hl hS (fun H1 locs1 hS => ?_)
  refine mck_31 h hl hS (fun H1 locs1 hS => ?_)
  refine mck_32 h hl hS (fun H1 locs1 hS => ?_)
  refine mck_33 h hl hS (fun H1 locs1 hS => ?_)
  refine mck_34 h hl hS (fun H1 locs1 hS => ?_)
  refine mck_35 h hl hS (fun H1 locs1 hS => ?_)
  refine mck_36 h hl hS (fun H1 locs1 hS => ?_)
  refine mck_37 h hl hS (fun H1 locs1 hS => ?_)
  refine mck_38 h hl hS (fun H1 locs1 hS => ?_)
  refine mck_39 h hl hS (fun H1 locs1 hS => ?_)
  refine mck_40 h hl hS (fun H1 locs1 hS => ?_)
  refine mck_41 h hl hS (fun H1 locs1 hS => ?_)
  refine mck_42 h hl hS (fun H1 locs1 hS => ?_)
  refine mck_43 h hl hS (fun H1 locs1 hS => ?_)
  refine mck_44 h hl hS (fun H1 locs1 hS => ?_)
  refine mck_45 h hl hS (fun H1 locs1 hS => ?_)
  subst ea
  have hM := rB_all hS.1
  have hS2 := hS.2
  refine lv_aload_n hx hb (show decode cX12_init 894 = .ok (.aload_n 0, 1) by decide +kernel) rfl (lv_at hl 0 rfl) ?_
  refine i_callY (cn := cnB) (G9 := gB G b) (k := 12) (i := 0) (pc := 895) h rfl rfl rfl rfl gB_inj ycX12_plain clX12 rfl mdX12_plain ⟨rfl, rfl, by decide, by decide⟩ ⟨wi_1409, wi_1411, wi_48, wi_139, wi_1412⟩ (by decide +kernel) ⟨by decide, by decide⟩ (as := []) m_init (by decide) (fun v hv => absurd hv List.not_mem_nil) rfl rfl hM hS2 hl (fun r M1 H1 locs1 hk hM1 hS1 => ?_)
  obtain ⟨rfl, hk1⟩ := hk
  refine lv_aload_n (pc := 898) hx hb (show decode cX12_init 898 = .ok (.aload_n 0, 1) by decide +kernel) rfl (lv_at hl 0 rfl) ?_
  refine i_callY (cn := cnB) (G9 := gB G b) (k := 12) (i := 0) (pc := 899) h rfl rfl rfl rfl gB_inj ycX12_keepText clX12 rfl mdX12_keepText ⟨rfl, rfl, by decide, by decide⟩ ⟨wi_1413, wi_1415, wi_49, wi_139, wi_1416⟩ (by decide +kernel) ⟨by decide, by decide⟩ (as := []) hk1 (by decide) (fun v hv => absurd hv List.not_mem_nil) rfl rfl hM1 hS1 hl (fun r M2 H2 locs2 hk hM2 hS2 => ?_)
  obtain ⟨rfl, hRR⟩ := hk
  exact W.vret hx hb hr (fun t ht _ => ⟨⟨M2, rfl, hRR, by show yRep cnB (gB G b) M2 t.heap; rw [ht]; exact hM2⟩, hS2.F ht⟩) hS2.2.2 (show decode cX12_init 902 = .ok (.return_, 1) by decide +kernel) hlk
