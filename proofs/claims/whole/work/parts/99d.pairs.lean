theorem kR_rap {A : aA} {M : zM} {r x : Int32} (hJ : JJ A M) : mX12_rap (fun rr M' => rr = [.inl (v_rap A r x).2] ∧ JJ A M' ∧ M'.1 12 0 2 = (v_rap A r x).1) [refR, .inl r, .inl x] M := by
  obtain ⟨I, L, P⟩ := M
  obtain ⟨hC, hR, hW⟩ := hJ
  exact r_rap hR (fun I1 g1 t1 => ⟨rfl, ⟨hC.y g1.Y, hR.q g1 zeLr.rf, hW⟩, t1⟩)
theorem kR_thrown {A : aA} {M : zM} {v : Int32} (hJ : JJ A M) (ht : M.1 12 0 2 = v) : mX12_thrown (fun rr M' => rr = [.inl v] ∧ JJ A M') [refR] M := by
  obtain ⟨I, L, P⟩ := M
  subst ht
  exact p_thrown ⟨rfl, hJ⟩
