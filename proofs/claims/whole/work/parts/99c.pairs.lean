-- BOTH SIDES STAND ALIKE: what holds between two calls of the law, and behind the first of a pair
def JA (A A' : aA) (M : zM) : Prop := RC A' M.1 M.2.2 ∧ RR A M.1 M.2.1 ∧ WW A
abbrev JJ (A : aA) (M : zM) : Prop := JA A A M
theorem kC_fault {A : aA} {M : zM} {w : Int32} (hJ : JJ A M) : mX11_fault (fun rr M' => rr = [.inl (v_fault A w)] ∧ JJ A M') [kbR, .inl w] M := by
  obtain ⟨I, L, P⟩ := M
  obtain ⟨hC, hR, hW⟩ := hJ
  exact c_fault  hC (⟨rfl, hC, hR, hW⟩)
theorem kR_fault {A : aA} {M : zM} {w : Int32} (hJ : JJ A M) : mX12_fault (fun rr M' => rr = [.inl (v_fault A w)] ∧ JJ A M') [refR, .inl w] M := by
  obtain ⟨I, L, P⟩ := M
  obtain ⟨hC, hR, hW⟩ := hJ
  exact r_fault  hR (fun I1 L1 g1 z2 => ⟨rfl, hC.y g1.Y, hR.q g1 z2, hW⟩)
theorem kC_named {A : aA} {M : zM} {w x : Int32} (hJ : JJ A M) : mX11_named (fun rr M' => rr = [.inl (v_named A w x)] ∧ JJ A M') [kbR, .inl w, .inl x] M := by
  obtain ⟨I, L, P⟩ := M
  obtain ⟨hC, hR, hW⟩ := hJ
  exact c_named  hC (⟨rfl, hC, hR, hW⟩)
theorem kR_named {A : aA} {M : zM} {w x : Int32} (hJ : JJ A M) : mX12_named (fun rr M' => rr = [.inl (v_named A w x)] ∧ JJ A M') [refR, .inl w, .inl x] M := by
  obtain ⟨I, L, P⟩ := M
  obtain ⟨hC, hR, hW⟩ := hJ
  exact r_named  hR (fun I1 L1 g1 z2 => ⟨rfl, hC.y g1.Y, hR.q g1 z2, hW⟩)
theorem kC_hand {A : aA} {M : zM} {h w : Int32} (hJ : JJ A M) : mX11_hand (fun rr M' => rr = [.inl (v_hand A h w)] ∧ JJ A M') [kbR, .inl h, .inl w] M := by
  obtain ⟨I, L, P⟩ := M
  obtain ⟨hC, hR, hW⟩ := hJ
  exact c_hand  hC (⟨rfl, hC, hR, hW⟩)
theorem kR_hand {A : aA} {M : zM} {h w : Int32} (hJ : JJ A M) : mX12_hand (fun rr M' => rr = [.inl (v_hand A h w)] ∧ JJ A M') [refR, .inl h, .inl w] M := by
  obtain ⟨I, L, P⟩ := M
  obtain ⟨hC, hR, hW⟩ := hJ
  exact r_hand hW.2.2.2.1.2.2.1 hR (fun I1 L1 g1 z2 => ⟨rfl, hC.y g1.Y, hR.q g1 z2, hW⟩)
theorem kC_wood {A : aA} {M : zM} {h w : Int32} (hJ : JJ A M) : mX11_wood (fun rr M' => rr = [.inl (v_wood A h w)] ∧ JJ A M') [kbR, .inl h, .inl w] M := by
  obtain ⟨I, L, P⟩ := M
  obtain ⟨hC, hR, hW⟩ := hJ
  exact c_wood  hC (⟨rfl, hC, hR, hW⟩)
theorem kR_wood {A : aA} {M : zM} {h w : Int32} (hJ : JJ A M) : mX12_wood (fun rr M' => rr = [.inl (v_wood A h w)] ∧ JJ A M') [refR, .inl h, .inl w] M := by
  obtain ⟨I, L, P⟩ := M
  obtain ⟨hC, hR, hW⟩ := hJ
  exact r_wood hW.2.2.2.1.2.1 hR (fun I1 L1 g1 z2 => ⟨rfl, hC.y g1.Y, hR.q g1 z2, hW⟩)
theorem kC_apart {A : aA} {M : zM} {a b : Int32} (hJ : JJ A M) : mX11_apart (fun rr M' => rr = [.inl (v_apart A a b)] ∧ JJ A M') [kbR, .inl a, .inl b] M := by
  obtain ⟨I, L, P⟩ := M
  obtain ⟨hC, hR, hW⟩ := hJ
  exact c_apart  hC (⟨rfl, hC, hR, hW⟩)
theorem kR_apart {A : aA} {M : zM} {a b : Int32} (hJ : JJ A M) : mX12_apart (fun rr M' => rr = [.inl (v_apart A a b)] ∧ JJ A M') [refR, .inl a, .inl b] M := by
  obtain ⟨I, L, P⟩ := M
  obtain ⟨hC, hR, hW⟩ := hJ
  exact r_apart  hR (fun I1 L1 g1 z2 => ⟨rfl, hC.y g1.Y, hR.q g1 z2, hW⟩)
theorem kC_owns {A : aA} {M : zM} {h : Int32} (hJ : JJ A M) : mX11_owns (fun rr M' => rr = [.inl (v_owns A h)] ∧ JJ A M') [kbR, .inl h] M := by
  obtain ⟨I, L, P⟩ := M
  obtain ⟨hC, hR, hW⟩ := hJ
  exact c_owns  hC (⟨rfl, hC, hR, hW⟩)
theorem kR_owns {A : aA} {M : zM} {h : Int32} (hJ : JJ A M) : mX12_owns (fun rr M' => rr = [.inl (v_owns A h)] ∧ JJ A M') [refR, .inl h] M := by
  obtain ⟨I, L, P⟩ := M
  obtain ⟨hC, hR, hW⟩ := hJ
  exact r_owns  hR (fun I1 L1 g1 z2 => ⟨rfl, hC.y g1.Y, hR.q g1 z2, hW⟩)
theorem kC_own {A : aA} {M : zM} {h : Int32} (hJ : JJ A M) : mX11_own (fun rr M' => rr = [.inl (v_own A h)] ∧ JJ A M') [kbR, .inl h] M := by
  obtain ⟨I, L, P⟩ := M
  obtain ⟨hC, hR, hW⟩ := hJ
  exact c_own  hC (⟨rfl, hC, hR, hW⟩)
theorem kR_own {A : aA} {M : zM} {h : Int32} (hJ : JJ A M) : mX12_own (fun rr M' => rr = [.inl (v_own A h)] ∧ JJ A M') [refR, .inl h] M := by
  obtain ⟨I, L, P⟩ := M
  obtain ⟨hC, hR, hW⟩ := hJ
  exact r_own hW.2.2.2.1.2.2.1 hR (fun I1 L1 g1 z2 => ⟨rfl, hC.y g1.Y, hR.q g1 z2, hW⟩)
theorem kC_holds {A : aA} {M : zM} {h : Int32} (hJ : JJ A M) : mX11_holds (fun rr M' => rr = [.inl (v_holds A h)] ∧ JJ A M') [kbR, .inl h] M := by
  obtain ⟨I, L, P⟩ := M
  obtain ⟨hC, hR, hW⟩ := hJ
  exact c_holds hW.2.2.2.1.1 hC (⟨rfl, hC, hR, hW⟩)
theorem kR_holds {A : aA} {M : zM} {h : Int32} (hJ : JJ A M) : mX12_holds (fun rr M' => rr = [.inl (v_holds A h)] ∧ JJ A M') [refR, .inl h] M := by
  obtain ⟨I, L, P⟩ := M
  obtain ⟨hC, hR, hW⟩ := hJ
  exact r_holds hW.2.2.2.1.1 hW.2.2.2.1.2.1 hR (fun I1 L1 g1 z2 => ⟨rfl, hC.y g1.Y, hR.q g1 z2, hW⟩)
theorem kC_count {A : aA} {M : zM} {w : Int32} (hJ : JJ A M) : mX11_count (fun rr M' => rr = [.inl (v_count A w)] ∧ JJ A M') [kbR, .inl w] M := by
  obtain ⟨I, L, P⟩ := M
  obtain ⟨hC, hR, hW⟩ := hJ
  exact c_count  hC (⟨rfl, hC, hR, hW⟩)
theorem kR_count {A : aA} {M : zM} {w : Int32} (hJ : JJ A M) : mX12_count (fun rr M' => rr = [.inl (v_count A w)] ∧ JJ A M') [refR, .inl w] M := by
  obtain ⟨I, L, P⟩ := M
  obtain ⟨hC, hR, hW⟩ := hJ
  exact r_count hW.2.2.2.1.2.1 hR (fun I1 L1 g1 z2 => ⟨rfl, hC.y g1.Y, hR.q g1 z2, hW⟩)
theorem kC_nearest {A : aA} {M : zM} {w : Int32} (hJ : JJ A M) : mX11_nearest (fun rr M' => rr = [.inl (v_nearest A w)] ∧ JJ A M') [kbR, .inl w] M := by
  obtain ⟨I, L, P⟩ := M
  obtain ⟨hC, hR, hW⟩ := hJ
  exact c_nearest hW.2.1 hC (⟨rfl, hC, hR, hW⟩)
theorem kR_nearest {A : aA} {M : zM} {w : Int32} (hJ : JJ A M) : mX12_nearest (fun rr M' => rr = [.inl (v_nearest A w)] ∧ JJ A M') [refR, .inl w] M := by
  obtain ⟨I, L, P⟩ := M
  obtain ⟨hC, hR, hW⟩ := hJ
  exact r_nearest  hR (fun I1 L1 g1 z2 => ⟨rfl, hC.y g1.Y, hR.q g1 z2, hW⟩)
theorem kC_law {A : aA} {M : zM} {q h w k : Int32} (hJ : JJ A M) : mX11_law (fun rr M' => rr = [.inr (.inl (v_law A q h w k))] ∧ JJ A M') [kbR, .inl q, .inl h, .inl w, .inl k] M := by
  obtain ⟨I, L, P⟩ := M
  obtain ⟨hC, hR, hW⟩ := hJ
  exact c_law  hC (fun L1 z1 => ⟨rfl, hC.q frQ.rf frP.rf, hR.x (frQ.X frQ.rf z1), hW⟩)
theorem kR_law {A : aA} {M : zM} {q h w k : Int32} (hJ : JJ A M) : mX12_law (fun rr M' => rr = [.inr (.inl (v_law A q h w k))] ∧ JJ A M') [refR, .inl q, .inl h, .inl w, .inl k] M := by
  obtain ⟨I, L, P⟩ := M
  obtain ⟨hC, hR, hW⟩ := hJ
  exact r_law  hR (fun I1 L1 g1 z2 => ⟨rfl, hC.y g1.Y, hR.q g1 z2, hW⟩)
theorem kC_whose {A : aA} {M : zM} {x w : Int32} (hJ : JJ A M) : mX11_whose (fun rr M' => rr = [.inl (v_whose A x w)] ∧ JJ A M') [kbR, .inl x, .inl w] M := by
  obtain ⟨I, L, P⟩ := M
  obtain ⟨hC, hR, hW⟩ := hJ
  exact c_whose  hC (fun I1 L1 f1 z1 => ⟨rfl, hC.q f1 frP.rf, hR.x (frQ.X f1 z1), hW⟩)
theorem kR_whose {A : aA} {M : zM} {x w : Int32} (hJ : JJ A M) : mX12_whose (fun rr M' => rr = [.inl (v_whose A x w)] ∧ JJ A M') [refR, .inl x, .inl w] M := by
  obtain ⟨I, L, P⟩ := M
  obtain ⟨hC, hR, hW⟩ := hJ
  exact r_whose hW.2.1 hW.2.2.2.1.2.2.2.1 hR (fun I1 L1 g1 z2 => ⟨rfl, hC.y g1.Y, hR.q g1 z2, hW⟩)
theorem kC_all {A : aA} {M : zM} {x : Int32} (hJ : JJ A M) : mX11_all (fun rr M' => rr = [.inl (v_all A x)] ∧ JJ A M') [kbR, .inl x] M := by
  obtain ⟨I, L, P⟩ := M
  obtain ⟨hC, hR, hW⟩ := hJ
  exact c_all  hC (fun I1 f1 => ⟨rfl, hC.q f1 frP.rf, hR.x (frQ.X f1 zeL2.rf), hW⟩)
theorem kR_all {A : aA} {M : zM} {x : Int32} (hJ : JJ A M) : mX12_all (fun rr M' => rr = [.inl (v_all A x)] ∧ JJ A M') [refR, .inl x] M := by
  obtain ⟨I, L, P⟩ := M
  obtain ⟨hC, hR, hW⟩ := hJ
  exact r_all hW.2.1 hR (fun I1 L1 g1 z2 => ⟨rfl, hC.y g1.Y, hR.q g1 z2, hW⟩)
theorem kC_surest {A : aA} {M : zM} {h : Int32} (hJ : JJ A M) : mX11_surest (fun rr M' => rr = [.inl (v_surest A h)] ∧ JJ A M') [kbR, .inl h] M := by
  obtain ⟨I, L, P⟩ := M
  obtain ⟨hC, hR, hW⟩ := hJ
  exact c_surest  hC (fun L1 z1 => ⟨rfl, hC.q frQ.rf frP.rf, hR.x (frQ.X frQ.rf z1), hW⟩)
theorem kR_surest {A : aA} {M : zM} {h : Int32} (hJ : JJ A M) : mX12_surest (fun rr M' => rr = [.inl (v_surest A h)] ∧ JJ A M') [refR, .inl h] M := by
  obtain ⟨I, L, P⟩ := M
  obtain ⟨hC, hR, hW⟩ := hJ
  exact r_surest  hR (fun I1 L1 g1 z2 => ⟨rfl, hC.y g1.Y, hR.q g1 z2, hW⟩)
theorem kC_likely {A : aA} {M : zM} {h w q : Int32} (hJ : JJ A M) : mX11_likely (fun rr M' => rr = [.inr (.inl (v_likely A h w q))] ∧ JJ A M') [kbR, .inl h, .inl w, .inl q] M := by
  obtain ⟨I, L, P⟩ := M
  obtain ⟨hC, hR, hW⟩ := hJ
  exact c_likely  hC (fun L1 z1 => ⟨rfl, hC.q frQ.rf frP.rf, hR.x (frQ.X frQ.rf z1), hW⟩)
theorem kR_likely {A : aA} {M : zM} {h w q : Int32} (hJ : JJ A M) : mX12_likely (fun rr M' => rr = [.inr (.inl (v_likely A h w q))] ∧ JJ A M') [refR, .inl h, .inl w, .inl q] M := by
  obtain ⟨I, L, P⟩ := M
  obtain ⟨hC, hR, hW⟩ := hJ
  exact r_likely  hR (fun I1 L1 g1 z2 => ⟨rfl, hC.y g1.Y, hR.q g1 z2, hW⟩)
theorem kC_ahead {A : aA} {M : zM} {n w : Int32} (hJ : JJ A M) : mX11_ahead (fun rr M' => rr = [.inl (v_ahead A n w)] ∧ JJ A M') [kbR, .inl n, .inl w] M := by
  obtain ⟨I, L, P⟩ := M
  obtain ⟨hC, hR, hW⟩ := hJ
  exact c_ahead hW.2.1 hW.2.2.2.1.1 hC (fun I1 L1 P1 f1 z1 p1 => ⟨rfl, hC.q f1 p1, hR.x (frQ.X f1 z1), hW⟩)
theorem kR_ahead {A : aA} {M : zM} {n w : Int32} (hJ : JJ A M) : mX12_ahead (fun rr M' => rr = [.inl (v_ahead A n w)] ∧ JJ A M') [refR, .inl n, .inl w] M := by
  obtain ⟨I, L, P⟩ := M
  obtain ⟨hC, hR, hW⟩ := hJ
  exact r_ahead hW.2.1 hW.2.2.2.1.1 hW.2.2.2.1.2.1 hW.2.2.2.1.2.2.2.1 hR (fun I1 L1 g1 z2 => ⟨rfl, hC.y g1.Y, hR.q g1 z2, hW⟩)
theorem kC_fading {A : aA} {M : zM} {n : Int32} (hJ : JJ A M) : mX11_fading (fun rr M' => rr = [.inl (v_fading A n)] ∧ JJ A M') [kbR, .inl n] M := by
  obtain ⟨I, L, P⟩ := M
  obtain ⟨hC, hR, hW⟩ := hJ
  exact c_fading hW.2.1 hW.2.2.2.1.1 hC (fun I1 L1 P1 f1 z1 p1 => ⟨rfl, hC.q f1 p1, hR.x (frQ.X f1 z1), hW⟩)
theorem kR_fading {A : aA} {M : zM} {n : Int32} (hJ : JJ A M) : mX12_fading (fun rr M' => rr = [.inl (v_fading A n)] ∧ JJ A M') [refR, .inl n] M := by
  obtain ⟨I, L, P⟩ := M
  obtain ⟨hC, hR, hW⟩ := hJ
  exact r_fading hW.2.1 hW.2.2.2.1.1 hW.2.2.2.1.2.1 hW.2.2.2.1.2.2.2.1 hR (fun I1 L1 g1 z2 => ⟨rfl, hC.y g1.Y, hR.q g1 z2, hW⟩)
theorem kC_will {A : aA} {M : zM} {h n : Int32} (hJ : JJ A M) : mX11_will (fun rr M' => rr = [.inl (v_will A h n)] ∧ JJ A M') [kbR, .inl h, .inl n] M := by
  obtain ⟨I, L, P⟩ := M
  obtain ⟨hC, hR, hW⟩ := hJ
  exact c_will hW.2.1 hW.2.2.2.1.1 hC (fun I1 L1 P1 f1 z1 p1 => ⟨rfl, hC.q f1 p1, hR.x (frQ.X f1 z1), hW⟩)
theorem kR_will {A : aA} {M : zM} {h n : Int32} (hJ : JJ A M) : mX12_will (fun rr M' => rr = [.inl (v_will A h n)] ∧ JJ A M') [refR, .inl h, .inl n] M := by
  obtain ⟨I, L, P⟩ := M
  obtain ⟨hC, hR, hW⟩ := hJ
  exact r_will hW.2.1 hW.2.2.2.1.1 hW.2.2.2.1.2.1 hW.2.2.2.1.2.2.2.1 hW.2.2.2.1.2.2.1 hR (fun I1 L1 g1 z2 => ⟨rfl, hC.y g1.Y, hR.q g1 z2, hW⟩)
theorem kC_tried {A : aA} {M : zM} {q i n : Int32} (hJ : JJ A M) : mX11_tried (fun rr M' => rr = [.inl (v_tried A q i n)] ∧ JJ A M') [kbR, .inl q, .inl i, .inl n] M := by
  obtain ⟨I, L, P⟩ := M
  obtain ⟨hC, hR, hW⟩ := hJ
  exact c_tried hW.2.1 hW.2.2.2.1.1 hC (fun I1 L1 P1 f1 z1 p1 => ⟨rfl, hC.q f1 p1, hR.x (frQ.X f1 z1), hW⟩)
theorem kR_tried {A : aA} {M : zM} {q i n : Int32} (hJ : JJ A M) : mX12_tried (fun rr M' => rr = [.inl (v_tried A q i n)] ∧ JJ A M') [refR, .inl q, .inl i, .inl n] M := by
  obtain ⟨I, L, P⟩ := M
  obtain ⟨hC, hR, hW⟩ := hJ
  exact r_tried hW.2.1 hW.2.2.2.1.1 hW.2.2.2.1.2.1 hW.2.2.2.1.2.2.2.1 hR (fun I1 L1 g1 z2 => ⟨rfl, hC.y g1.Y, hR.q g1 z2, hW⟩)
theorem kC_warm {A : aA} {M : zM} {h c : Int32} (hJ : JJ A M) : mX11_warm (fun rr M' => rr = [.inl (s_warm A h c).2] ∧ JA A (s_warm A h c).1 M') [kbR, .inl h, .inl c] M := by
  obtain ⟨I, L, P⟩ := M
  obtain ⟨hC, hR, hW⟩ := hJ
  exact c_warm  hC (fun I1 c1 x1 => ⟨rfl, c1, hR.x x1, hW⟩)
theorem kR_warm {A : aA} {M : zM} {h c : Int32} (hJ : JA A (s_warm A h c).1 M) : mX12_warm (fun rr M' => rr = [.inl (s_warm A h c).2] ∧ JJ (s_warm A h c).1 M') [refR, .inl h, .inl c] M := by
  obtain ⟨I, L, P⟩ := M
  obtain ⟨hC, hR, hW⟩ := hJ
  exact r_warm hW.2.2.2.2.2.1.1 hR (fun I1 r1 y1 => ⟨rfl, hC.y y1, r1, W_warm hW⟩)
theorem kC_sell {A : aA} {M : zM} {w h : Int32} (hJ : JJ A M) : mX11_sell (fun rr M' => rr = [.inl (s_sell A w h).2] ∧ JA A (s_sell A w h).1 M') [kbR, .inl w, .inl h] M := by
  obtain ⟨I, L, P⟩ := M
  obtain ⟨hC, hR, hW⟩ := hJ
  exact c_sell  hC (fun I1 c1 x1 => ⟨rfl, c1, hR.x x1, hW⟩)
theorem kR_sell {A : aA} {M : zM} {w h : Int32} (hJ : JA A (s_sell A w h).1 M) : mX12_sell (fun rr M' => rr = [.inl (s_sell A w h).2] ∧ JJ (s_sell A w h).1 M') [refR, .inl w, .inl h] M := by
  obtain ⟨I, L, P⟩ := M
  obtain ⟨hC, hR, hW⟩ := hJ
  exact r_sell hW.2.2.2.2.2.1.1 hR (fun I1 r1 y1 => ⟨rfl, hC.y y1, r1, W_sell hW⟩)
theorem kC_order {A : aA} {M : zM} {r w d : Int32} (hJ : JJ A M) : mX11_order (fun rr M' => rr = [.inl (s_order A r w d).2] ∧ JA A (s_order A r w d).1 M') [kbR, .inl r, .inl w, .inl d] M := by
  obtain ⟨I, L, P⟩ := M
  obtain ⟨hC, hR, hW⟩ := hJ
  exact c_order  hC (fun I1 c1 x1 => ⟨rfl, c1, hR.x x1, hW⟩)
theorem kR_order {A : aA} {M : zM} {r w d : Int32} (hJ : JA A (s_order A r w d).1 M) : mX12_order (fun rr M' => rr = [.inl (s_order A r w d).2] ∧ JJ (s_order A r w d).1 M') [refR, .inl r, .inl w, .inl d] M := by
  obtain ⟨I, L, P⟩ := M
  obtain ⟨hC, hR, hW⟩ := hJ
  exact r_order hW.2.2.2.2.2.1.1 hW.2.2.2.1.2.1 hR (fun I1 r1 y1 => ⟨rfl, hC.y y1, r1, W_order hW⟩)
theorem kC_plane {A : aA} {M : zM} {w : Int32} (hJ : JJ A M) : mX11_plane (fun rr M' => rr = [.inl (s_plane A w).2] ∧ JA A (s_plane A w).1 M') [kbR, .inl w] M := by
  obtain ⟨I, L, P⟩ := M
  obtain ⟨hC, hR, hW⟩ := hJ
  exact c_plane hW.2.2.2.1.2.1 hC (fun I1 c1 x1 => ⟨rfl, c1, hR.x x1, hW⟩)
theorem kR_plane {A : aA} {M : zM} {w : Int32} (hJ : JA A (s_plane A w).1 M) : mX12_plane (fun rr M' => rr = [.inl (s_plane A w).2] ∧ JJ (s_plane A w).1 M') [refR, .inl w] M := by
  obtain ⟨I, L, P⟩ := M
  obtain ⟨hC, hR, hW⟩ := hJ
  exact r_plane hW.2.2.2.2.2.1.1 hW.2.2.2.1.2.1 hR (fun I1 r1 y1 => ⟨rfl, hC.y y1, r1, W_plane hW⟩)
theorem kC_undo {A : aA} {M : zM} (hJ : JJ A M) : mX11_undo (fun rr M' => rr = [.inl (s_undo A).2] ∧ JA A (s_undo A).1 M') [kbR] M := by
  obtain ⟨I, L, P⟩ := M
  obtain ⟨hC, hR, hW⟩ := hJ
  exact c_undo  hC (fun I1 c1 x1 => ⟨rfl, c1, hR.x x1, hW⟩)
theorem kR_undo {A : aA} {M : zM} (hJ : JA A (s_undo A).1 M) : mX12_undo (fun rr M' => rr = [.inl (s_undo A).2] ∧ JJ (s_undo A).1 M') [refR] M := by
  obtain ⟨I, L, P⟩ := M
  obtain ⟨hC, hR, hW⟩ := hJ
  exact r_undo hW.2.2.2.2.2.1 hR (fun I1 r1 y1 => ⟨rfl, hC.y y1, r1, W_undo hW⟩)
theorem kC_keep {A : aA} {M : zM} (hJ : JJ A M) : mX11_keep (fun rr M' => rr = [.inl (s_keep A).2] ∧ JA A (s_keep A).1 M') [kbR] M := by
  obtain ⟨I, L, P⟩ := M
  obtain ⟨hC, hR, hW⟩ := hJ
  exact c_keep  hC (fun I1 P1 c1 x1 => ⟨rfl, c1, hR.x x1, hW⟩)
theorem kC_back {A : aA} {M : zM} (hJ : JJ A M) : mX11_back (fun rr M' => rr = [.inl (s_back A).2] ∧ JA A (s_back A).1 M') [kbR] M := by
  obtain ⟨I, L, P⟩ := M
  obtain ⟨hC, hR, hW⟩ := hJ
  exact c_back  hC (fun I1 P1 c1 x1 => ⟨rfl, c1, hR.x x1, hW⟩)
theorem kR_keep {A : aA} {M : zM} (hJ : JA A (s_keep A).1 M) : mX12_keep (fun rr M' => rr = [.inl (s_keep A).2] ∧ JJ (s_keep A).1 M') [refR] M := by
  obtain ⟨I, L, P⟩ := M
  obtain ⟨hC, hR, hW⟩ := hJ
  exact r_keep  hR (fun I1 L1 r1 y1 => ⟨rfl, hC.y y1, r1, W_keep hW⟩)
theorem kR_back {A : aA} {M : zM} (hJ : JA A (s_back A).1 M) : mX12_back (fun rr M' => rr = [.inl (s_back A).2] ∧ JJ (s_back A).1 M') [refR] M := by
  obtain ⟨I, L, P⟩ := M
  obtain ⟨hC, hR, hW⟩ := hJ
  exact r_back hW.2.2.2.2.1 hR (fun I1 L1 r1 y1 => ⟨rfl, hC.y y1, r1, W_back hW⟩)
theorem kC_days {A : aA} {M : zM} {n : Int32} (hJ : JJ A M) : mX11_days (fun rr M' => rr = [.inl (s_days A n).2] ∧ JA A (s_days A n).1 M') [kbR, .inl n] M := by
  obtain ⟨I, L, P⟩ := M
  obtain ⟨hC, hR, hW⟩ := hJ
  exact c_days hW.2.1 hW.2.2.2.1.1 hC (fun I1 L1 c1 x1 => ⟨rfl, c1, hR.x x1, hW⟩)
theorem kR_days {A : aA} {M : zM} {n : Int32} (hJ : JA A (s_days A n).1 M) : mX12_days (fun rr M' => rr = [.inl (s_days A n).2] ∧ JJ (s_days A n).1 M') [refR, .inl n] M := by
  obtain ⟨I, L, P⟩ := M
  obtain ⟨hC, hR, hW⟩ := hJ
  exact r_days hW.2.1 hW.2.2.2.1.1 hW.2.2.2.1.2.1 hW.2.2.2.1.2.2.2.1 hR (fun I1 L1 r1 y1 => ⟨rfl, hC.y y1, r1, W_days hW r1.2.2.2.2.1.1⟩)
theorem kC_hear {A : aA} {M : zM} {r k x : Int32} (hx : zb x) (hJ : JJ A M) : mX11_hear (fun rr M' => rr = [.inl (s_hear A r k x).2] ∧ JA A (s_hear A r k x).1 M') [kbR, .inl r, .inl k, .inl x] M := by
  obtain ⟨I, L, P⟩ := M
  obtain ⟨hC, hR, hW⟩ := hJ
  exact c_hear hx hC (fun I1 c1 x1 => ⟨rfl, c1, hR.x x1, hW⟩)
theorem kR_hear {A : aA} {M : zM} {r k x : Int32} (hx : zb x) (hJ : JA A (s_hear A r k x).1 M) : mX12_hear (fun rr M' => rr = [.inl (s_hear A r k x).2] ∧ JJ (s_hear A r k x).1 M') [refR, .inl r, .inl k, .inl x] M := by
  obtain ⟨I, L, P⟩ := M
  obtain ⟨hC, hR, hW⟩ := hJ
  exact r_hear hW.2.2.2.2.2.2.1.1 hx hR (fun I1 r1 y1 => ⟨rfl, hC.y y1, r1, W_hear hW⟩)
theorem kC_strike {A : aA} {M : zM} {h : Int32} (hJ : JJ A M) : mX11_strike (fun rr M' => rr = [.inl (s_strike A h).2] ∧ JA A (s_strike A h).1 M') [kbR, .inl h] M := by
  obtain ⟨I, L, P⟩ := M
  obtain ⟨hC, hR, hW⟩ := hJ
  exact c_strike  hC (fun I1 c1 x1 => ⟨rfl, c1, hR.x x1, hW⟩)
theorem kR_strike {A : aA} {M : zM} {h : Int32} (hJ : JA A (s_strike A h).1 M) : mX12_strike (fun rr M' => rr = [.inl (s_strike A h).2] ∧ JJ (s_strike A h).1 M') [refR, .inl h] M := by
  obtain ⟨I, L, P⟩ := M
  obtain ⟨hC, hR, hW⟩ := hJ
  exact r_strike hW.2.2.2.2.2.2.1.1 hR (fun I1 r1 y1 => ⟨rfl, hC.y y1, r1, W_strike hW⟩)
theorem kC_known {A : aA} {M : zM} {n : Int32} (hJ : JJ A M) : mX11_known (fun rr M' => rr = [.inl (s_known A n).2] ∧ JA A (s_known A n).1 M') [kbR, .inl n] M := by
  obtain ⟨I, L, P⟩ := M
  obtain ⟨hC, hR, hW⟩ := hJ
  exact c_known  hC (fun I1 c1 x1 => ⟨rfl, c1, hR.x x1, hW⟩)
theorem kR_known {A : aA} {M : zM} {n : Int32} (hJ : JA A (s_known A n).1 M) : mX12_known (fun rr M' => rr = [.inl (s_known A n).2] ∧ JJ (s_known A n).1 M') [refR, .inl n] M := by
  obtain ⟨I, L, P⟩ := M
  obtain ⟨hC, hR, hW⟩ := hJ
  exact r_known  hR (fun I1 r1 y1 => ⟨rfl, hC.y y1, r1, W_known hW⟩)
theorem kC_feed {A : aA} {M : zM} {a b c d e : Int32} (hJ : JJ A M) : mX11_feed (fun rr M' => rr = [.inl (s_feed A a b c d e).2] ∧ JA A (s_feed A a b c d e).1 M') [kbR, .inl a, .inl b, .inl c, .inl d, .inl e] M := by
  obtain ⟨I, L, P⟩ := M
  obtain ⟨hC, hR, hW⟩ := hJ
  exact c_feed  hC (fun I1 c1 x1 => ⟨rfl, c1, hR.x x1, hW⟩)
theorem kR_feed {A : aA} {M : zM} {a b c d e : Int32} (hJ : JA A (s_feed A a b c d e).1 M) : mX12_feed (fun rr M' => rr = [.inl (s_feed A a b c d e).2] ∧ JJ (s_feed A a b c d e).1 M') [refR, .inl a, .inl b, .inl c, .inl d, .inl e] M := by
  obtain ⟨I, L, P⟩ := M
  obtain ⟨hC, hR, hW⟩ := hJ
  exact r_feed hW.2.2.2.2.2.2.2.1 hR (fun I1 r1 y1 => ⟨rfl, hC.y y1, r1, W_feed hW⟩)
theorem kC_rests {A : aA} {M : zM} {h w : Int32} (hJ : JJ A M) : mX11_rests (fun rr M' => rr = [.inl (v_rests A h w)] ∧ JJ A M') [kbR, .inl h, .inl w] M := by
  obtain ⟨I, L, P⟩ := M
  obtain ⟨hC, hR, hW⟩ := hJ
  exact c_rests  hC (fun I1 L1 f1 z1 => ⟨rfl, hC.q f1 frP.rf, hR.x (frQ.X f1 z1), hW⟩)
theorem kC_rest {A : aA} {M : zM} {h w k : Int32} (hJ : JJ A M) : mX11_rest (fun rr M' => rr = [.inl (v_rest A h w k)] ∧ JJ A M') [kbR, .inl h, .inl w, .inl k] M := by
  obtain ⟨I, L, P⟩ := M
  obtain ⟨hC, hR, hW⟩ := hJ
  exact c_rest  hC (fun I1 L1 f1 z1 => ⟨rfl, hC.q f1 frP.rf, hR.x (frQ.X f1 z1), hW⟩)
theorem kR_rests {A : aA} {M : zM} {h w : Int32} (hJ : JJ A M) : mX12_rests (fun rr M' => rr = [.inl (v_rests A h w)] ∧ JJ A M') [refR, .inl h, .inl w] M := by
  obtain ⟨I, L, P⟩ := M
  obtain ⟨hC, hR, hW⟩ := hJ
  exact r_rests hW.2.2.2.1.2.2.2.1 hR (fun I1 L1 g1 z2 => ⟨rfl, hC.y g1.Y, hR.q g1 z2, hW⟩)
theorem kR_rest {A : aA} {M : zM} {h w k : Int32} (hJ : JJ A M) : mX12_rest (fun rr M' => rr = [.inl (v_rest A h w k)] ∧ JJ A M') [refR, .inl h, .inl w, .inl k] M := by
  obtain ⟨I, L, P⟩ := M
  obtain ⟨hC, hR, hW⟩ := hJ
  exact r_rest hW.2.2.2.1.2.2.2.1 hR (fun I1 L1 g1 z2 => ⟨rfl, hC.y g1.Y, hR.q g1 z2, hW⟩)
theorem kC_chance {A : aA} {M : zM} {x n r : Int32} (hJ : JJ A M) : mX11_chance (fun rr M' => rr = [.inl (v_chance A x n r)] ∧ JJ A M') [kbR, .inl x, .inl n, .inl r] M := by
  obtain ⟨I, L, P⟩ := M
  obtain ⟨hC, hR, hW⟩ := hJ
  exact c_chance hW.2.1 hW.2.2.2.1.1 hC (fun I1 L1 P1 f1 z1 p1 => ⟨rfl, hC.q f1 p1, hR.x (frQ.X f1 z1), hW⟩)
theorem kR_chance {A : aA} {M : zM} {x n r : Int32} (hJ : JJ A M) : mX12_chance (fun rr M' => rr = [.inl (v_chance A x n r)] ∧ JJ A M') [refR, .inl x, .inl n, .inl r] M := by
  obtain ⟨I, L, P⟩ := M
  obtain ⟨hC, hR, hW⟩ := hJ
  exact r_chance hW.2.1 hW.2.2.2.1.1 hW.2.2.2.1.2.1 hW.2.2.2.1.2.2.2.1 hR (fun I1 L1 g1 z2 => ⟨rfl, hC.y g1.Y, hR.q g1 z2, hW⟩)
theorem kC_anew {A : aA} {M : zM} {x : Int32} (hJ : JJ A M) : mX11_anew (fun rr M' => rr = [.inl (v_anew A x)] ∧ JJ A M') [kbR, .inl x] M := by
  obtain ⟨I, L, P⟩ := M
  obtain ⟨hC, hR, hW⟩ := hJ
  exact c_anew hW.2.1 hC (fun I1 c1 x1 => ⟨rfl, c1, hR.x x1, hW⟩)
theorem kR_anew {A : aA} {M : zM} {x : Int32} (hJ : JJ A M) : mX12_anew (fun rr M' => rr = [.inl (v_anew A x)] ∧ JJ A M') [refR, .inl x] M := by
  obtain ⟨I, L, P⟩ := M
  obtain ⟨hC, hR, hW⟩ := hJ
  exact r_anew  hR (fun I1 g1 => ⟨rfl, hC.y g1.Y, hR.q g1 zeLr.rf, hW⟩)
theorem kC_forge {A : aA} {M : zM} {h o w x : Int32} (hJ : JJ A M) : mX11_forge (fun rr M' => rr = [.inl (v_forge A h o w x)] ∧ JJ A M') [kbR, .inl h, .inl o, .inl w, .inl x] M := by
  obtain ⟨I, L, P⟩ := M
  obtain ⟨hC, hR, hW⟩ := hJ
  exact c_forge hW.2.1 hC (fun I1 L1 f1 z1 => ⟨rfl, hC.q f1 frP.rf, hR.x (frQ.X f1 z1), hW⟩)
theorem kR_forge {A : aA} {M : zM} {h o w x : Int32} (hJ : JJ A M) : mX12_forge (fun rr M' => rr = [.inl (v_forge A h o w x)] ∧ JJ A M') [refR, .inl h, .inl o, .inl w, .inl x] M := by
  obtain ⟨I, L, P⟩ := M
  obtain ⟨hC, hR, hW⟩ := hJ
  exact r_forge hW.2.1 hW.2.2.2.1.2.2.2.1 hR (fun I1 L1 g1 z2 => ⟨rfl, hC.y g1.Y, hR.q g1 z2, hW⟩)
theorem kC_places {A : aA} {M : zM} (hJ : JJ A M) : mX11_places (fun rr M' => rr = [.inl (v_places A)] ∧ JJ A M') [kbR] M := by
  obtain ⟨I, L, P⟩ := M
  obtain ⟨hC, hR, hW⟩ := hJ
  exact c_places  hC (⟨rfl, hC, hR, hW⟩)
theorem kR_places {A : aA} {M : zM} (hJ : JJ A M) : mX12_places (fun rr M' => rr = [.inl (v_places A)] ∧ JJ A M') [refR] M := by
  obtain ⟨I, L, P⟩ := M
  obtain ⟨hC, hR, hW⟩ := hJ
  exact r_places  hR (fun I1 g1 => ⟨rfl, hC.y g1.Y, hR.q g1 zeLr.rf, hW⟩)
theorem kC_joint {A : aA} {M : zM} {s x : Int32} (hJ : JJ A M) : mX11_joint (fun rr M' => rr = [.inl (v_joint A s x)] ∧ JJ A M') [kbR, .inl s, .inl x] M := by
  obtain ⟨I, L, P⟩ := M
  obtain ⟨hC, hR, hW⟩ := hJ
  exact c_joint  hC (fun I1 P1 f1 p1 => ⟨rfl, hC.q f1 p1, hR.x (frQ.X f1 zeL2.rf), hW⟩)
theorem kR_joint {A : aA} {M : zM} {s x : Int32} (hJ : JJ A M) : mX12_joint (fun rr M' => rr = [.inl (v_joint A s x)] ∧ JJ A M') [refR, .inl s, .inl x] M := by
  obtain ⟨I, L, P⟩ := M
  obtain ⟨hC, hR, hW⟩ := hJ
  exact r_joint  hR (fun I1 g1 => ⟨rfl, hC.y g1.Y, hR.q g1 zeLr.rf, hW⟩)
theorem kC_colds {A : aA} {M : zM} {h : Int32} (hJ : JJ A M) : mX11_colds (fun rr M' => rr = [.inl (v_colds A h)] ∧ JJ A M') [kbR, .inl h] M := by
  obtain ⟨I, L, P⟩ := M
  obtain ⟨hC, hR, hW⟩ := hJ
  exact c_colds hW.2.1 hW.2.2.1 hC (fun I1 L1 P1 f1 z1 p1 => ⟨rfl, hC.q f1 p1, hR.x (frQ.X f1 z1), hW⟩)
theorem kR_colds {A : aA} {M : zM} {h : Int32} (hJ : JJ A M) : mX12_colds (fun rr M' => rr = [.inl (v_colds A h)] ∧ JJ A M') [refR, .inl h] M := by
  obtain ⟨I, L, P⟩ := M
  obtain ⟨hC, hR, hW⟩ := hJ
  exact r_colds hW.2.1 hW.2.2.1 hW.2.2.2.2.2.2.1 hR (fun I1 L1 g1 z2 => ⟨rfl, hC.y g1.Y, hR.q g1 z2, hW⟩)
theorem kC_text {A : aA} {M : zM} {x : Int32} (hJ : JJ A M) : mX11_text (fun rr M' => rr = [.inl (s_text A x).2] ∧ JA A (s_text A x).1 M') [kbR, .inl x] M := by
  obtain ⟨I, L, P⟩ := M
  obtain ⟨hC, hR, hW⟩ := hJ
  exact c_text hW.2.2.2.2.2.2.2 hC (fun I1 P1 c1 x1 => ⟨rfl, c1, hR.x x1, hW⟩)
theorem kR_text {A : aA} {M : zM} {x : Int32} (hJ : JA A (s_text A x).1 M) : mX12_text (fun rr M' => rr = [.inl (s_text A x).2] ∧ JJ (s_text A x).1 M') [refR, .inl x] M := by
  obtain ⟨I, L, P⟩ := M
  obtain ⟨hC, hR, hW⟩ := hJ
  exact r_text hW.2.2.2.2.2.2.2 hR (fun I1 L1 r1 y1 => ⟨rfl, hC.y y1, r1, W_text hW⟩)
