/-- the tables' words that stay good over a call -/
def zgw : List Cond := lw_tbl.filter goodWord
theorem zgw_of {w : Cond} (i : Nat) (h : lw_tbl[i]? = some w) (hg : goodWord w = true) : w ∈ zgw := List.mem_filter.mpr ⟨List.mem_of_getElem? h, hg⟩
theorem zgw_good : ∀ w ∈ zgw, goodWord w = true := fun w h => (List.mem_filter.mp h).2
theorem zgw_tbl : ∀ w ∈ zgw, w ∈ lw_tbl := fun w h => (List.mem_filter.mp h).1
theorem zgw_in {ws : List Cond} (h : ∀ w ∈ ws, w ∈ zgw) : GoodIn zgw ws := fun w hw => ⟨h w hw, good_of_word (zgw_good w (h w hw))⟩
def znest : List Cond := [.methodLinkNest "KnockBank$Scene" 174 ⟨"KnockBank", "digitsOf", "([I)I"⟩ "KnockBank"]
