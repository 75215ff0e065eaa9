/-- the words of nest mates -/
def isNest : Cond → Bool
  | .fieldLinkNest .. => true
  | .methodLinkNest .. => true
  | .castable .. => true
  | _ => false
def WN : List Cond := lw_tbl.filter isNest
theorem WN_of {i : Nat} {w : Cond} (h : lw_tbl[i]? = some w) (g : isNest w = true) : w ∈ WN := List.mem_filter.mpr ⟨List.mem_of_getElem? h, g⟩
