/-! pictures that agree on the cells that stand -/
theorem wl_same {B n : Nat} {f f' : Nat → va_E} (h : ∀ j, j < n → f j = f' j) : wl B n f = wl B n f' := by
  unfold wl
  exact List.map_congr_left (fun j hj => by rw [h j (List.mem_range.mp hj)])
theorem JL_same {E : EE} {B n : Nat} {s : State} {f f' : Nat → va_E} {H : Heap} {locs : List Loc} (h : ∀ j, j < n → f j = f' j) (hJ : JL E B s n f H locs) : JL E B s n f' H locs := by
  unfold JL at hJ ⊢
  rw [← wl_same h]; exact hJ
