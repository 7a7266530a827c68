/-! the other cells of the picture -/
theorem pcT_0 {E : EE} {B : Nat} {g : GS} : pcT E B g 0 = .inr (6, [.ref (B + wo 0), .ref (B + wo 1), .ref (B + 83), .ref (B + 372), .ref (B + 455), .ref (B + 456), .ref (B + 458)]) := rfl
theorem pcT_83 {E : EE} {B : Nat} {g : GS} : pcT E B g 83 = .inr (2, [.ref (B + 84), .int (g.2.1 0), .int (g.2.1 1)]) := rfl
theorem pcT_84 {E : EE} {B : Nat} {g : GS} : pcT E B g 84 = .inl (E.2 4, 7, rfs 7 (fun i => B + wo (2 + i))) := rfl
theorem pcT_372 {E : EE} {B : Nat} {g : GS} : pcT E B g 372 = .inl (E.2 4, 2, rfs 2 (fun i => B + wo (9 + i))) := rfl
theorem pcT_455 {E : EE} {B : Nat} {g : GS} : pcT E B g 455 = .inl (E.2 1, 2, .inl (tr 2 (fun j => g.2.1 (10 + j)))) := rfl
theorem pcT_456 {E : EE} {B : Nat} {g : GS} : pcT E B g 456 = .inr (4, [.ref (B + 457), .int (g.2.1 3)]) := rfl
theorem pcT_457 {E : EE} {B : Nat} {g : GS} : pcT E B g 457 = .inl (E.2 0, 80, .inl (tr 80 (fun j => g.2.1 (100 + j)))) := rfl
theorem pcT_458 {E : EE} {B : Nat} {g : GS} : pcT E B g 458 = .inr (3, [.ref (B + 456), .int (g.2.1 4), .int (g.2.1 5), .int (g.2.1 6), .int (g.2.1 7), .int (g.2.1 8)]) := rfl
theorem pcT_off {E : EE} {B o : Nat} {g : GS} (h : ¬ inW o) (h2 : o < 459) : o = 0 ∨ o = 83 ∨ o = 84 ∨ o = 372 ∨ o = 455 ∨ o = 456 ∨ o = 457 ∨ o = 458 := by
  unfold inW at h; omega
/-- which cell holds the int j of the class's other cells, of the reference's -/
def oc (j : Nat) : Nat := if j < 2 then 83 else if j < 4 then 456 else if j < 9 then 458 else if j < 12 then 455 else 457
theorem tr_eq {n : Nat} {f f' : Row} (h : ∀ j, j < n → f j = f' j) : tr n f = tr n f' := by
  funext j
  unfold tr
  by_cases hj : j < n
  · rw [if_pos hj, if_pos hj, h j hj]
  · rw [if_neg hj, if_neg hj]
theorem pcT_C {E : EE} {B j o : Nat} {g : GS} {c : Row} {v : Int32} (h : ¬ o = oc j) (ho : o < 459) : pcT E B (upC g (upd c j v)) o = pcT E B (upC g c) o := by
  have U : ∀ i, oc i = o → upd c j v i = c i := fun i hi => if_neg (fun q => h (by rw [← q]; exact hi.symm))
  by_cases hi : inW o
  · obtain ⟨k', r, hk', hr, rfl⟩ := inW_of hi
    rw [pcT_W hk' hr, pcT_W hk' hr]; rfl
  rcases pcT_off (E := E) (B := B) (g := g) hi ho with rfl | rfl | rfl | rfl | rfl | rfl | rfl | rfl
  · rfl
  · rw [pcT_83, pcT_83]; show Sum.inr (2, [Value.ref (B + 84), .int (upd c j v 0), .int (upd c j v 1)]) = _; rw [U 0 rfl, U 1 rfl]; rfl
  · rfl
  · rfl
  · rw [pcT_455, pcT_455]; show Sum.inl (E.2 1, 2, Sum.inl (tr 2 (fun i => upd c j v (10 + i)))) = _; rw [tr_eq (f' := fun i => c (10 + i)) (fun i hi => U (10 + i) (by unfold oc; rw [if_neg (by omega), if_neg (by omega), if_neg (by omega), if_pos (by omega)]))]; rfl
  · rw [pcT_456, pcT_456]; show Sum.inr (4, [Value.ref (B + 457), .int (upd c j v 3)]) = _; rw [U 3 rfl]; rfl
  · rw [pcT_457, pcT_457]; show Sum.inl (E.2 0, 80, Sum.inl (tr 80 (fun i => upd c j v (100 + i)))) = _; rw [tr_eq (f' := fun i => c (100 + i)) (fun i hi => U (100 + i) (by unfold oc; rw [if_neg (by omega), if_neg (by omega), if_neg (by omega), if_neg (by omega)]))]; rfl
  · rw [pcT_458, pcT_458]; show Sum.inr (3, [Value.ref (B + 456), .int (upd c j v 4), .int (upd c j v 5), .int (upd c j v 6), .int (upd c j v 7), .int (upd c j v 8)]) = _; rw [U 4 rfl, U 5 rfl, U 6 rfl, U 7 rfl, U 8 rfl]; rfl
theorem pcT_upC {E : EE} {B j : Nat} {g : GS} {c : Row} {v : Int32} {e : va_E} (hj : oc j < 459) (he : pcT E B (upC g (upd c j v)) (oc j) = e) : wl B 459 (va_up (pcT E B (upC g c)) (oc j) e) = wl B 459 (pcT E B (upC g (upd c j v))) := by
  apply List.map_congr_left
  intro o ho
  have hl := List.mem_range.mp ho
  by_cases h : o = oc j
  · subst h; rw [he]; exact congrArg _ (if_pos rfl)
  · rw [pcT_C h hl]; exact congrArg _ (if_neg h)