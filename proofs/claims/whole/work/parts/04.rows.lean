/-! the other cells of the picture -/
theorem pcT_0 {E : EE} {B : Nat} {g : GS} : pcT E B g 0 = .inr (6, [.ref (B + wo 0), .ref (B + wo 1), .ref (B + 83), .ref (B + 372), .ref (B + 455), .ref (B + 456), .ref (B + 458)]) := rfl
theorem pcT_83 {E : EE} {B : Nat} {g : GS} : pcT E B g 83 = .inr (2, [.ref (B + 84), .int (g.2.1 0), .int (g.2.1 1)]) := rfl
theorem pcT_84 {E : EE} {B : Nat} {g : GS} : pcT E B g 84 = .inl (E.2 4, 7, rfs 7 (fun i => B + wo (2 + i))) := rfl
theorem pcT_372 {E : EE} {B : Nat} {g : GS} : pcT E B g 372 = .inl (E.2 4, 2, rfs 2 (fun i => B + wo (9 + i))) := rfl
theorem pcT_455 {E : EE} {B : Nat} {g : GS} : pcT E B g 455 = .inl (E.2 1, 2, .inl (tr 2 (fun j => g.2.1 (10 + j)))) := rfl
theorem pcT_456 {E : EE} {B : Nat} {g : GS} : pcT E B g 456 = .inr (4, [.ref (B + 457), .int (g.2.1 3)]) := rfl
theorem pcT_457 {E : EE} {B : Nat} {g : GS} : pcT E B g 457 = .inl (E.2 0, 80, .inl (tr 80 (fun j => g.2.1 (100 + j)))) := rfl
theorem pcT_458 {E : EE} {B : Nat} {g : GS} : pcT E B g 458 = .inr (3, [.ref (B + 456), .int (g.2.1 4), .int (g.2.1 5), .int (g.2.1 6), .int (g.2.1 7), .int (g.2.1 8)]) := rfl
theorem pcT_459 {E : EE} {B : Nat} {g : GS} : pcT E B g 459 = .inr (7, [.ref (B + 460), .int (g.2.2.2 0), .ref (B + 461), .ref (B + 462), .int (g.2.2.2 1), .int (g.2.2.2 2), .int (g.2.2.2 3), .int (g.2.2.2 4), .int (g.2.2.2 5), .int (g.2.2.2 6), .ref (B + 463)]) := rfl
theorem pcT_460 {E : EE} {B : Nat} {g : GS} : pcT E B g 460 = .inl (E.2 0, 3600, .inl (tr 3600 (fun j => g.2.2.1 (j / 360) (j % 360)))) := rfl
theorem pcT_461 {E : EE} {B : Nat} {g : GS} : pcT E B g 461 = .inl (E.2 1, 2, .inl (tr 2 (fun j => g.2.2.2 (10 + j)))) := rfl
theorem pcT_462 {E : EE} {B : Nat} {g : GS} : pcT E B g 462 = .inl (E.2 0, 80, .inl (tr 80 (fun j => g.2.2.2 (100 + j)))) := rfl
theorem pcT_463 {E : EE} {B : Nat} {g : GS} : pcT E B g 463 = .inl (E.2 0, 8, .inl (tr 8 (fun j => g.2.2.2 (200 + j)))) := rfl
theorem pcT_off {E : EE} {B o : Nat} {g : GS} (h : ¬ inW o) (h2 : o < 464) : o = 0 ∨ o = 83 ∨ o = 84 ∨ o = 372 ∨ o = 455 ∨ o = 456 ∨ o = 457 ∨ o = 458 ∨ o = 459 ∨ o = 460 ∨ o = 461 ∨ o = 462 ∨ o = 463 := by
  unfold inW at h; omega
/-- which cell holds the int j of the class's other cells, of the reference's -/
def oc (j : Nat) : Nat := if j < 2 then 83 else if j < 4 then 456 else if j < 9 then 458 else if j < 12 then 455 else 457
def oR (j : Nat) : Nat := if j < 7 then 459 else if j < 12 then 461 else if j < 200 then 462 else 463
theorem tr_eq {n : Nat} {f f' : Row} (h : ∀ j, j < n → f j = f' j) : tr n f = tr n f' := by
  funext j
  unfold tr
  by_cases hj : j < n
  · rw [if_pos hj, if_pos hj, h j hj]
  · rw [if_neg hj, if_neg hj]
theorem pcT_C {E : EE} {B j o : Nat} {g : GS} {c : Row} {v : Int32} (h : ¬ o = oc j) (ho : o < 464) : pcT E B (upC g (upd c j v)) o = pcT E B (upC g c) o := by
  have U : ∀ i, oc i = o → upd c j v i = c i := fun i hi => if_neg (fun q => h (by rw [← q]; exact hi.symm))
  by_cases hi : inW o
  · obtain ⟨k', r, hk', hr, rfl⟩ := inW_of hi
    rw [pcT_W hk' hr, pcT_W hk' hr]; rfl
  rcases pcT_off (E := E) (B := B) (g := g) hi ho with rfl | rfl | rfl | rfl | rfl | rfl | rfl | rfl | rfl | rfl | rfl | rfl | rfl
  · rfl
  · rw [pcT_83, pcT_83]; show Sum.inr (2, [Value.ref (B + 84), .int (upd c j v 0), .int (upd c j v 1)]) = _; rw [U 0 rfl, U 1 rfl]; rfl
  · rfl
  · rfl
  · rw [pcT_455, pcT_455]; show Sum.inl (E.2 1, 2, Sum.inl (tr 2 (fun i => upd c j v (10 + i)))) = _; rw [tr_eq (f' := fun i => c (10 + i)) (fun i hi => U (10 + i) (by unfold oc; rw [if_neg (by omega), if_neg (by omega), if_neg (by omega), if_pos (by omega)]))]; rfl
  · rw [pcT_456, pcT_456]; show Sum.inr (4, [Value.ref (B + 457), .int (upd c j v 3)]) = _; rw [U 3 rfl]; rfl
  · rw [pcT_457, pcT_457]; show Sum.inl (E.2 0, 80, Sum.inl (tr 80 (fun i => upd c j v (100 + i)))) = _; rw [tr_eq (f' := fun i => c (100 + i)) (fun i hi => U (100 + i) (by unfold oc; rw [if_neg (by omega), if_neg (by omega), if_neg (by omega), if_neg (by omega)]))]; rfl
  · rw [pcT_458, pcT_458]; show Sum.inr (3, [Value.ref (B + 456), .int (upd c j v 4), .int (upd c j v 5), .int (upd c j v 6), .int (upd c j v 7), .int (upd c j v 8)]) = _; rw [U 4 rfl, U 5 rfl, U 6 rfl, U 7 rfl, U 8 rfl]; rfl
  · rfl
  · rfl
  · rfl
  · rfl
  · rfl
theorem pcT_R {E : EE} {B j o : Nat} {g : GS} {c : Row} {v : Int32} (h : ¬ o = oR j) (ho : o < 464) : pcT E B (upR g (upd c j v)) o = pcT E B (upR g c) o := by
  have U : ∀ i, oR i = o → upd c j v i = c i := fun i hi => if_neg (fun q => h (by rw [← q]; exact hi.symm))
  by_cases hi : inW o
  · obtain ⟨k', r, hk', hr, rfl⟩ := inW_of hi
    rw [pcT_W hk' hr, pcT_W hk' hr]; rfl
  rcases pcT_off (E := E) (B := B) (g := g) hi ho with rfl | rfl | rfl | rfl | rfl | rfl | rfl | rfl | rfl | rfl | rfl | rfl | rfl
  · rfl
  · rfl
  · rfl
  · rfl
  · rfl
  · rfl
  · rfl
  · rfl
  · rw [pcT_459, pcT_459]; show Sum.inr (7, [Value.ref (B + 460), .int (upd c j v 0), .ref (B + 461), .ref (B + 462), .int (upd c j v 1), .int (upd c j v 2), .int (upd c j v 3), .int (upd c j v 4), .int (upd c j v 5), .int (upd c j v 6), .ref (B + 463)]) = _; rw [U 0 rfl, U 1 rfl, U 2 rfl, U 3 rfl, U 4 rfl, U 5 rfl, U 6 rfl]; rfl
  · rfl
  · rw [pcT_461, pcT_461]; show Sum.inl (E.2 1, 2, Sum.inl (tr 2 (fun i => upd c j v (10 + i)))) = _; rw [tr_eq (f' := fun i => c (10 + i)) (fun i hi => U (10 + i) (by unfold oR; rw [if_neg (by omega), if_pos (by omega)]))]; rfl
  · rw [pcT_462, pcT_462]; show Sum.inl (E.2 0, 80, Sum.inl (tr 80 (fun i => upd c j v (100 + i)))) = _; rw [tr_eq (f' := fun i => c (100 + i)) (fun i hi => U (100 + i) (by unfold oR; rw [if_neg (by omega), if_neg (by omega), if_pos (by omega)]))]; rfl
  · rw [pcT_463, pcT_463]; show Sum.inl (E.2 0, 8, Sum.inl (tr 8 (fun i => upd c j v (200 + i)))) = _; rw [tr_eq (f' := fun i => c (200 + i)) (fun i hi => U (200 + i) (by unfold oR; rw [if_neg (by omega), if_neg (by omega), if_neg (by omega)]))]; rfl
/-- the rows of the reference stand in one array -/
theorem pcT_S {E : EE} {B o : Nat} {g : GS} {t : Nat} {w : Row} (h : ¬ o = 460) (ho : o < 464) : pcT E B (upS g t w) o = pcT E B g o := by
  by_cases hi : inW o
  · obtain ⟨k', r, hk', hr, rfl⟩ := inW_of hi
    rw [pcT_W hk' hr, pcT_W hk' hr]; rfl
  rcases pcT_off (E := E) (B := B) (g := g) hi ho with rfl | rfl | rfl | rfl | rfl | rfl | rfl | rfl | rfl | rfl | rfl | rfl | rfl <;> first | rfl | exact absurd rfl h
theorem upS_1 {g : GS} {k : Nat} {w : Row} : (upS g k w).2.2.1 k = w := if_pos rfl
theorem upS_ne {g : GS} {k k' : Nat} {w : Row} (h : ¬ k' = k) : (upS g k w).2.2.1 k' = g.2.2.1 k' := if_neg h
theorem upS_fun {t : Nat} {f : Nat → Row} (k : Nat) (w : Row) (h : f t = w ∨ ¬ t = k) : True := trivial
theorem upS_self {g : GS} {k : Nat} : upS g k (g.2.2.1 k) = g := by
  unfold upS
  have : (fun t' => if t' = k then g.2.2.1 k else g.2.2.1 t') = g.2.2.1 := by
    funext k'
    by_cases h : k' = k
    · rw [if_pos h, h]
    · rw [if_neg h]
  rw [this]
theorem upS_upS {g : GS} {k : Nat} {w w' : Row} : upS (upS g k w) k w' = upS g k w' := by
  have : (fun t' => if t' = k then w' else (upS g k w).2.2.1 t') = (fun t' => if t' = k then w' else g.2.2.1 t') := by
    funext k'
    by_cases h : k' = k
    · rw [if_pos h, if_pos h]
    · rw [if_neg h, if_neg h]; exact upS_ne h
  show ((upS g k w).1, (upS g k w).2.1, (fun t' => if t' = k then w' else (upS g k w).2.2.1 t'), (upS g k w).2.2.2) = _
  rw [this]; rfl
theorem pcT_upC {E : EE} {B j : Nat} {g : GS} {c : Row} {v : Int32} {e : va_E} (hj : oc j < 464) (he : pcT E B (upC g (upd c j v)) (oc j) = e) : wl B 464 (va_up (pcT E B (upC g c)) (oc j) e) = wl B 464 (pcT E B (upC g (upd c j v))) := by
  apply List.map_congr_left
  intro o ho
  have hl := List.mem_range.mp ho
  by_cases h : o = oc j
  · subst h; rw [he]; exact congrArg _ (if_pos rfl)
  · rw [pcT_C h hl]; exact congrArg _ (if_neg h)
theorem pcT_upR {E : EE} {B j : Nat} {g : GS} {c : Row} {v : Int32} {e : va_E} (hj : oR j < 464) (he : pcT E B (upR g (upd c j v)) (oR j) = e) : wl B 464 (va_up (pcT E B (upR g c)) (oR j) e) = wl B 464 (pcT E B (upR g (upd c j v))) := by
  apply List.map_congr_left
  intro o ho
  have hl := List.mem_range.mp ho
  by_cases h : o = oR j
  · subst h; rw [he]; exact congrArg _ (if_pos rfl)
  · rw [pcT_R h hl]; exact congrArg _ (if_neg h)
theorem pcT_upS {E : EE} {B t : Nat} {g : GS} {w w' : Row} {e : va_E} (he : pcT E B (upS g t w') 460 = e) : wl B 464 (va_up (pcT E B (upS g t w)) 460 e) = wl B 464 (pcT E B (upS g t w')) := by
  apply List.map_congr_left
  intro o ho
  have hl := List.mem_range.mp ho
  by_cases h : o = 460
  · subst h; rw [he]; exact congrArg _ (if_pos rfl)
  · rw [pcT_S h hl]; refine congrArg _ ((if_neg h).trans (pcT_S h hl))
