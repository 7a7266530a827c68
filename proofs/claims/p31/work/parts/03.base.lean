/-! THE STATE: one mathematical value for all ints that the system's cells hold, and the picture of it in the heap; all addresses are a base and an offset -/
def TW : List Cond := lw_tbl.filter goodWord
theorem tw {i : Nat} {w : Cond} (h : lw_tbl[i]? = some w) (g : goodWord w = true) : w ∈ TW := List.mem_filter.mpr ⟨List.mem_of_getElem? h, g⟩
theorem TW_in : ∀ w ∈ TW, w ∈ lw_tbl := fun _ h => (List.mem_filter.mp h).1
abbrev wsm (y : MethodName) (cb : ByteArray) (n : Nat) (r : Option FieldType) : List Cond := .code y cb n r :: TW
theorem good_TW {w : Cond} (h : w ∈ TW) : (w.onTables && w.keeps) = true ∨ ∃ ty, w = .arrayClass ty := good_of_word (List.mem_filter.mp h).2
theorem good_sub {y : MethodName} {cb : ByteArray} {n : Nat} {r : Option FieldType} (h : Cond.code y cb n r ∈ TW) : GoodIn TW (wsm y cb n r) := by
  intro w hw
  rcases List.mem_cons.mp hw with rfl | h1
  · exact ⟨h, good_TW h⟩
  · exact ⟨h1, good_TW h1⟩
theorem in_sub {w : Cond} {a : Cond} (h : w ∈ TW) : w ∈ a :: TW := List.mem_cons_of_mem _ h
abbrev EE : Type := va_G × (Nat → ClassId)
abbrev Row : Type := Nat → Int32
abbrev GS : Type := (Nat → Row) × Row × Unit
def tys (E : EE) : List (ClassId × FieldType) := [(E.2 0, .int), (E.2 1, .boolean), (E.2 2, .object RX0), (E.2 3, .object RX1), (E.2 4, .object RX5)]
/-- a world: n cells from B on, their contents by the function f -/
def wl (B n : Nat) (f : Nat → va_E) : va_W := (List.range n).map (fun o => (B + o, f o))
theorem wl_at {B n o : Nat} {f : Nat → va_E} (h : o < n) : (wl B n f)[o]? = some (B + o, f o) := by simp [wl, h]
theorem wl_len {B n : Nat} {f : Nat → va_E} : (wl B n f).length = n := by simp [wl]
theorem wl_set {B n o : Nat} {f : Nat → va_E} {e : va_E} (_h : o < n) : (wl B n f).set o (B + o, e) = wl B n (va_up f o e) := by
  apply List.ext_getElem?
  intro i
  by_cases hi : i < n
  · rw [wl_at hi, List.getElem?_set]
    by_cases ho : o = i
    · subst ho; simp [wl_len, hi, va_up]
    · have hne : ¬ i = o := fun q => ho q.symm
      rw [if_neg ho, wl_at hi]; simp [va_up, hne]
  · rw [List.getElem?_eq_none (by rw [List.length_set, wl_len]; omega), List.getElem?_eq_none (by rw [wl_len]; omega)]
theorem wl_push {B n : Nat} {f : Nat → va_E} {e : va_E} : wl B n f ++ [(B + n, e)] = wl B (n + 1) (va_up f n e) := by
  have h : (List.range n).map (fun o => (B + o, va_up f n e o)) = (List.range n).map (fun o => (B + o, f o)) := by
    apply List.map_congr_left
    intro o ho
    have := List.mem_range.mp ho
    rw [show va_up f n e o = f o from if_neg (by omega)]
  unfold wl
  rw [List.range_succ, List.map_append, h]
  simp [va_up]
abbrev fB (B : Nat) : Nat → Prop := fun q => B ≤ q
theorem wl_D {B n : Nat} {f : Nat → va_E} : va_D (fB B) (wl B n f) := by
  have key : ∀ (i : Nat) (p : Nat × va_E), (wl B n f)[i]? = some p → p.1 = B + i := by
    intro i p h
    have hi : i < n := by have := (List.getElem?_eq_some_iff.mp h).1; rwa [wl_len] at this
    rw [wl_at hi] at h
    cases h; rfl
  refine ⟨fun i j p q hi hj hpq => ?_, fun k q hk => ?_⟩
  · rw [key i p hi, key j q hj] at hpq; omega
  · show B ≤ q.1
    rw [key k q hk]; omega
def upW (g : GS) (k : Nat) (w : Row) : GS := (fun k' => if k' = k then w else g.1 k', g.2)
def upC (g : GS) (c : Row) : GS := (g.1, c, g.2.2)
/-- the first n of a row -/
def tr (n : Nat) (f : Row) : Row := fun j => if j < n then f j else 0
theorem tr_at {n j : Nat} {f : Row} (h : j < n) : tr n f j = f j := if_pos h
/-- where the cells of the world k begin -/
def wo (k : Nat) : Nat := if k < 2 then 1 + 41 * k else if k < 9 then 85 + 41 * (k - 2) else 373 + 41 * (k - 9)
def rfs (n : Nat) (f : Nat → Nat) : (Nat → Int32) ⊕ (Nat → Int64) ⊕ (Nat → UInt32) ⊕ (Nat → UInt64) ⊕ (Nat → Option Nat) := .inr (.inr (.inr (.inr (fun j => if j < n then some (f j) else none))))
def pw (E : EE) (B k : Nat) (w : Row) (r : Nat) : va_E :=
  if r = 0 then .inr (5, [.ref (B + (wo k + 1)), .ref (B + (wo k + 2)), .ref (B + (wo k + 3)), .ref (B + (wo k + 4)), .int (w 10), .int (w 5), .int (w 6), .int (w 7), .int (w 4), .int (w 8), .int (w 9)])
  else if r = 1 then .inl (E.2 0, 4, .inl (tr 4 w))
  else if r = 2 then .inl (E.2 2, 12, rfs 12 (fun i => B + (wo k + (5 + i))))
  else if r = 3 then .inl (E.2 3, 8, rfs 8 (fun i => B + (wo k + (17 + 3 * i))))
  else if r = 4 then .inl (E.2 0, 8, .inl (tr 8 (fun j => w (12 + j))))
  else if r < 17 then .inr (0, [.int (nI (r - 5)), .int (w (20 + 7 * (r - 5))), .int (w (20 + 7 * (r - 5) + 1)), .int (w (20 + 7 * (r - 5) + 2)), .int (w (20 + 7 * (r - 5) + 3)), .int (w (360 + (r - 5))), .int (w (20 + 7 * (r - 5) + 4)), .int (w (20 + 7 * (r - 5) + 5)), .int (w (20 + 7 * (r - 5) + 6))])
  else if (r - 17) % 3 = 0 then .inr (1, [.int (nI ((r - 17) / 3)), .int (w (104 + 8 * ((r - 17) / 3))), .int (w (104 + 8 * ((r - 17) / 3) + 1)), .int (w (104 + 8 * ((r - 17) / 3) + 2)), .int (w (104 + 8 * ((r - 17) / 3) + 3)), .int (w (104 + 8 * ((r - 17) / 3) + 4)), .int (w (104 + 8 * ((r - 17) / 3) + 5)), .int (w (104 + 8 * ((r - 17) / 3) + 6)), .int (w (104 + 8 * ((r - 17) / 3) + 7)), .ref (B + (wo k + (18 + 3 * ((r - 17) / 3)))), .ref (B + (wo k + (19 + 3 * ((r - 17) / 3))))])
  else if (r - 17) % 3 = 1 then .inl (E.2 0, 12, .inl (tr 12 (fun j => w (168 + 2 * (12 * ((r - 17) / 3) + j)))))
  else .inl (E.2 0, 12, .inl (tr 12 (fun j => w (168 + 2 * (12 * ((r - 17) / 3) + j) + 1))))
def pcT (E : EE) (B : Nat) (g : GS) (o : Nat) : va_E :=
  if o = 0 then .inr (6, [.ref (B + wo 0), .ref (B + wo 1), .ref (B + 83), .ref (B + 372), .ref (B + 455), .ref (B + 456), .ref (B + 458)])
  else if o < 83 then pw E B ((o - 1) / 41) (g.1 ((o - 1) / 41)) ((o - 1) % 41)
  else if o = 83 then .inr (2, [.ref (B + 84), .int (g.2.1 0), .int (g.2.1 1)])
  else if o = 84 then .inl (E.2 4, 7, rfs 7 (fun i => B + wo (2 + i)))
  else if o < 372 then pw E B (2 + (o - 85) / 41) (g.1 (2 + (o - 85) / 41)) ((o - 85) % 41)
  else if o = 372 then .inl (E.2 4, 2, rfs 2 (fun i => B + wo (9 + i)))
  else if o < 455 then pw E B (9 + (o - 373) / 41) (g.1 (9 + (o - 373) / 41)) ((o - 373) % 41)
  else if o = 455 then .inl (E.2 1, 2, .inl (tr 2 (fun j => g.2.1 (10 + j))))
  else if o = 456 then .inr (4, [.ref (B + 457), .int (g.2.1 3)])
  else if o = 457 then .inl (E.2 0, 80, .inl (tr 80 (fun j => g.2.1 (100 + j))))
  else .inr (3, [.ref (B + 456), .int (g.2.1 4), .int (g.2.1 5), .int (g.2.1 6), .int (g.2.1 7), .int (g.2.1 8)])
/-- which cell of a world holds the int j -/
def ow (j : Nat) : Nat := if j < 4 then 1 else if j < 12 then 0 else if j < 20 then 4 else if j < 104 then 5 + (j - 20) / 7 else if j < 168 then 17 + 3 * ((j - 104) / 8) else if j < 360 then 18 + 3 * ((j - 168) / 24) + (j - 168) % 2 else 5 + (j - 360)
theorem upd_ow {w : Row} {j r i : Nat} {v : Int32} (h : ¬ r = ow j) (hi : ow i = r) : upd w j v i = w i := if_neg (fun q => h (by rw [← q]; exact hi.symm))
theorem pw_ow {E : EE} {B k j r : Nat} {w : Row} {v : Int32} (h : ¬ r = ow j) (hr : r < 41) : pw E B k (upd w j v) r = pw E B k w r := by
  have U : ∀ i, ow i = r → upd w j v i = w i := fun i hi => upd_ow h hi
  unfold pw
  by_cases h0 : r = 0
  · subst h0
    simp only [if_true]
    rw [U 10 (by decide), U 5 (by decide), U 6 (by decide), U 7 (by decide), U 4 (by decide), U 8 (by decide), U 9 (by decide)]
  rw [if_neg h0, if_neg h0]
  by_cases h1 : r = 1
  · subst h1
    have e : tr 4 (upd w j v) = tr 4 w := by
      funext i
      unfold tr
      by_cases hi : i < 4
      · rw [if_pos hi, if_pos hi]; exact U i (by unfold ow; rw [if_pos hi])
      · rw [if_neg hi, if_neg hi]
    rw [if_pos rfl, if_pos rfl, e]
  rw [if_neg h1, if_neg h1]
  by_cases h2 : r = 2
  · rw [if_pos h2, if_pos h2]
  rw [if_neg h2, if_neg h2]
  by_cases h3 : r = 3
  · rw [if_pos h3, if_pos h3]
  rw [if_neg h3, if_neg h3]
  by_cases h4 : r = 4
  · subst h4
    have e : tr 8 (fun i => upd w j v (12 + i)) = tr 8 (fun i => w (12 + i)) := by
      funext i
      unfold tr
      by_cases hi : i < 8
      · rw [if_pos hi, if_pos hi]; exact U (12 + i) (by unfold ow; rw [if_neg (by omega), if_neg (by omega), if_pos (by omega)])
      · rw [if_neg hi, if_neg hi]
    rw [if_pos rfl, if_pos rfl, e]
  rw [if_neg h4, if_neg h4]
  by_cases h5 : r < 17
  · have V : ∀ f, f < 7 → upd w j v (20 + 7 * (r - 5) + f) = w (20 + 7 * (r - 5) + f) := fun f hf => U _ (by
      unfold ow; rw [if_neg (by omega), if_neg (by omega), if_neg (by omega), if_pos (by omega)]; omega)
    rw [if_pos h5, if_pos h5, V 1 (by omega), V 2 (by omega), V 3 (by omega), V 4 (by omega), V 5 (by omega), V 6 (by omega), show upd w j v (20 + 7 * (r - 5)) = w (20 + 7 * (r - 5)) from V 0 (by omega),
      U (360 + (r - 5)) (by unfold ow; rw [if_neg (by omega), if_neg (by omega), if_neg (by omega), if_neg (by omega), if_neg (by omega), if_neg (by omega)]; omega)]
  rw [if_neg h5, if_neg h5]
  by_cases h6 : (r - 17) % 3 = 0
  · have V : ∀ f, f < 8 → upd w j v (104 + 8 * ((r - 17) / 3) + f) = w (104 + 8 * ((r - 17) / 3) + f) := fun f hf => U _ (by
      unfold ow; rw [if_neg (by omega), if_neg (by omega), if_neg (by omega), if_neg (by omega), if_pos (by omega)]; omega)
    rw [if_pos h6, if_pos h6, V 1 (by omega), V 2 (by omega), V 3 (by omega), V 4 (by omega), V 5 (by omega), V 6 (by omega), V 7 (by omega), show upd w j v (104 + 8 * ((r - 17) / 3)) = w (104 + 8 * ((r - 17) / 3)) from V 0 (by omega)]
  rw [if_neg h6, if_neg h6]
  by_cases h7 : (r - 17) % 3 = 1
  · rw [if_pos h7, if_pos h7]
    have e : tr 12 (fun i => upd w j v (168 + 2 * (12 * ((r - 17) / 3) + i))) = tr 12 (fun i => w (168 + 2 * (12 * ((r - 17) / 3) + i))) := by
      funext i
      unfold tr
      by_cases hi : i < 12
      · rw [if_pos hi, if_pos hi]; exact U _ (by unfold ow; rw [if_neg (by omega), if_neg (by omega), if_neg (by omega), if_neg (by omega), if_neg (by omega), if_pos (by omega)]; omega)
      · rw [if_neg hi, if_neg hi]
    rw [e]
  rw [if_neg h7, if_neg h7]
  have e : tr 12 (fun i => upd w j v (168 + 2 * (12 * ((r - 17) / 3) + i) + 1)) = tr 12 (fun i => w (168 + 2 * (12 * ((r - 17) / 3) + i) + 1)) := by
    funext i
    unfold tr
    by_cases hi : i < 12
    · rw [if_pos hi, if_pos hi]; exact U _ (by unfold ow; rw [if_neg (by omega), if_neg (by omega), if_neg (by omega), if_neg (by omega), if_neg (by omega), if_pos (by omega)]; omega)
    · rw [if_neg hi, if_neg hi]
  rw [e]

theorem wo_lt {k : Nat} (hk : k < 11) : 1 ≤ wo k ∧ wo k + 41 ≤ 455 := by unfold wo; split <;> (try split) <;> omega
theorem wo_apart {k k' : Nat} (hk : k < 11) (hk' : k' < 11) (h : ¬ k = k') : wo k + 41 ≤ wo k' ∨ wo k' + 41 ≤ wo k := by
  unfold wo
  by_cases a : k < 2 <;> by_cases b : k' < 2 <;> by_cases c : k < 9 <;> by_cases d : k' < 9 <;> simp only [a, b, c, d, if_true, if_false] <;> omega
theorem wo_inj {k k' r r' : Nat} (hk : k < 11) (hk' : k' < 11) (hr : r < 41) (hr' : r' < 41) (h : wo k + r = wo k' + r') : k = k' ∧ r = r' := by
  by_cases e : k = k'
  · subst e; exact ⟨rfl, by omega⟩
  · have := wo_apart hk hk' e; omega
/-- an offset below 459 is that of a world's cell, or one of these -/
def inW (o : Nat) : Prop := (1 ≤ o ∧ o < 83) ∨ (85 ≤ o ∧ o < 372) ∨ (373 ≤ o ∧ o < 455)
theorem inW_of {o : Nat} (h : inW o) : ∃ k r, k < 11 ∧ r < 41 ∧ o = wo k + r := by
  rcases h with h | h | h
  · refine ⟨(o - 1) / 41, (o - 1) % 41, by omega, by omega, ?_⟩
    unfold wo; rw [if_pos (by omega)]; omega
  · refine ⟨2 + (o - 85) / 41, (o - 85) % 41, by omega, by omega, ?_⟩
    unfold wo; rw [if_neg (by omega), if_pos (by omega)]; omega
  · refine ⟨9 + (o - 373) / 41, (o - 373) % 41, by omega, by omega, ?_⟩
    unfold wo; rw [if_neg (by omega), if_neg (by omega)]; omega
theorem wo_inW {k r : Nat} (hk : k < 11) (hr : r < 41) : inW (wo k + r) := by
  unfold inW wo
  by_cases a : k < 2 <;> by_cases c : k < 9 <;> simp only [a, c, if_true, if_false] <;> omega
theorem pcT_W {E : EE} {B k r : Nat} {g : GS} (hk : k < 11) (hr : r < 41) : pcT E B g (wo k + r) = pw E B k (g.1 k) r := by
  unfold wo
  by_cases a : k < 2
  · rw [if_pos a]
    unfold pcT
    rw [if_neg (by omega), if_pos (by omega), show (1 + 41 * k + r - 1) / 41 = k by omega, show (1 + 41 * k + r - 1) % 41 = r by omega]
  rw [if_neg a]
  by_cases b : k < 9
  · rw [if_pos b]
    unfold pcT
    rw [if_neg (by omega), if_neg (by omega), if_neg (by omega), if_neg (by omega), if_pos (by omega), show 2 + (85 + 41 * (k - 2) + r - 85) / 41 = k by omega, show (85 + 41 * (k - 2) + r - 85) % 41 = r by omega]
  · rw [if_neg b]
    unfold pcT
    rw [if_neg (by omega), if_neg (by omega), if_neg (by omega), if_neg (by omega), if_neg (by omega), if_neg (by omega), if_pos (by omega), show 9 + (373 + 41 * (k - 9) + r - 373) / 41 = k by omega, show (373 + 41 * (k - 9) + r - 373) % 41 = r by omega]
/-- cells that no world has are the same whatever the worlds hold -/
theorem pcT_notW {E : EE} {B o : Nat} {g : GS} {f : Nat → Row} (h : ¬ inW o) : pcT E B (f, g.2) o = pcT E B g o := by
  unfold inW at h
  unfold pcT
  by_cases h0 : o = 0
  · rw [if_pos h0, if_pos h0]
  rw [if_neg h0, if_neg h0, if_neg (show ¬ o < 83 by omega), if_neg (show ¬ o < 83 by omega)]
  by_cases h1 : o = 83
  · rw [if_pos h1, if_pos h1]
  rw [if_neg h1, if_neg h1]
  by_cases h2 : o = 84
  · rw [if_pos h2, if_pos h2]
  rw [if_neg h2, if_neg h2, if_neg (show ¬ o < 372 by omega), if_neg (show ¬ o < 372 by omega)]
  by_cases h3 : o = 372
  · rw [if_pos h3, if_pos h3]
  rw [if_neg h3, if_neg h3, if_neg (show ¬ o < 455 by omega), if_neg (show ¬ o < 455 by omega)]
theorem upW_1 {g : GS} {k : Nat} {w : Row} : (upW g k w).1 k = w := if_pos rfl
theorem upW_ne {g : GS} {k k' : Nat} {w : Row} (h : ¬ k' = k) : (upW g k w).1 k' = g.1 k' := if_neg h
theorem upW_self {g : GS} {k : Nat} : upW g k (g.1 k) = g := by
  unfold upW
  refine Prod.ext (funext fun k' => ?_) rfl
  show (if k' = k then g.1 k else g.1 k') = g.1 k'
  by_cases h : k' = k
  · rw [if_pos h, h]
  · rw [if_neg h]
theorem upW_upW {g : GS} {k : Nat} {w w' : Row} : upW (upW g k w) k w' = upW g k w' := by
  unfold upW
  refine Prod.ext (funext fun k' => ?_) rfl
  show (if k' = k then w' else if k' = k then w else g.1 k') = if k' = k then w' else g.1 k'
  by_cases h : k' = k
  · rw [if_pos h, if_pos h]
  · rw [if_neg h, if_neg h, if_neg h]
/-- a store into a world's cell, in the picture -/
theorem pcT_up {E : EE} {B k j : Nat} {g : GS} {w : Row} {v : Int32} {e : va_E} (hk : k < 11) (hj : ow j < 41) (he : pw E B k (upd w j v) (ow j) = e) : va_up (pcT E B (upW g k w)) (wo k + ow j) e = pcT E B (upW g k (upd w j v)) := by
  funext o
  by_cases ho : o = wo k + ow j
  · subst ho
    rw [pcT_W hk hj, upW_1, he]; exact if_pos rfl
  · rw [show va_up (pcT E B (upW g k w)) (wo k + ow j) e o = pcT E B (upW g k w) o from if_neg ho]
    by_cases hi : inW o
    · obtain ⟨k', r, hk', hr, rfl⟩ := inW_of hi
      rw [pcT_W hk' hr, pcT_W hk' hr]
      by_cases hkk : k' = k
      · subst hkk
        rw [upW_1, upW_1, pw_ow (fun q => ho (by rw [q])) hr]
      · rw [upW_ne hkk, upW_ne hkk]
    · exact (pcT_notW (g := g) hi).trans (pcT_notW (g := g) hi).symm
