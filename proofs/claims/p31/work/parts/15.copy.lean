/-! copies of worlds -/
theorem pw_congr {E : EE} {B k r : Nat} {w w' : Row} (hr : r < 41) (U : ∀ i, ow i = r → ¬ i = 11 → i < 372 → w i = w' i) : pw E B k w r = pw E B k w' r := by
  unfold pw
  by_cases h0 : r = 0
  · subst h0
    simp only [if_true]
    rw [U 10 (by decide) (by decide) (by decide), U 5 (by decide) (by decide) (by decide), U 6 (by decide) (by decide) (by decide), U 7 (by decide) (by decide) (by decide), U 4 (by decide) (by decide) (by decide), U 8 (by decide) (by decide) (by decide), U 9 (by decide) (by decide) (by decide)]
  rw [if_neg h0, if_neg h0]
  by_cases h1 : r = 1
  · subst h1
    rw [if_pos rfl, if_pos rfl, tr_eq (f' := w') (fun i hi => U i (by unfold ow; rw [if_pos hi]) (by omega) (by omega))]
  rw [if_neg h1, if_neg h1]
  by_cases h2 : r = 2
  · rw [if_pos h2, if_pos h2]
  rw [if_neg h2, if_neg h2]
  by_cases h3 : r = 3
  · rw [if_pos h3, if_pos h3]
  rw [if_neg h3, if_neg h3]
  by_cases h4 : r = 4
  · subst h4
    rw [if_pos rfl, if_pos rfl, tr_eq (f' := fun j => w' (12 + j)) (fun i hi => U (12 + i) (by unfold ow; rw [if_neg (by omega), if_neg (by omega), if_pos (by omega)]) (by omega) (by omega))]
  rw [if_neg h4, if_neg h4]
  by_cases h5 : r < 17
  · have V : ∀ f, f < 7 → w (20 + 7 * (r - 5) + f) = w' (20 + 7 * (r - 5) + f) := fun f hf => U _ (by
      unfold ow; rw [if_neg (by omega), if_neg (by omega), if_neg (by omega), if_pos (by omega)]; omega) (by omega) (by omega)
    rw [if_pos h5, if_pos h5, V 1 (by omega), V 2 (by omega), V 3 (by omega), V 4 (by omega), V 5 (by omega), V 6 (by omega), show w (20 + 7 * (r - 5)) = w' (20 + 7 * (r - 5)) from V 0 (by omega),
      U (360 + (r - 5)) (by unfold ow; rw [if_neg (by omega), if_neg (by omega), if_neg (by omega), if_neg (by omega), if_neg (by omega), if_neg (by omega)]; omega) (by omega) (by omega)]
  rw [if_neg h5, if_neg h5]
  by_cases h6 : (r - 17) % 3 = 0
  · have V : ∀ f, f < 8 → w (104 + 8 * ((r - 17) / 3) + f) = w' (104 + 8 * ((r - 17) / 3) + f) := fun f hf => U _ (by
      unfold ow; rw [if_neg (by omega), if_neg (by omega), if_neg (by omega), if_neg (by omega), if_pos (by omega)]; omega) (by omega) (by omega)
    rw [if_pos h6, if_pos h6, V 1 (by omega), V 2 (by omega), V 3 (by omega), V 4 (by omega), V 5 (by omega), V 6 (by omega), V 7 (by omega), show w (104 + 8 * ((r - 17) / 3)) = w' (104 + 8 * ((r - 17) / 3)) from V 0 (by omega)]
  rw [if_neg h6, if_neg h6]
  by_cases h7 : (r - 17) % 3 = 1
  · rw [if_pos h7, if_pos h7, tr_eq (f' := fun j => w' (168 + 2 * (12 * ((r - 17) / 3) + j))) (fun i hi => U _ (by unfold ow; rw [if_neg (by omega), if_neg (by omega), if_neg (by omega), if_neg (by omega), if_neg (by omega), if_pos (by omega)]; omega) (by omega) (by omega))]
  rw [if_neg h7, if_neg h7, tr_eq (f' := fun j => w' (168 + 2 * (12 * ((r - 17) / 3) + j) + 1)) (fun i hi => U _ (by unfold ow; rw [if_neg (by omega), if_neg (by omega), if_neg (by omega), if_neg (by omega), if_neg (by omega), if_pos (by omega)]; omega) (by omega) (by omega))]
/-- rows that agree where a world has ints -/
def eqw (w w' : Row) : Prop := ∀ i, ¬ i = 11 → i < 372 → w i = w' i
theorem pcT_eqw {E : EE} {B k : Nat} {g : GS} {w w' : Row} (h : eqw w w') : pcT E B (upW g k w) = pcT E B (upW g k w') := by
  funext o
  by_cases hi : inW o
  · obtain ⟨k', r, hk', hr, rfl⟩ := inW_of hi
    rw [pcT_W hk' hr, pcT_W hk' hr]
    by_cases hkk : k' = k
    · subst hkk
      rw [upW_1, upW_1]; exact pw_congr hr (fun i _ h1 h2 => h i h1 h2)
    · rw [upW_ne hkk, upW_ne hkk]
  · exact (pcT_notW (g := g) hi).trans (pcT_notW (g := g) hi).symm
/-- the ints of the cell r come from another world -/
def cpw (w w2 : Row) (r : Nat) : Row := fun j => if ow j = r then w2 j else w j
theorem cpw_in {w w2 : Row} {r j : Nat} (h : ow j = r) : cpw w w2 r j = w2 j := if_pos h
theorem cpw_out {w w2 : Row} {r j : Nat} (h : ¬ ow j = r) : cpw w w2 r j = w j := if_neg h
theorem pcT_cpw {E : EE} {B k r : Nat} {g : GS} {w w2 : Row} {e : va_E} (hk : k < 11) (hr : r < 41) (he : pw E B k w2 r = e) : va_up (pcT E B (upW g k w)) (wo k + r) e = pcT E B (upW g k (cpw w w2 r)) := by
  funext o
  by_cases ho : o = wo k + r
  · subst ho
    rw [pcT_W hk hr, upW_1, pw_congr (w := cpw w w2 r) (w' := w2) hr (fun i hi _ _ => cpw_in hi), he]; exact if_pos rfl
  · rw [show va_up (pcT E B (upW g k w)) (wo k + r) e o = pcT E B (upW g k w) o from if_neg ho]
    by_cases hi : inW o
    · obtain ⟨k', r', hk', hr', rfl⟩ := inW_of hi
      rw [pcT_W hk' hr', pcT_W hk' hr']
      by_cases hkk : k' = k
      · subst hkk
        rw [upW_1, upW_1]
        exact pw_congr hr' (fun i hi _ _ => (cpw_out (fun q => ho (by rw [← q, hi]))).symm)
      · rw [upW_ne hkk, upW_ne hkk]
    · exact (pcT_notW (g := g) hi).trans (pcT_notW (g := g) hi).symm
theorem cpy_tr {n : Nat} {a b : Row} : va_cpy (tr n a) (tr n b) 0 0 n = tr n a := by
  funext j
  unfold va_cpy
  by_cases h : j < n
  · rw [if_pos ⟨Nat.zero_le _, by omega⟩]; simp
  · rw [if_neg (by omega)]; unfold tr; rw [if_neg h, if_neg h]
section CP
variable {p : Program} {l : Launch} {e : Env} {R : Room} {s : State} {m : MethodId} {args : Array Value} {below : List Frame} {meth : Method} {c : Code} {H : Heap} {locs : List Loc} {cells slots : Nat} {Q : State → Prop}
variable {cc : ByteArray} {nL : Nat} {E : EE} {B : Nat} {pc : Nat} {ls : Array Slot} {rest : List Value} {g : GS} {k k2 : Nat} {w w2 : Row} {own : String}
theorem cp_row (X : Cx p s m args c cc nL own E B) (hJ : JG E B s (upW g k w) H locs) (hml : ls.size = nL) {index r K : Nat} (hlink : Cond.methodLink own index arraycopyName ∈ TW) (hk : k < 11) (hk2 : k2 < 11) (hw2 : (upW g k w).1 k2 = w2) (hr : r < 41) {a b : Row} {z i : Int32} (hz : z = 0) (hi : i = nI K) (hK : K < 100)
    (h0 : pw E B k2 w2 r = .inl (E.2 0, K, .inl (tr K a))) (h1 : pw E B k w r = .inl (E.2 0, K, .inl (tr K b))) (h2 : pw E B k w2 r = .inl (E.2 0, K, .inl (tr K a))) (hfr : 1 ≤ R.frames ∧ (rest.map fun v => v.category).sum + (nativeFrameWords "java/lang/System" "arraycopy" 5 + 11) ≤ R.locals) (hdg : decode cc pc = .ok (.invokestatic index, 3))
    (kk : ∀ (H1 : Heap) (locs1 : List Loc), JG E B s (upW g k (cpw w w2 r)) H1 locs1 → W p l e R s m args below meth c H1 locs1 cells slots Q (F0 m (pc + 3) ls rest)) : W p l e R s m args below meth c H locs cells slots Q (F0 m pc ls (.int i :: .int z :: .ref (B + (wo k + r)) :: .int z :: .ref (B + (wo k2 + r)) :: rest)) := by
  refine rcopy X hJ hml.symm hlink tw_cpy_n tw_cpy_s tw_cpy_i (lt_W hk2 hr) (lt_W hk hr) (by rw [pcT_W hk2 hr, hw2, h0]) (by rw [pcT_W hk hr, upW_1, h1]) hz hi (Nat.le_refl _) (Nat.le_refl _) (by omega) hfr.1 hfr.2 hdg (fun H1 locs1 h => kk H1 locs1 ?_)
  rw [cpy_tr, pcT_cpw hk hr h2] at h
  exact h
end CP
