/-! arraycopy out of a static array -/
section RS
variable {p : Program} {l : Launch} {e : Env} {R : Room} {s : State} {m : MethodId} {args : Array Value} {below : List Frame} {meth : Method} {c : Code} {H : Heap} {locs : List Loc} {cells slots : Nat} {Q : State → Prop}
variable {cc : ByteArray} {nL : Nat} {own : String} {E : EE} {B : Nat} {pc : Nat} {ls : Array Slot} {rest : List Value} {n : Nat} {f : Nat → va_E}
theorem rcopyS (X : Cx p s m args c cc nL own E B) (hJ : JL E B s n f H locs) (hml : nL = ls.size) {index t0 o1 N1 : Nat} {a b : Row} (hA : va_T .int t0 4 (fun j => .int (a j)) (fB B) s s.heap) (hlink : Cond.methodLink own index arraycopyName ∈ TW) (hnat : Cond.native arraycopyName ∈ TW) (hstat : Cond.static arraycopyName ∈ TW) (hini : Cond.initialized "java/lang/System" ∈ TW)
    (ho1 : o1 < n) (hf1 : f o1 = .inl (E.2 0, N1, .inl b)) {z k : Int32} {K : Nat} (hz : z = 0) (hk : k = nI K) (hK0 : K ≤ 4) (hK1 : K ≤ N1) (hKb : K < 2 ^ 31) (hframes : 1 ≤ R.frames) (hlocals : (rest.map fun v => v.category).sum + (nativeFrameWords "java/lang/System" "arraycopy" 5 + 11) ≤ R.locals) (hdg : decode cc pc = .ok (.invokestatic index, 3))
    (kk : ∀ (H1 : Heap) (locs1 : List Loc), JL E B s n (va_up f o1 (.inl (E.2 0, N1, .inl (va_cpy a b 0 0 K)))) H1 locs1 → W p l e R s m args below meth c H1 locs1 cells slots Q (F0 m (pc + 3) ls rest)) : W p l e R s m args below meth c H locs cells slots Q (F0 m pc ls (.int k :: .int z :: .ref (B + o1) :: .int z :: .ref t0 :: rest)) := by
  subst hz
  subst hk
  have hts := X.2.2.2.2.1
  have hKv := X.2.2.2.2.2.1
  have hnc : (nI K).toNatClampNeg = K := nI_clamp hKb
  obtain ⟨cell, a1, a2, a3, a4, a5, a6, a7⟩ := hA
  have hlt := (Array.getElem?_eq_some_iff.mp a1).1
  have hc0 : H[t0]? = some cell := by rw [hJ.2.1.2.1 t0 hlt a7]; exact a1
  have he : (wl B n f)[o1]? = some (B + o1, .inl (E.2 0, N1, .inl b)) := by rw [wl_at ho1, hf1]
  have hc1 : H[B + o1]? = some (vp_cell (E.2 0) (N1, .inl b)) := hJ.1 o1 _ he
  obtain ⟨k0, hk0, cm0, hkk0⟩ := a2.2
  obtain ⟨-, k1, hk1, cm1, hkk1⟩ := (hKv.2 0 _ rfl).1 N1 (fun j => .int (b j))
  intro T hT Xs
  have h3 : ¬ nI K < 0 := nI_pos hKb
  have hti : (nI K).toInt = (K : Int) := nI_toInt hKb
  obtain ⟨vm', X', step⟩ := Xs.arraycopy X.1 X.2.2.2.1 (hts _ hlink) (hts _ hnat) (hts _ hstat) (hts _ hini) (src := t0) (dst := B + o1) (cs := cell) (cd := vp_cell (E.2 0) (N1, .inl b)) (srcPos := 0) (destPos := 0) (n := nI K) (by rw [hT]; exact hc0) (by rw [hT]; exact hc1)
    a2.1 (fun _ h => by cases h) a3 (fun h => by cases h) hk0 hk1 hkk0 hkk1 (by simp [refKind]) (by decide) (by decide) h3
    (by rw [hti]; simp; omega)
    (by rw [hti]; show ¬ _ > ((arrV (E.2 0) N1 (fun j => .int (b j))).slots.size : Int); rw [arrV_size]; simp; omega)
    (fun vm₁ _ i hi => by
      rw [hnc] at hi
      have e : cell.slots.getD ((0 : Int32).toNatClampNeg + i) .null = .int (a ((0 : Int32).toNatClampNeg + i)) := by
        rw [Array.getD_eq_getD_getElem?, a6 _ (by show 0 + i < 4; omega)]
        rfl
      refine ⟨?_, ?_⟩
      · rw [e]; rfl
      · rw [e]; exact trivial)
    (g := F0 m pc ls (.int (nI K) :: .int 0 :: .ref (B + o1) :: .int 0 :: .ref t0 :: rest)) rfl (by rw [X.2.2.1, hml]) (rest := rest) rfl (by rw [X.2.1]; exact hdg) hframes (by show 2 * 0 + _ + _ ≤ _; omega)
  have e1 : copied cell (vp_cell (E.2 0) (N1, .inl b)) 0 0 (nI K) = vp_cell (E.2 0) (N1, .inl (va_cpy a b 0 0 K)) := by
    have h4 : (0 : Int32).toNatClampNeg + (nI K).toNatClampNeg ≤ 4 := by rw [hnc]; show 0 + K ≤ 4; omega
    have h6 : copied cell (vp_cell (E.2 0) (N1, .inl b)) 0 0 (nI K) = vp_cell (E.2 0) (N1, .inl (va_cpy a b (0 : Int32).toNatClampNeg (0 : Int32).toNatClampNeg (nI K).toNatClampNeg)) := va_copiedX (fun z => .int z) cell (E.2 0) a b a6 h4
    rw [hnc] at h6
    exact h6
  rw [e1] at X' step
  have hl : B + o1 < H.size := (Array.getElem?_eq_some_iff.mp hc1).1
  have hheap : ((T.setVm vm').setCell (B + o1) (vp_cell (E.2 0) (N1, .inl (va_cpy a b 0 0 K)))).heap = H.setIfInBounds (B + o1) (vp_cell (E.2 0) (N1, .inl (va_cpy a b 0 0 K))) := by rw [← hT]; rfl
  have oq : ∀ q : Nat, q ≠ B + o1 → (H.setIfInBounds (B + o1) (vp_cell (E.2 0) (N1, .inl (va_cpy a b 0 0 K))))[q]? = H[q]? := fun q hq => by simp [Array.getElem?_setIfInBounds, Ne.symm hq]
  obtain ⟨t, d1, d2⟩ := kk _ _ ⟨by
      rw [← wl_set ho1]
      exact hJ.1.set wl_D he (show (H.setIfInBounds (B + o1) _)[B + o1]? = some _ by simp [Array.getElem?_setIfInBounds, hl]) oq, ⟨by simp; exact hJ.2.1.1, fun q g1 g2 => by
      rw [oq q (fun e => g2 (by rw [e]; exact Nat.le_add_right B o1))]
      exact hJ.2.1.2.1 q g1 g2, fun q hq => by
      rcases List.mem_append.mp hq with h | h
      · exact hJ.2.1.2.2 q h
      · obtain ⟨z, -, hz⟩ := List.mem_map.mp h
        rw [← hz]
        exact Nat.le_add_right B o1⟩, by simp; exact hJ.2.2⟩ _ hheap X'
  exact ⟨t, step t d1, d2⟩
end RS
