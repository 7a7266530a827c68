/-! the queue as a list, and what the two sides do to it -/
def ql (w : Row) : Nat → Nat → List Nat
  | 0, _ => []
  | m + 1, p => nn (w (12 + p)) :: ql w m (p + 1)
def qs (w : Row) : List Nat := ql w (nn (w 10)) 0
theorem ql_congr {w w' : Row} : ∀ (m p : Nat), (∀ k, p ≤ k → k < p + m → w (12 + k) = w' (12 + k)) → ql w m p = ql w' m p := by
  intro m
  induction m with
  | zero => intro p _; rfl
  | succ m ih =>
    intro p h
    rw [ql, ql, h p (by omega) (by omega), ih (p + 1) (fun k h1 h2 => h k (by omega) (by omega))]
theorem ql_snoc {w : Row} : ∀ (m p : Nat), ql w (m + 1) p = ql w m p ++ [nn (w (12 + (p + m)))] := by
  intro m
  induction m with
  | zero => intro p; rfl
  | succ m ih =>
    intro p
    rw [ql, ih (p + 1)]
    show nn (w (12 + p)) :: (ql w m (p + 1) ++ _) = nn (w (12 + p)) :: ql w m (p + 1) ++ _
    rw [show p + 1 + m = p + (m + 1) by omega]; rfl
theorem ql_len {w : Row} : ∀ (m p : Nat), (ql w m p).length = m := by
  intro m
  induction m with
  | zero => intro p; rfl
  | succ m ih => intro p; rw [ql, List.length_cons, ih]
theorem ql_mem {w : Row} {c : Nat} : ∀ (m p : Nat), c ∈ ql w m p → ∃ k, p ≤ k ∧ k < p + m ∧ c = nn (w (12 + k)) := by
  intro m
  induction m with
  | zero => intro p h; cases h
  | succ m ih =>
    intro p h
    rw [ql] at h
    rcases List.mem_cons.mp h with h | h
    · exact ⟨p, by omega, by omega, h⟩
    · obtain ⟨k, h1, h2, h3⟩ := ih _ h
      exact ⟨k, by omega, by omega, h3⟩
theorem mem_ql {w : Row} : ∀ (m p k : Nat), p ≤ k → k < p + m → nn (w (12 + k)) ∈ ql w m p := by
  intro m
  induction m with
  | zero => intro p k h1 h2; omega
  | succ m ih =>
    intro p k h1 h2
    rw [ql]
    by_cases e : k = p
    · subst e; exact List.mem_cons_self
    · exact List.mem_cons_of_mem _ (ih _ _ (by omega) (by omega))
theorem qs_len {w : Row} : (qs w).length = nn (w 10) := ql_len _ _
theorem qs_upd {w : Row} {j : Nat} {v : Int32} (h10 : ¬ j = 10) (hq : ¬ (12 ≤ j ∧ j < 20)) (hcn : Cn w) : qs (upd w j v) = qs w := by
  unfold qs
  rw [updn (fun q => h10 q.symm)]
  have := hcn.1.le
  exact ql_congr _ _ (fun k h1 h2 => updn (by omega))
/-- the value of an entry, and its number -/
theorem en {v : Int32} {c n : Nat} (hv : sm v n) (hn : n < 2 ^ 31) (hc : c < 2 ^ 31) : v = nI c ↔ nn v = c := by
  constructor
  · intro h; rw [h, nn_nI hc]
  · intro h; rw [hv.eq, h]
theorem st_loop {c : Nat} (hc : c < 8) : ∀ (n m : Nat) (w : Row) (z p : Nat), Rn w → nn (w 10) = p + m → z ≤ p → m < n →
    qs (bX7_stopsWaiting_41 c n w z p) = ql w z 0 ++ (ql w m p).filter (fun x => decide (x ≠ c)) ∧ ∀ j, ¬ j = 10 → ¬ (12 ≤ j ∧ j < 20) → bX7_stopsWaiting_41 c n w z p j = w j := by
  intro n
  induction n with
  | zero => intro m w z p _ _ _ h; omega
  | succ n ih =>
    intro m w z p hr hm hz hn
    have h8 := hr.1.1.le
    rw [bX7_stopsWaiting_41]
    have hcl := cnt_le (c := w 10) (p := p) hr.1.1 (by omega)
    cases m with
    | zero =>
      rw [if_pos (hcl.mpr (by omega))]
      refine ⟨?_, fun j h1 h2 => updn h1⟩
      show ql (upd w 10 (nI z)) (nn (upd w 10 (nI z) 10)) 0 = ql w z 0 ++ []
      rw [upde, nn_nI (by omega), List.append_nil]
      exact ql_congr _ _ (fun k h1 h2 => updn (by omega))
    | succ m =>
      rw [if_neg (fun q => by have := hcl.mp q; omega)]
      have hv := hr.2.1 p (by omega)
      have hr1 : Rn (upd w (12 + z) (w (12 + p))) := Rn_q (by omega) hv hr
      have e10 : upd w (12 + z) (w (12 + p)) 10 = w 10 := updn (by omega)
      have ep : upd w (12 + z) (w (12 + p)) (12 + p) = w (12 + p) := by
        by_cases e : z = p
        · subst e; exact upde
        · exact updn (by omega)
      have e1 : ql (upd w (12 + z) (w (12 + p))) z 0 = ql w z 0 := ql_congr _ _ (fun k h1 h2 => updn (by omega))
      have e2 : ql (upd w (12 + z) (w (12 + p))) m (p + 1) = ql w m (p + 1) := ql_congr _ _ (fun k h1 h2 => updn (by omega))
      have e3 : ql (upd w (12 + z) (w (12 + p))) (z + 1) 0 = ql w z 0 ++ [nn (w (12 + p))] := by rw [ql_snoc, e1, show 12 + (0 + z) = 12 + z by omega, upde]
      rw [ep, ql]
      by_cases hd : w (12 + p) = nI c
      · rw [if_pos hd]
        have hq := (en hv (by omega) (by omega)).mp hd
        obtain ⟨i1, i2⟩ := ih m _ z (p + 1) hr1 (by rw [e10]; omega) (by omega) (by omega)
        refine ⟨?_, fun j h1 h2 => (i2 j h1 h2).trans (updn (by omega))⟩
        rw [Nat.add_zero, i1, e1, e2, List.filter_cons_of_neg (by rw [hq]; simp)]
      · rw [if_neg hd]
        have hq : ¬ nn (w (12 + p)) = c := fun q => hd ((en hv (by omega) (by omega)).mpr q)
        obtain ⟨i1, i2⟩ := ih m _ (z + 1) (p + 1) hr1 (by rw [e10]; omega) (by omega) (by omega)
        refine ⟨?_, fun j h1 h2 => (i2 j h1 h2).trans (updn (by omega))⟩
        rw [i1, e3, e2, List.filter_cons_of_pos (by simpa using hq), List.append_assoc]; rfl
theorem st_qs {w : Row} {c : Nat} (hc : c < 8) (hr : Rn w) : qs (sX7_stopsWaiting w c) = (qs w).filter (fun x => decide (x ≠ c)) := by
  unfold sX7_stopsWaiting
  have hr1 : Rn (upd w (104 + 8 * c + 2) (-6)) := Rn_upd (by unfold bad; omega) hr
  have hr2 : Rn (upd (upd w (104 + 8 * c + 2) (-6)) (104 + 8 * c + 3) (-6)) := Rn_upd (by unfold bad; omega) hr1
  have hr3 : Rn (upd (upd (upd w (104 + 8 * c + 2) (-6)) (104 + 8 * c + 3) (-6)) (104 + 8 * c + 4) 0) := Rn_upd (by unfold bad; omega) hr2
  have h8 := hr.1.1.le
  have e10 : upd (upd (upd w (104 + 8 * c + 2) (-6)) (104 + 8 * c + 3) (-6)) (104 + 8 * c + 4) 0 10 = w 10 := by rw [updn (by omega), updn (by omega), updn (by omega)]
  rw [(st_loop hc 9 (nn (w 10)) _ 0 0 hr3 (by rw [e10]; omega) (by omega) (by omega)).1]
  show [] ++ _ = _
  rw [List.nil_append]
  unfold qs
  rw [ql_congr _ _ (fun k h1 h2 => by rw [updn (by omega), updn (by omega), updn (by omega)])]
theorem st_else {w : Row} {c j : Nat} (hc : c < 8) (hr : Rn w) (h10 : ¬ j = 10) (hq : ¬ (12 ≤ j ∧ j < 20)) : sX7_stopsWaiting w c j = upd (upd (upd w (104 + 8 * c + 2) (-6)) (104 + 8 * c + 3) (-6)) (104 + 8 * c + 4) 0 j := by
  unfold sX7_stopsWaiting
  have h8 := hr.1.1.le
  have e10 : upd (upd (upd w (104 + 8 * c + 2) (-6)) (104 + 8 * c + 3) (-6)) (104 + 8 * c + 4) 0 10 = w 10 := by rw [updn (by omega), updn (by omega), updn (by omega)]
  exact (st_loop hc 9 (nn (w 10)) _ 0 0 (Rn_upd (by unfold bad; omega) (Rn_upd (by unfold bad; omega) (Rn_upd (by unfold bad; omega) hr))) (by rw [e10]; omega) (by omega) (by omega)).2 j h10 hq
/-- the class's release -/
theorem re_loop {c i : Nat} (hc : c < 8) (hi : i < 12) : ∀ (n m : Nat) (w : Row) (z p : Nat), Cn w → (∀ k, k < 8 → sm (w (12 + k)) 7) → nn (w 10) = p + m → z ≤ p → m < n →
    qs (bX5_release_5 c i n w z p) = ql w z 0 ++ (ql w m p).filter (fun x => decide (x ≠ c)) ∧ (∀ k, k < 8 → sm (bX5_release_5 c i n w z p (12 + k)) 7) ∧
    ∀ j, ¬ j = 10 → ¬ (12 ≤ j ∧ j < 20) → bX5_release_5 c i n w z p j = upd (upd (upd (upd w (104 + 8 * c + 2) (-6)) (104 + 8 * c + 3) (-6)) (104 + 8 * c + 4) 0) (360 + i) (w (360 + i) - 1) j := by
  intro n
  induction n with
  | zero => intro m w z p _ _ _ _ h; omega
  | succ n ih =>
    intro m w z p hcn hs hm hz hn
    have h8 := hcn.1.le
    rw [bX5_release_5]
    have hcl := cnt_le (c := w 10) (p := p) hcn.1 (by omega)
    cases m with
    | zero =>
      rw [if_pos (hcl.mpr (by omega))]
      have e : ∀ j, (104 ≤ j → False) → upd (upd (upd (upd (upd w 10 (nI z)) (104 + 8 * c + 2) (-6)) (104 + 8 * c + 3) (-6)) (104 + 8 * c + 4) 0) (360 + i) ((upd (upd (upd (upd w 10 (nI z)) (104 + 8 * c + 2) (-6)) (104 + 8 * c + 3) (-6)) (104 + 8 * c + 4) 0) (360 + i) - 1) j = upd w 10 (nI z) j := by
        intro j hj
        rw [updn (fun q => hj (by omega)), updn (fun q => hj (by omega)), updn (fun q => hj (by omega)), updn (fun q => hj (by omega))]
      refine ⟨?_, fun k hk => ?_, fun j h1 h2 => ?_⟩
      · unfold qs
        rw [e 10 (by omega), upde, nn_nI (by omega)]
        show _ = ql w z 0 ++ []
        rw [List.append_nil]
        exact ql_congr _ _ (fun k h1 h2 => (e _ (by omega)).trans (updn (by omega)))
      · rw [e _ (by omega), updn (by omega)]; exact hs k hk
      · have e2 : (upd (upd (upd (upd w 10 (nI z)) (104 + 8 * c + 2) (-6)) (104 + 8 * c + 3) (-6)) (104 + 8 * c + 4) 0) (360 + i) = w (360 + i) := by rw [updn (by omega), updn (by omega), updn (by omega), updn (by omega)]
        rw [e2]
        unfold upd
        by_cases q1 : j = 360 + i
        · rw [if_pos q1, if_pos q1]
        rw [if_neg q1, if_neg q1]
        by_cases q2 : j = 104 + 8 * c + 4
        · rw [if_pos q2, if_pos q2]
        rw [if_neg q2, if_neg q2]
        by_cases q3 : j = 104 + 8 * c + 3
        · rw [if_pos q3, if_pos q3]
        rw [if_neg q3, if_neg q3]
        by_cases q4 : j = 104 + 8 * c + 2
        · rw [if_pos q4, if_pos q4]
        rw [if_neg q4, if_neg q4, if_neg h1]
    | succ m =>
      rw [if_neg (fun q => by have := hcl.mp q; omega)]
      have hv := hs p (by omega)
      have e10 : upd w (12 + z) (w (12 + p)) 10 = w 10 := updn (by omega)
      have e2 : ql (upd w (12 + z) (w (12 + p))) m (p + 1) = ql w m (p + 1) := ql_congr _ _ (fun k h1 h2 => updn (by omega))
      have e1 : ql (upd w (12 + z) (w (12 + p))) z 0 = ql w z 0 := ql_congr _ _ (fun k h1 h2 => updn (by omega))
      have e3 : ql (upd w (12 + z) (w (12 + p))) (z + 1) 0 = ql w z 0 ++ [nn (w (12 + p))] := by rw [ql_snoc, e1, show 12 + (0 + z) = 12 + z by omega, upde]
      rw [ql]
      by_cases hd : w (12 + p) = nI c
      · rw [if_pos hd]
        have hq := (en hv (by omega) (by omega)).mp hd
        obtain ⟨i1, i2, i3⟩ := ih m w z (p + 1) hcn hs (by omega) (by omega) (by omega)
        exact ⟨by rw [i1, List.filter_cons_of_neg (by rw [hq]; simp)], i2, i3⟩
      · rw [if_neg hd]
        have hq : ¬ nn (w (12 + p)) = c := fun q => hd ((en hv (by omega) (by omega)).mpr q)
        obtain ⟨i1, i2, i3⟩ := ih m (upd w (12 + z) (w (12 + p))) (z + 1) (p + 1) (Cn_upd (by omega) (by omega) (by omega) hcn) (fun k hk => by
          by_cases e : k = z
          · subst e; rw [upde]; exact hv
          · rw [updn (by omega)]; exact hs k hk) (by rw [e10]; omega) (by omega) (by omega)
        refine ⟨by rw [i1, e3, e2, List.filter_cons_of_pos (by simpa using hq), List.append_assoc]; rfl, i2, fun j h1 h2 => ?_⟩
        rw [i3 j h1 h2, updn (show ¬ 360 + i = 12 + z by omega)]
        unfold upd
        have q5 : ¬ j = 12 + z := by omega
        rw [if_neg q5]
