/-! who leaves a queue -/
theorem cntL_f {w : Row} {i c : Nat} : ∀ (l : List Nat), l.Nodup → c ∈ l → cntL w i l = cntL w i (l.filter (fun x => decide (x ≠ c))) + (if w (104 + 8 * c + 2) = nI i then 1 else 0) := by
  intro l
  induction l with
  | nil => intro _ h; cases h
  | cons x l ih =>
    intro hn hc
    obtain ⟨h1, h2⟩ := List.nodup_cons.mp hn
    by_cases e : x = c
    · subst e
      have hf : l.filter (fun y => decide (y ≠ x)) = l := List.filter_eq_self.mpr (fun y hy => by
        have : ¬ y = x := fun q => h1 (by rw [← q]; exact hy)
        simpa using this)
      rw [List.filter_cons_of_neg (by simp), hf, cntL]
      by_cases d : w (104 + 8 * x + 2) = nI i
      · rw [if_pos d, if_pos d]
      · rw [if_neg d, if_neg d]; rfl
    · have hcl : c ∈ l := (List.mem_cons.mp hc).resolve_left (fun q => e q.symm)
      rw [List.filter_cons_of_pos (by simpa using e), cntL, cntL, ih h2 hcl]
      by_cases d : w (104 + 8 * x + 2) = nI i
      · rw [if_pos d, if_pos d]; omega
      · rw [if_neg d, if_neg d]
theorem nthL_f {w : Row} {i c : Nat} (hd : ¬ w (104 + 8 * c + 2) = nI i) : ∀ (l : List Nat) (r : Nat), nthL w i (l.filter (fun x => decide (x ≠ c))) r = nthL w i l r := by
  intro l
  induction l with
  | nil => intro r; rfl
  | cons x l ih =>
    intro r
    by_cases e : x = c
    · subst e
      rw [List.filter_cons_of_neg (by simp), nthL, if_neg hd, ih]
    · rw [List.filter_cons_of_pos (by simpa using e), nthL, nthL, ih, ih]
section RE
variable {w : Row} {c i : Nat}
theorem re_qs (hc : c < 8) (hi : i < 12) (h : WA w) : qs (sX5_release w c i) = (qs w).filter (fun x => decide (x ≠ c)) := by
  have := (re_loop hc hi 9 (nn (w 10)) w 0 0 h.1 h.2 (by omega) (by omega) (by have := h.1.1.le; omega)).1
  exact this
theorem re_sm (hc : c < 8) (hi : i < 12) (h : WA w) : ∀ k, k < 8 → sm (sX5_release w c i (12 + k)) 7 := (re_loop hc hi 9 (nn (w 10)) w 0 0 h.1 h.2 (by omega) (by omega) (by have := h.1.1.le; omega)).2.1
theorem re_o (hc : c < 8) (hi : i < 12) (h : WA w) {j : Nat} (h1 : ¬ j = 10) (h2 : ¬ (12 ≤ j ∧ j < 20)) : sX5_release w c i j = upd (upd (upd (upd w (104 + 8 * c + 2) (-6)) (104 + 8 * c + 3) (-6)) (104 + 8 * c + 4) 0) (360 + i) (w (360 + i) - 1) j :=
  (re_loop hc hi 9 (nn (w 10)) w 0 0 h.1 h.2 (by omega) (by omega) (by have := h.1.1.le; omega)).2.2 j h1 h2
theorem re_E (hc : c < 8) (hi : i < 12) (h : WA w) : ∀ j, ¬ (j = 10 ∨ (12 ≤ j ∧ j < 20) ∨ j = 104 + 8 * c + 2 ∨ j = 104 + 8 * c + 3 ∨ j = 104 + 8 * c + 4 ∨ j = 360 + i) → sX5_release w c i j = w j := fun j hj => by
  rw [re_o hc hi h (by omega) (by omega), updn (by omega), updn (by omega), updn (by omega), updn (by omega)]
theorem re_2 (hc : c < 8) (hi : i < 12) (h : WA w) : sX5_release w c i (104 + 8 * c + 2) = -6 := by
  rw [re_o hc hi h (by omega) (by omega), updn (by omega), updn (by omega), updn (by omega), upde]
theorem re_3 (hc : c < 8) (hi : i < 12) (h : WA w) : sX5_release w c i (104 + 8 * c + 3) = -6 := by
  rw [re_o hc hi h (by omega) (by omega), updn (by omega), updn (by omega), upde]
theorem re_4 (hc : c < 8) (hi : i < 12) (h : WA w) : sX5_release w c i (104 + 8 * c + 4) = 0 := by
  rw [re_o hc hi h (by omega) (by omega), updn (by omega), upde]
theorem re_k (hc : c < 8) (hi : i < 12) (h : WA w) : sX5_release w c i (360 + i) = w (360 + i) - 1 := by
  rw [re_o hc hi h (by omega) (by omega), upde]
theorem WI_release (hc : c ∈ qs w) (hi : i < 12) (hw : w (104 + 8 * c + 2) = nI i) (h : WI w) : WI (sX5_release w c i) := by
  have hc8 := h.q8 hc
  have hc6 := h.lt6 hc
  have h6 := h.a.n6
  have h5 := h.a.n5
  have E := re_E (w := w) hc8 hi h.a
  have e2 := re_2 (w := w) hc8 hi h.a
  have e3 := re_3 (w := w) hc8 hi h.a
  have e4 := re_4 (w := w) hc8 hi h.a
  have eq := re_qs (w := w) hc8 hi h.a
  have hm : ∀ x, x ∈ (qs w).filter (fun x => decide (x ≠ c)) ↔ x ∈ qs w ∧ ¬ x = c := fun x => by
    rw [List.mem_filter]; simp
  refine ⟨?_, ?_, ?_, ?_, WB_c (fun j hj => E j (by omega)) h.b, WR_c (fun j hj => E j (by omega)) h.r, ?_, ?_, WT_c (fun j hj => E j (by omega)) h.t, WM_c (fun j hj => E j (by omega)) h.m, WX_c (fun j hj => E j (by omega)) h.x, WP_c (fun j hj => E j (by omega)) h.p, WZ_c (fun j hj => E j (by omega)) h.z, WS_c (fun j hj => E j (by omega)) h.s⟩
  · exact ⟨Cn_release hc8 hi h.cn, re_sm hc8 hi h.a⟩
  · unfold WQ
    rw [eq, E 5 (by omega), E 6 (by omega)]
    refine ⟨h.q.1.filter _, fun x hx => ?_, fun x hx => ?_⟩
    · obtain ⟨hx1, hx2⟩ := (hm x).mp hx
      have hx8 := h.q8 hx1
      rw [E _ (by omega)]; exact h.q.2.1 x hx1
    · by_cases e : x = c
      · subst e; exact Or.inl e2
      · rw [E _ (by omega)]
        rcases h.q.2.2 x hx with q | q
        · exact Or.inl q
        · exact Or.inr ((hm x).mpr ⟨q, e⟩)
  · intro x hx hq
    by_cases e : x = c
    · subst e; exact ⟨e3, e4⟩
    · rw [E _ (by omega)] at hq
      rw [E _ (by omega), E _ (by omega)]; exact h.n x hx hq
  · intro k hk
    have cf := cntL_f (w := w) (i := k) (qs w) h.q.1 hc
    have cc : cntL (sX5_release w c i) k ((qs w).filter (fun x => decide (x ≠ c))) = cntL w k ((qs w).filter (fun x => decide (x ≠ c))) := cntL_congr _ (fun x hx => by
      obtain ⟨hx1, hx2⟩ := (hm x).mp hx
      have hx8 := h.q8 hx1
      exact E _ (by omega))
    rw [eq, cc]
    by_cases e : k = i
    · subst e
      rw [if_pos hw] at cf
      rw [re_k hc8 hk h.a, h.k k hk, cf, nI_pred]
    · rw [if_neg (by rw [hw, nI_eq (by omega) (by omega)]; exact fun q => e q.symm)] at cf
      rw [E _ (by omega), h.k k hk, cf]; rfl
  · intro x k hx hk hq
    have hxc : ¬ x = c := fun e => by
      subst e
      rw [e2] at hq
      exact nn_neg6 (by omega) hq.symm
    rw [E _ (by omega)] at hq
    rw [E (104 + 8 * x) (by omega), E (20 + 7 * k) (by omega), E (20 + 7 * k + 1) (by omega), E (104 + 8 * x + 3) (by omega), E (20 + 7 * k + 2) (by omega), E (104 + 8 * x + 4) (by omega), E 4 (by omega)]
    exact h.e x k hx hk hq
  · unfold WD
    rw [eq]
    refine List.Pairwise.imp_of_mem (fun {a b} ha hb hab => ?_) (List.Pairwise.filter _ h.d)
    obtain ⟨ha1, ha2⟩ := (hm a).mp ha
    obtain ⟨hb1, hb2⟩ := (hm b).mp hb
    have := h.q8 ha1
    have := h.q8 hb1
    rw [E _ (by omega), E _ (by omega)]; exact hab
/-- a riddle drawn at a bridge -/
theorem WI_draw (hi : i < nn (w 5)) (h : WI w) : WI (drw w i) := by
  have h5 := h.a.n5
  have hi12 : i < 12 := by omega
  have E : ∀ j, ¬ (j = 7 ∨ j = 20 + 7 * i + 3 ∨ (168 ≤ j ∧ j < 360 ∧ ((j - 168) / 2) % 12 = i)) → drw w i j = w j := fun j hj => drw_o hi12 (by omega) (by omega) (by omega)
  have hs := h.sz hi
  have hr := rd_sm (sd_sm h.s.2.2.2.2.1) hs.1 hs.2 (by omega)
  have hn := nn_toInt hs.1.1
  have r0 := hr.1
  have r1 := hr.2
  refine ⟨WA_c (fun j hj => E j (by omega)) h.a, WQ_c (fun j hj => E j (by omega)) h.a h.q, WN_c (fun j hj => E j (by omega)) h.n, WK_c (fun j hj => E j (by omega)) h.a h.q h.k, ?_, ?_, WE_c (fun j hj => E j (by omega)) h.e, WD_c (fun j hj => E j (by omega)) h.a h.q h.d, WT_c (fun j hj => E j (by omega)) h.t, WM_c (fun j hj => E j (by omega)) h.m, WX_c (fun j hj => E j (by omega)) h.x, WP_c (fun j hj => E j (by omega)) h.p, WZ_c (fun j hj => E j (by omega)) h.z, ?_⟩
  · intro k hk hkn
    rw [E 5 (by omega)] at hkn
    rw [E _ (by omega), E _ (by omega), E _ (by omega)]
    by_cases e : k = i
    · subst e
      rw [drw_3 hi12]
      exact ⟨(h.b k hk hkn).1, (h.b k hk hkn).2.1, r0, by have := hs.2; omega⟩
    · rw [E _ (by omega)]; exact h.b k hk hkn
  · intro x k hx hk hkn
    rw [E 5 (by omega)] at hkn
    rw [(drw_r hi12 hk hx).1, (drw_r hi12 hk hx).2, E (20 + 7 * k + 2) (by omega)]
    by_cases e : k = i
    · subst e
      rw [if_pos rfl, if_pos rfl, drw_3 hi12, pm1 hs.1, show (0 : Int32).toInt = 0 from by decide]
      have := hs.2
      omega
    · rw [if_neg e, if_neg e, E _ (by omega)]; exact h.r x k hx hk hkn
  · unfold WS
    rw [E 0 (by omega), E 1 (by omega), E 2 (by omega), E 3 (by omega), E 4 (by omega), drw_7 hi12]
    exact ⟨h.s.1, h.s.2.1, h.s.2.2.1, h.s.2.2.2.1, sd_sm h.s.2.2.2.2.1, h.s.2.2.2.2.2⟩
theorem draw5 (hi : i < nn (w 5)) (h : WI w) : sX5_drawRiddle w i = drw w i := by
  have h5 := h.a.n5
  refine dr5 (by omega) (fun q => ?_)
  have := (h.sz hi).2
  rw [Int32.le_iff_toInt_le, show (0 : Int32).toInt = 0 from by decide] at q
  omega
end RE
