/-! steps of both sides, side by side -/
theorem Rel.q8 {w r : Row} (h : Rel w r) (hr : Cn r) : ∀ c, c ∈ qs r → c < 8 := fun c hc => by
  rw [← h.q] at hc
  obtain ⟨k, q1, q2, q3⟩ := ql_mem _ _ hc
  have := (h.cn hr).1.le
  have := (h.2.2.1 k (by omega)).le
  omega
theorem Rel_upd {w r : Row} {j : Nat} {v : Int32} (h6 : ¬ j = 6) (h10 : ¬ j = 10) (hq : ¬ (12 ≤ j ∧ j < 20)) (ha : ∀ c, c < 8 → ¬ j = 104 + 8 * c + 2 ∧ ¬ j = 104 + 8 * c + 3) (hj : j < 360) (hr : Cn r) (h : Rel w r) : Rel (upd w j v) (upd r j v) := by
  have eqr := qs_upd (w := r) (v := v) h10 hq hr
  have h8 := hr.2.2.le
  have P : ∀ k, w k = r k → upd w j v k = upd r j v k := fun k hk => by
    by_cases e : k = j
    · subst e; rw [upde, upde]
    · rw [updn e, updn e]; exact hk
  refine ⟨fun k hk => P k (h.j hk), ?_, fun k hk => ?_, fun k h1 h2 => P k (h.b h1 h2), fun c f hc hf hcf => ?_, fun k h1 h2 => P k (h.g h1 h2), fun i hi => ?_, fun c hc hn => ?_⟩
  · rw [qs_upd h10 hq (h.cn hr), eqr]; exact h.q
  · rw [updn (by omega)]; exact h.2.2.1 k hk
  · rw [updn (fun q => h6 q.symm)] at hcf
    exact P _ (h.c hc hf hcf)
  · rw [eqr, updn (by omega), h.2.2.2.2.2.2.1 i hi]
    congr 1
    exact cntL_congr _ (fun c hc => by rw [updn (fun q => (ha c (h.q8 hr c hc)).1 q.symm)])
  · rw [updn (fun q => h6 q.symm)] at hn
    rw [updn (fun q => (ha c hc).1 q.symm), updn (fun q => (ha c hc).2 q.symm)]
    exact h.2.2.2.2.2.2.2 c hc hn
theorem Rel_drw {w r : Row} {i : Nat} (hi : i < 12) (hr : Cn r) (h : Rel w r) : Rel (drw w i) (drw r i) := by
  have e2 : w (20 + 7 * i + 2) = r (20 + 7 * i + 2) := h.b (by omega) (by omega)
  have e7 : w 7 = r 7 := h.j (by omega)
  have h1 : Rel (upd w 7 (sd (w 7))) (upd r 7 (sd (r 7))) := by
    rw [e7]; exact Rel_upd (by omega) (by omega) (by omega) (fun c hc => by omega) (by omega) hr h
  have hr1 : Cn (upd r 7 (sd (r 7))) := Cn_upd (by omega) (by omega) (by omega) hr
  have h2 : Rel (upd (upd w 7 (sd (w 7))) (20 + 7 * i + 3) (rd (sd (w 7)) (w (20 + 7 * i + 2)))) (upd (upd r 7 (sd (r 7))) (20 + 7 * i + 3) (rd (sd (r 7)) (r (20 + 7 * i + 2)))) := by
    rw [e7, e2] at *
    exact Rel_upd (by omega) (by omega) (by omega) (fun c hc => by omega) (by omega) hr1 h1
  have hr2 : Cn (upd (upd r 7 (sd (r 7))) (20 + 7 * i + 3) (rd (sd (r 7)) (r (20 + 7 * i + 2)))) := Cn_upd (by omega) (by omega) (by omega) hr1
  unfold drw
  generalize upd (upd w 7 (sd (w 7))) (20 + 7 * i + 3) (rd (sd (w 7)) (w (20 + 7 * i + 2))) = W at *
  generalize upd (upd r 7 (sd (r 7))) (20 + 7 * i + 3) (rd (sd (r 7)) (r (20 + 7 * i + 2))) = R at *
  have E : ∀ (V : Row) (j : Nat), ¬ (168 ≤ j ∧ j < 360) → rng V i 0 j = V j := fun V j hj => by
    unfold rng
    rw [if_neg (by omega)]
  have eqR := qs_congr (w := R) (w' := rng R i 0) (E R 10 (by omega)) (fun k hk => E R _ (by omega)) hr2
  have eqW := qs_congr (w := W) (w' := rng W i 0) (E W 10 (by omega)) (fun k hk => E W _ (by omega)) (h2.cn hr2)
  refine ⟨fun k hk => ?_, ?_, fun k hk => ?_, fun k p q => ?_, fun c f hc hf hcf => ?_, fun k p q => ?_, fun i' hi' => ?_, fun c hc hn => ?_⟩
  · rw [E _ _ (by omega), E _ _ (by omega)]; exact h2.j hk
  · rw [eqR, eqW]; exact h2.q
  · rw [E _ _ (by omega)]; exact h2.2.2.1 k hk
  · rw [E _ _ (by omega), E _ _ (by omega)]; exact h2.b p q
  · rw [E _ _ (by omega)] at hcf
    rw [E _ _ (by omega), E _ _ (by omega)]; exact h2.c hc hf hcf
  · have a := h2.b (j := 20 + 7 * i + 2) (by omega) (by omega)
    have b := h2.g p q
    unfold rng
    rw [a, b]
  · rw [eqR, E _ _ (by omega), h2.2.2.2.2.2.2.1 i' hi']
    congr 1
    exact (cntL_congr _ (fun c hc => by
      have := h2.q8 hr2 c hc
      rw [E _ _ (by omega)])).symm
  · rw [E _ _ (by omega)] at hn
    rw [E _ _ (by omega), E _ _ (by omega)]; exact h2.2.2.2.2.2.2.2 c hc hn
theorem cntL_out {w : Row} {i c : Nat} (hc : ¬ w (104 + 8 * c + 2) = nI i) : ∀ (l : List Nat), cntL w i (l.filter (fun x => decide (x ≠ c))) = cntL w i l := by
  intro l
  induction l with
  | nil => rfl
  | cons x l ih =>
    by_cases e : x = c
    · subst e
      rw [List.filter_cons_of_neg (by simp), cntL, if_neg hc, ih]
    · rw [List.filter_cons_of_pos (by simpa using e), cntL, cntL, ih]
theorem cntL_in {w : Row} {i c : Nat} (hc : w (104 + 8 * c + 2) = nI i) : ∀ (l : List Nat), l.Nodup → c ∈ l → cntL w i l = cntL w i (l.filter (fun x => decide (x ≠ c))) + 1 := by
  intro l
  induction l with
  | nil => intro _ h; cases h
  | cons x l ih =>
    intro hd hm
    obtain ⟨h1, h2⟩ := List.nodup_cons.mp hd
    by_cases e : x = c
    · subst e
      rw [List.filter_cons_of_neg (by simp), cntL, if_pos hc]
      have : l.filter (fun y => decide (y ≠ x)) = l := List.filter_eq_self.mpr (fun y hy => by
        have : ¬ y = x := fun q => h1 (by rw [← q]; exact hy)
        simpa using this)
      rw [this]
    · have hm2 : c ∈ l := by
        rcases List.mem_cons.mp hm with q | q
        · exact absurd q.symm e
        · exact q
      rw [List.filter_cons_of_pos (by simpa using e), cntL, cntL, ih h2 hm2]
      split <;> omega
theorem re_all {w : Row} {c i : Nat} (hc : c < 8) (hi : i < 12) (hcn : Cn w) (hs : ∀ k, k < 8 → sm (w (12 + k)) 7) : qs (sX5_release w c i) = (qs w).filter (fun x => decide (x ≠ c)) ∧ (∀ k, k < 8 → sm (sX5_release w c i (12 + k)) 7) ∧
    ∀ j, ¬ j = 10 → ¬ (12 ≤ j ∧ j < 20) → sX5_release w c i j = upd (upd (upd (upd w (104 + 8 * c + 2) (-6)) (104 + 8 * c + 3) (-6)) (104 + 8 * c + 4) 0) (360 + i) (w (360 + i) - 1) j := by
  unfold sX5_release
  have h8 := hcn.1.le
  have := re_loop hc hi 9 (nn (w 10)) w 0 0 hcn hs (by omega) (by omega) (by omega)
  refine ⟨this.1.trans ?_, this.2⟩
  show [] ++ _ = _
  rw [List.nil_append]; rfl
theorem Rel_release {w r : Row} {c i : Nat} (hc : c ∈ qs r) (ha : r (104 + 8 * c + 2) = nI i) (hi : i < 12) (hI : Inv r) (h : Rel w r) : Rel (sX5_release w c i) (sX7_stopsWaiting r c) := by
  have hr := hI.1
  have h6 := hr.1.2.2.le
  have hc6 := (hI.2.1.2.1 c hc).1
  have hc8 : c < 8 := by omega
  obtain ⟨a1, a2, a3⟩ := re_all (i := i) hc8 hi (h.cn hr.1) h.2.2.1
  have b1 := st_qs hc8 hr
  have b3 : ∀ j, ¬ j = 10 → ¬ (12 ≤ j ∧ j < 20) → sX7_stopsWaiting r c j = upd (upd (upd r (104 + 8 * c + 2) (-6)) (104 + 8 * c + 3) (-6)) (104 + 8 * c + 4) 0 j := fun j p q => st_else hc8 hr p q
  have hq : qs (sX5_release w c i) = qs (sX7_stopsWaiting r c) := by rw [a1, b1, h.q]
  have cW := Cn_release (i := i) hc8 hi (h.cn hr.1)
  have cR := (Rn_stops hc8 hr).1
  have P : ∀ k, w k = r k → ¬ k = 10 → ¬ (12 ≤ k ∧ k < 20) → k < 360 → sX5_release w c i k = sX7_stopsWaiting r c k := fun k hk p q s => by
    rw [a3 k p q, b3 k p q, updn (by omega)]
    by_cases e4 : k = 104 + 8 * c + 4
    · subst e4; rw [upde, upde]
    rw [updn e4, updn e4]
    by_cases e3 : k = 104 + 8 * c + 3
    · subst e3; rw [upde, upde]
    rw [updn e3, updn e3]
    by_cases e2 : k = 104 + 8 * c + 2
    · subst e2; rw [upde, upde]
    rw [updn e2, updn e2]; exact hk
  have e6 : sX7_stopsWaiting r c 6 = r 6 := (st5 hc8 hr).2
  have e2 : sX7_stopsWaiting r c (104 + 8 * c + 2) = -6 := by rw [b3 _ (by omega) (by omega), updn (by omega), updn (by omega), upde]
  refine ⟨fun k hk => ?_, hq, a2, fun k p q => P k (h.b p q) (by omega) (by omega) (by omega), fun x f hx hf hxf => ?_, fun k p q => P k (h.g p q) (by omega) (by omega) (by omega), fun i' hi' => ?_, fun x hx hn => ?_⟩
  · by_cases e : k = 10
    · subst e
      rw [cW.1.eq, cR.1.eq, ← qs_len, ← qs_len, hq]
    · exact P k (h.j hk) e (by omega) (by omega)
  · rw [e6] at hxf
    exact P _ (h.c hx hf hxf) (by omega) (by omega) (by omega)
  · have hw := h.2.2.2.2.2.2.1
    rw [a3 _ (by omega) (by omega), b1]
    have C : cntL (sX7_stopsWaiting r c) i' ((qs r).filter (fun x => decide (x ≠ c))) = cntL r i' ((qs r).filter (fun x => decide (x ≠ c))) := cntL_congr _ (fun x hx => by
      obtain ⟨x1, x2⟩ := List.mem_filter.mp hx
      have hxc : ¬ x = c := by simpa using x2
      have x8 := qs_8 hr x x1
      rw [b3 _ (by omega) (by omega), updn (by omega), updn (by omega), updn (by omega)])
    rw [C]
    by_cases e : i' = i
    · subst e
      rw [upde, hw i' hi', cntL_in ha (qs r) hI.2.1.1 hc]
      exact nI_pred _
    · rw [updn (by omega), updn (by omega), updn (by omega), updn (by omega), hw i' hi', cntL_out (fun q => e ((nI_eq (by omega) (by omega)).mp (q.symm.trans ha)))]
  · rw [e6] at hn
    have := h.2.2.2.2.2.2.2 x hx hn
    rw [a3 _ (by omega) (by omega), a3 _ (by omega) (by omega), updn (by omega), updn (by omega), updn (by omega), updn (by omega), updn (by omega), updn (by omega), updn (by omega), updn (by omega)]; exact this
