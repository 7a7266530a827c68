/-! texts: orders are carried out alike -/
section CA
variable {u0 r0 c r : Row}
def FLs (u0 r0 r : Row) : Prop := ∃ n p c, RK u0 r0 [] c r ∧ (bX3_faultPlace_6 n c p).1 = -6
theorem sm_6 {v : Int32} {n : Nat} (h : sm v n) : ¬ v = -6 := fun q => by
  have := h.1
  rw [q, show (-6 : Int32).toInt = -6 from by decide] at this
  omega
theorem FL_step (h : FLs u0 r0 r) : ¬ (sX7_readsOrder r).1 = 0 ∧ (((sX7_readsOrder r).2 2 = (sX7_readsOrder r).2 1) ∨ (sX7_takes (sX7_readsOrder r).2 59 = (1, upd (sX7_readsOrder r).2 2 ((sX7_readsOrder r).2 2 + 1)) ∧ FLs u0 r0 (upd (sX7_readsOrder r).2 2 ((sX7_readsOrder r).2 2 + 1)))) := by
  obtain ⟨n, p, c, hk, hf⟩ := h
  cases n with
  | zero => exact absurd (show (0 : Int32) = -6 from hf) (by decide)
  | succ n =>
    rw [bX3_faultPlace_6] at hf
    have o := order_ok hk
    by_cases a : 80 ≤ nI p
    · rw [if_pos a] at hf
      have hf' : c 4 = -6 := hf
      rw [hk.2.1] at hf'
      exact absurd hf' (sm_6 hk.1.2.1.2)
    · rw [if_neg a] at hf
      have o2 := o.2.1
      by_cases b : (sX3_readOrder c).1 = 0
      · rw [if_pos b] at hf
        have hf' : (sX3_readOrder c).2 4 = -6 := hf
        rw [o2.2.1] at hf'
        exact absurd hf' (sm_6 o2.1.2.1.2)
      · rw [if_neg b] at hf
        have b' : ¬ (sX7_readsOrder r).1 = 0 := fun q => b (o.1.trans q)
        refine ⟨b', ?_⟩
        clear o b b'
        revert hf o2
        generalize (sX3_readOrder c).2 = c1
        generalize (sX7_readsOrder r).2 = r1
        intro hf o2
        by_cases d : c1 4 = c1 3
        · exact Or.inl (by rw [← o2.2.1, d, o2.len])
        · rw [if_neg d] at hf
          rcases sign_cases o2 (v := 59) (by decide) with ⟨s1, s2⟩ | ⟨s1, s2, hl⟩
          · rw [s1, if_pos (show (0, c1).1 = (0 : Int32) from rfl)] at hf
            have hf' : c1 4 = -6 := hf
            rw [o2.2.1] at hf'
            exact absurd hf' (sm_6 o2.1.2.1.2)
          · rw [s1, if_neg (show ¬ ((1 : Int32), upd c1 4 (c1 4 + 1)).1 = 0 by show ¬ (1 : Int32) = 0; decide)] at hf
            exact Or.inr ⟨s2, n, p + 1, _, o2.pos (by decide) hl, hf⟩
theorem ord_end (h : RK u0 r0 [] c r) (z : nn (r 1) ≤ nn (r 2)) : sX3_readOrder c = (0, upd c 5 (-1)) ∧ (sX7_readsOrder r).1 = 0 := by
  have e : sX3_readOrder c = (0, upd c 5 (-1)) := by
    unfold sX3_readOrder
    rw [upde, codeAt_end h z, if_pos (show sX3_isKind (-1) = 0 by decide)]
  have o := (order_ok h).1
  rw [e] at o
  exact ⟨e, o.symm⟩
theorem RK.c5 (h : RK u0 r0 [] c r) {v : Int32} : RK u0 r0 [] (upd c 5 v) r := by
  obtain ⟨⟨g, p, a, b⟩, e, l⟩ := h
  refine ⟨⟨⟨?_, fun j hj => ?_⟩, p, ?_, b⟩, ?_, fun q hq => absurd hq (List.not_mem_nil)⟩
  · rw [updn (by omega)]; exact g.1
  · rw [updn (by omega)]; exact g.2 j hj
  · rw [updn (by omega), updn (by omega), updn (by omega), updn (by omega)]; exact a
  · rw [updn (by omega)]; exact e
theorem rec_nI {G : GS} {p : Nat} (hp : p ≤ 80) : sX6_recorded G (nI p) = (nI p, upC G (sX2_keepNoted G.2.1)) := by
  unfold sX6_recorded
  rw [if_neg (show ¬ nI p < 0 by
    rw [Int32.lt_iff_toInt_lt, nI_toInt (by omega), show (0 : Int32).toInt = 0 from by decide]; omega)]
theorem fin_c {N : GS} {w c : Row} {p : Nat} (hp : p ≤ 80) : sX6_recorded (upC (Gc_ N w c) (sX4_clear (Gc_ N w c).2.1)) (nI p) = (nI p, Gc_ N w (sX2_keepNoted (upd c 3 0))) := rec_nI hp
theorem cls_end {N : GS} {w : Row} {m p : Nat} (h : RK u0 r0 [] c r) (z : nn (r 1) ≤ nn (r 2)) (hp : p ≤ 80) : ∃ c', bX6_carryOut_35 (m + 1) (Gc_ N w c) p = (nI p, Gc_ N w (sX2_keepNoted (upd c' 3 0))) ∧ RK u0 r0 [] c' r := by
  rw [bX6_carryOut_35, Gc_c]
  by_cases a : 80 ≤ nI p
  · rw [if_pos a]
    have f := fin_c (N := N) (w := w) (c := c) hp
    rw [Gc_c] at f
    rw [f]
    exact ⟨c, rfl, h⟩
  · have e := (ord_end h z).1
    rw [if_neg a, e, if_pos (show ((0 : Int32), upd c 5 (-1)).1 = 0 from rfl)]
    refine ⟨upd c 5 (-1), ?_, h.c5⟩
    have f := fin_c (N := N) (w := w) (c := upd c 5 (-1)) hp
    exact (congrArg (fun x : Int32 × GS => (x.1, x.2)) f)
theorem ref_end {M : GS} {q r : Row} {n p : Nat} : bX7_carryOut_25 (n + 1) (Gr_ M q r) p 0 = (nI p, Gr_ M q (upd r 1 0)) := by
  rw [bX7_carryOut_25, if_pos rfl]; rfl
theorem carry_loop {N M : GS} (hM : ∀ q r, Inv q → Pt r → r 0 = r0 0 → Gi (Gr_ M q r)) : ∀ (n : Nat) (c r w q : Row) (p : Nat), p ≤ 80 → 80 - p < n → p ≤ nn (r 2) → RK u0 r0 [] c r → FLs u0 r0 r → Rel w q → Inv q →
    ∃ k w' q' c' r', bX6_carryOut_35 n (Gc_ N w c) p = (nI k, Gc_ N w' (sX2_keepNoted (upd c' 3 0))) ∧ bX7_carryOut_25 (n + 1) (Gr_ M q r) p 1 = (nI k, Gr_ M q' (upd r' 1 0)) ∧ Rel w' q' ∧ Inv q' ∧ RK u0 r0 [] c' r' := by
  intro n
  induction n with
  | zero => intro c r w q p _ h; omega
  | succ n ih =>
    intro c r w q p hp hn hpr h hF hR hI
    have fs := FL_step hF
    have lt : nn (r 2) < nn (r 1) := by
      rcases Nat.lt_or_ge (nn (r 2)) (nn (r 1)) with k | k
      · exact k
      · exact absurd (ord_end h k).2 fs.1
    have pl := h.1.2.1.1.le
    have o := order_ok h
    have oc : ¬ (sX3_readOrder c).1 = 0 := fun k => fs.1 (o.1.symm.trans k)
    have hpq : Pq p (sX7_readsOrder r).2 := Pq_readsOrder ⟨h.1.2.1, hpr⟩
    have K := o.2.2 oc
    have h1 := o.2.1
    have c80 : ¬ 80 ≤ nI p := nI_ge (b := 80) (by omega) (by decide)
    have S1 : bX6_carryOut_35 (n + 1) (Gc_ N w c) p = if (sX6_obey (Gc_ N w (sX3_readOrder c).2)).1 < 0 then sX6_recorded (upC (sX6_obey (Gc_ N w (sX3_readOrder c).2)).2 (sX4_clear (sX6_obey (Gc_ N w (sX3_readOrder c).2)).2.2.1)) (nI p)
        else bX6_carryOut_35 n (upC (sX6_obey (Gc_ N w (sX3_readOrder c).2)).2 (sX3_readSign (sX6_obey (Gc_ N w (sX3_readOrder c).2)).2.2.1 59).2) (p + 1) := by
      rw [bX6_carryOut_35, if_neg c80, Gc_c, if_neg oc]; rfl
    have S2 : bX7_carryOut_25 (n + 1 + 1) (Gr_ M q r) p 1 = if sX7_orderError (Gr_ M q (sX7_readsOrder r).2) = 0 then
        (if (sX7_takes (sX7_does (Gr_ M q (sX7_readsOrder r).2)).2.2.2.2 59).1 = 0 then bX7_carryOut_25 (n + 1) (upR (sX7_does (Gr_ M q (sX7_readsOrder r).2)).2 (sX7_takes (sX7_does (Gr_ M q (sX7_readsOrder r).2)).2.2.2.2 59).2) (p + 1) 0
          else bX7_carryOut_25 (n + 1) (upR (sX7_does (Gr_ M q (sX7_readsOrder r).2)).2 (sX7_takes (sX7_does (Gr_ M q (sX7_readsOrder r).2)).2.2.2.2 59).2) (p + 1) 1)
        else bX7_carryOut_25 (n + 1) (Gr_ M q (sX7_readsOrder r).2) p 0 := by
      rw [bX7_carryOut_25, if_neg (show ¬ (1 : Int32) = 0 by decide), Gr_r, if_neg fs.1]; rfl
    rw [S1, S2]
    clear S1 S2 o oc
    have fs2 := fs.2
    clear fs hF
    revert fs2 hpq K h1
    generalize (sX3_readOrder c).2 = c1
    generalize (sX7_readsOrder r).2 = r1
    intro hpq K h1 fs2
    have B := obey_rel (N := N) (M := M) K hI hR (hM q r1 hI h1.1.2.1 h1.1.2.2.2.1)
    by_cases e : sX7_orderError (Gr_ M q r1) = 0
    · obtain ⟨b1, w', q', b2, b3, b4, b5⟩ := B.2 e
      rw [if_neg b1, if_pos e, b2, b3, Gc_c, Gr_r]
      rcases fs2 with z | ⟨z, hF'⟩
      · have zz : nn (r1 1) ≤ nn (r1 2) := by rw [z]; exact Nat.le_refl _
        rcases sign_cases h1 (v := 59) (by decide) with ⟨s1, s2⟩ | ⟨s1, s2, hl⟩
        · rw [s1, s2, if_pos (show ((0 : Int32), r1).1 = 0 from rfl)]
          cases n with
          | zero => omega
          | succ n =>
            obtain ⟨c', f1, f2⟩ := cls_end (N := N) (w := w') (m := n) (p := p + 1) h1 zz (by omega)
            exact ⟨p + 1, w', q', c', r1, f1, (ref_end : bX7_carryOut_25 (n + 1 + 1) (Gr_ M q' r1) (p + 1) 0 = (nI (p + 1), Gr_ M q' (upd r1 1 0))), b4, b5, f2⟩
        · omega
      · rcases sign_cases h1 (v := 59) (by decide) with ⟨s1, s2⟩ | ⟨s1, s2, hl⟩
        · rw [s2] at z
          exact absurd (congrArg Prod.fst z) (by show ¬ (0 : Int32) = 1; decide)
        · rw [s1, s2, if_neg (show ¬ ((1 : Int32), upd r1 2 (r1 2 + 1)).1 = 0 by show ¬ (1 : Int32) = 0; decide)]
          have hk := h1.pos (by decide) hl
          have b1l := h1.1.2.1.1.le
          have inc := nn_inc h1.1.2.1.2 (by omega)
          refine ih (upd c1 4 (c1 4 + 1)) (upd r1 2 (r1 2 + 1)) w' q' (p + 1) (by omega) (by omega) ?_ hk hF' b4 b5
          rw [upde, inc.1]
          have := hpq.2
          omega
    · obtain ⟨b1, b2⟩ := B.1 e
      rw [if_pos b1, if_neg e, b2]
      exact ⟨p, w, q, c1, r1, fin_c hp, ref_end, hR, hI, h1⟩
end CA
