/-! texts: the fault -/
section FL
variable {u0 r0 : Row}
theorem fault_loop : ∀ (n : Nat) (c r : Row) (p : Nat), p ≤ 80 → 80 - p < n → Pq p r → RK u0 r0 [] c r →
    (bX3_faultPlace_6 n c p).1 = (bX7_fault_7 (n + 1) r 1).1 ∧ RK u0 r0 [] (bX3_faultPlace_6 n c p).2 (bX7_fault_7 (n + 1) r 1).2 := by
  intro n
  induction n with
  | zero => intro c r p _ h; omega
  | succ n ih =>
    intro c r p hp hn hq h
    rw [bX3_faultPlace_6, bX7_fault_7, if_neg (show ¬ (1 : Int32) = 0 by decide)]
    have o := order_ok h
    have pl := h.1.2.1.1.le
    have ql := h.1.2.1.2.le
    by_cases c80 : 80 ≤ nI p
    · rw [if_pos c80]
      have e : p = 80 := by
        rcases Nat.lt_or_ge p 80 with q | q
        · exact absurd c80 (nI_ge (b := 80) q (by decide))
        · omega
      have hpl : p ≤ nn (r 2) := hq.2
      have z : nn (r 1) ≤ nn (r 2) := by omega
      have n0 : (sX7_readsOrder r).1 = 0 ∧ (sX7_readsOrder r).2 2 = r 2 := by
        have e3 : (upd r 3 32) 2 = r 2 := updn (by omega)
        have e1 : sX7_readsOrder r = (0, upd (upd (upd r 3 32) 2 ((upd r 3 32) 2 + 1)) 2 ((upd (upd r 3 32) 2 ((upd r 3 32) 2 + 1)) 2 - 1)) := by
          unfold sX7_readsOrder
          rw [if_pos ((z_le h).mpr z)]
          unfold bX7_readsOrder_27
          rw [if_neg (by decide), if_neg (by decide), if_neg (by decide), if_neg (by decide), if_neg (by decide), if_neg (by decide)]
        rw [e1]
        refine ⟨rfl, ?_⟩
        show (upd (upd (upd r 3 32) 2 ((upd r 3 32) 2 + 1)) 2 ((upd (upd r 3 32) 2 ((upd r 3 32) 2 + 1)) 2 - 1)) 2 = r 2
        rw [upde, upde, e3, back1 h.1.2.1.2]
      rw [if_pos n0.1]
      have k0 : (sX3_readOrder c).1 = 0 := o.1.trans n0.1
      refine ⟨by rw [n0.2]; exact h.2.1, ?_⟩
      have g := o.2.1
      obtain ⟨⟨g1, g2, g3, g4⟩, g5, g6⟩ := g
      have cc : ∀ j, ¬ j = 5 → (sX3_readOrder c).2 j = c j := by
        intro j hj
        have : sX3_readOrder c = (0, upd c 5 (-1)) := by
          unfold sX3_readOrder
          rw [upde, codeAt_end h z, if_pos (show sX3_isKind (-1) = 0 by decide)]
        rw [this]
        exact updn hj
      refine ⟨⟨⟨?_, fun j hj => ?_⟩, g2, h.1.2.2.1, g4⟩, ?_, fun q hq => absurd hq (List.not_mem_nil)⟩
      · exact (cc 3 (by omega)).symm.trans g1.1
      · exact ⟨(cc (100 + j) (by omega)).symm.trans (g1.2 j hj).1, (g1.2 j hj).2⟩
      · exact (cc 4 (by omega)).symm.trans g5
    · rw [if_neg c80]
      have hp2 := lit_lt (n := 80) c80 (by omega) (by omega)
      by_cases a : (sX3_readOrder c).1 = 0
      · rw [if_pos a, if_pos (o.1.symm.trans a)]
        exact ⟨o.2.1.2.1, o.2.1⟩
      · rw [if_neg a, if_neg (fun q => a (o.1.trans q))]
        have hq' : Pq p (sX7_readsOrder r).2 := Pq_readsOrder hq
        have h' := o.2.1
        revert hq' h'
        generalize (sX3_readOrder c).2 = c1
        generalize (sX7_readsOrder r).2 = r1
        intro hq' h'
        have sc := sign_cases h' (v := 59) (by decide)
        by_cases b : c1 4 = c1 3
        · rw [if_pos b]
          rw [h'.2.1, h'.len] at b
          rcases sc with ⟨s1, s2⟩ | ⟨s1, s2, hl⟩
          · rw [s2, bX7_fault_7, if_pos (show (0, r1).1 = (0 : Int32) from rfl), if_pos (show (0, r1).2 2 = (0, r1).2 1 from b)]
            exact ⟨rfl, h'⟩
          · rw [b] at hl; exact absurd hl (Nat.lt_irrefl _)
        · rw [if_neg b]
          rw [h'.2.1, h'.len] at b
          rcases sc with ⟨s1, s2⟩ | ⟨s1, s2, hl⟩
          · rw [s1, s2, if_pos (show (0, c1).1 = (0 : Int32) from rfl), bX7_fault_7, if_pos (show (0, r1).1 = (0 : Int32) from rfl), if_neg (show ¬ (0, r1).2 2 = (0, r1).2 1 from b)]
            exact ⟨h'.2.1, h'⟩
          · rw [s1, s2, if_neg (show ¬ ((1 : Int32), upd c1 4 (c1 4 + 1)).1 = 0 by show ¬ (1 : Int32) = 0; decide)]
            have hk := h'.pos (by decide) hl
            have b1 := h'.1.2.1.1.le
            have inc := nn_inc h'.1.2.1.2 (by omega)
            refine ih _ _ (p + 1) (by omega) (by omega) ⟨hk.1.2.1, ?_⟩ hk
            show p + 1 ≤ nn ((upd r1 2 (r1 2 + 1)) 2)
            rw [upde, inc.1]
            have := hq'.2
            omega
theorem RK_start {c r : Row} (h : TT u0 r0 c r) : RK u0 r0 [] (upd c 4 0) (upd r 2 0) := by
  obtain ⟨g, p, a, b⟩ := h
  refine ⟨⟨⟨?_, fun j hj => ?_⟩, ⟨?_, ?_⟩, ?_, ?_⟩, ?_, fun q hq => absurd hq (List.not_mem_nil)⟩
  · rw [updn (by omega), updn (by omega)]; exact g.1
  · rw [updn (by omega)] at hj
    rw [updn (by omega), updn (by omega)]; exact g.2 j hj
  · rw [updn (by omega)]; exact p.1
  · rw [upde]; exact sm_nI (j := 0) (n := 80) (by omega) (by omega)
  · rw [updn (by omega), updn (by omega), updn (by omega), updn (by omega)]; exact a
  · rw [updn (by omega), updn (by omega), updn (by omega)]; exact b
  · rw [upde, upde]
theorem fault_E {c r : Row} (h : TT u0 r0 c r) : (sX3_faultPlace c).1 = (sX7_fault r).1 ∧ RK u0 r0 [] (sX3_faultPlace c).2 (sX7_fault r).2 := by
  have k := RK_start h
  exact fault_loop 81 _ _ 0 (by omega) (by omega) ⟨k.1.2.1, Nat.zero_le _⟩ k
end FL
theorem TT_self {g : GS} (h : RG g) : TT g.2.1 g.2.2.2 g.2.1 g.2.2.2 := ⟨h.2.2.2.2.2, h.2.1.2.1, ⟨rfl, rfl, rfl, rfl⟩, rfl, rfl, rfl⟩
theorem RG_TT {g : GS} {c r : Row} (h : RG g) (t : TT g.2.1 g.2.2.2 c r) : RG (upR (upC g c) r) := RG_text h t.2.2.1 t.2.2.2 t.2.1 t.1
theorem fp_eta {u : Row} : sX6_fault u = sX3_faultPlace u := by
  unfold sX6_fault
  exact eta2 _
theorem fault_ok {g : GS} (h : RG g) : (sX6_fault g.2.1).1 = (sX7_fault g.2.2.2).1 ∧ RG (upR (upC g (sX6_fault g.2.1).2) (sX7_fault g.2.2.2).2) := by
  rw [fp_eta]
  have o := fault_E (TT_self h)
  revert o
  generalize sX3_faultPlace g.2.1 = A
  generalize sX7_fault g.2.2.2 = A'
  intro o
  exact ⟨o.1, RG_TT h o.2.1⟩
