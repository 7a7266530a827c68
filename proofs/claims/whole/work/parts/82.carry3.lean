/-! texts: carryOut -/
theorem ch22 {X Y : GS} (h : X.2.2 = Y.2.2) : (sX7_changes X).2.2 = (sX7_changes Y).2.2 := by
  obtain ⟨f, c, t, r⟩ := X
  obtain ⟨f', c', t', r'⟩ := Y
  have e1 : t = t' := congrArg Prod.fst h
  have e2 : r = r' := congrArg Prod.snd h
  subst e1; subst e2
  unfold sX7_changes
  by_cases k : r 0 = 6
  · rw [if_pos k, if_pos k]; rfl
  · rw [if_neg k, if_neg k]; rfl
theorem kn_at0 {u v : Row} (h : u 0 = v 0) : sX2_keepNoted u 0 = sX2_keepNoted v 0 := by
  show (u 0 + 1) - (u 0 + 1) / 7 * 7 = (v 0 + 1) - (v 0 + 1) / 7 * 7
  rw [h]
section CO
variable {g : GS} {c1 r1 : Row}
theorem co_start : upC (sX2_note (upC g c1)) (sX3_goToStart (sX2_note (upC g c1)).2.1) = Gc_ (sX2_note (upC g c1)) (g.1 0) (upd c1 4 0) := by
  have hN : (sX2_note (upC g c1)).1 0 = g.1 0 := note_0
  unfold Gc_
  rw [← hN, upW_self]; rfl
theorem co_ref {X : GS} (hX : X.2.2 = g.2.2) (c' : (sX7_fault g.2.2.2).1 = -6) (er : (sX7_fault g.2.2.2).2 = r1) : sX7_carryOut X = bX7_carryOut_25 82 (Gr_ (sX7_changes (upR X r1)) (g.2.2.1 0) (upd (sX7_changes (upR X r1)).2.2.2 2 0)) 0 1 := by
  have e1 : X.2.2.2 = g.2.2.2 := congrArg Prod.snd hX
  have e0 : X.2.2.1 = g.2.2.1 := congrArg Prod.fst hX
  unfold sX7_carryOut
  rw [e1, if_pos c', er]
  have z : (sX7_changes (upR X r1)).2.2.1 0 = g.2.2.1 0 := by
    rw [ch0]
    show X.2.2.1 0 = _
    rw [e0]
  unfold Gr_
  rw [← z, upS_self]
theorem co_T (h : RG g) {X : GS} (hX : X.2.2 = g.2.2) (kp : Kp g.2.2.2 r1) (hr1 : Pt r1 ∧ sm (r1 0) 6) (f2 : TT g.2.1 g.2.2.2 c1 r1) : TT g.2.1 (sX7_changes (upR X r1)).2.2.2 c1 (sX7_changes (upR X r1)).2.2.2 ∧ TT g.2.1 (sX7_changes (upR X r1)).2.2.2 g.2.1 (sX7_changes (upR X r1)).2.2.2 ∧ Gi (sX7_changes (upR X r1)) := by
  have e0 : X.2.2.1 = g.2.2.1 := congrArg Prod.fst hX
  have R' : ∀ j, ¬ j = 0 → (sX7_changes (upR X r1)).2.2.2 j = r1 j := (chR (g := upR X r1)).1
  have G0 : Gi (upR X r1) := ⟨fun t ht => by
    show Inv (X.2.2.1 t)
    rw [e0]; exact h.2.1.1 t ht, hr1⟩
  have G1 := Gi_changes G0
  revert R' G1
  generalize sX7_changes (upR X r1) = M
  intro R' G1
  have hP : Pt M.2.2.2 := G1.2.1
  refine ⟨⟨⟨?_, fun j hj => ?_⟩, hP, f2.2.2.1, rfl, rfl, rfl⟩, ⟨⟨?_, fun j hj => ?_⟩, hP, ⟨rfl, rfl, rfl, rfl⟩, rfl, rfl, rfl⟩, G1⟩
  · rw [R' 1 (by omega)]; exact f2.1.1
  · rw [R' 1 (by omega)] at hj
    rw [R' (100 + j) (by omega)]; exact f2.1.2 j hj
  · rw [R' 1 (by omega), kp 1 (by omega)]; exact h.2.2.2.2.2.1
  · rw [R' 1 (by omega), kp 1 (by omega)] at hj
    rw [R' (100 + j) (by omega), kp (100 + j) (by omega)]; exact h.2.2.2.2.2.2 j hj
theorem co_run (h : RG g) {N M : GS} {n : Nat} (t1 : TT g.2.1 M.2.2.2 c1 M.2.2.2) (t2 : TT g.2.1 M.2.2.2 g.2.1 M.2.2.2) (t3 : Gi M) (hF : (bX3_faultPlace_6 n (upd g.2.1 4 0) 0).1 = -6) :
    ∃ k w' q' c' r', bX6_carryOut_35 81 (Gc_ N (g.1 0) (upd c1 4 0)) 0 = (nI k, Gc_ N w' (sX2_keepNoted (upd c' 3 0))) ∧
      bX7_carryOut_25 82 (Gr_ M (g.2.2.1 0) (upd M.2.2.2 2 0)) 0 1 = (nI k, Gr_ M q' (upd r' 1 0)) ∧ Rel w' q' ∧ Inv q' ∧ RK g.2.1 M.2.2.2 [] c' r' := by
  refine carry_loop (u0 := g.2.1) (r0 := M.2.2.2) (N := N) (M := M) (fun q r hq hp h0 => ⟨fun t ht => ?_, hp, ?_⟩) 81 _ _ _ _ 0 (by omega) (by omega) (Nat.zero_le _) (RK_start t1) ⟨n, 0, _, RK_start t2, hF⟩ h.2.2.1 (h.2.1.1 0 (by omega))
  · by_cases e : t = 0
    · subst e
      rw [Gr_0]; exact hq
    · show Inv ((upS M 0 q).2.2.1 t)
      rw [upS_ne e]; exact t3.1 t ht
  · show sm (r 0) 6
    rw [h0]; exact t3.2.2
theorem co_end {M Z : GS} {c2 r2 q' w' : Row} (hZ : RG Z) (hz1 : Z.1 = M.1) (hz2 : Z.2.1 = sX2_keepNoted c1) (hz3 : Z.2.2.2 = M.2.2.2) (hz4 : (upS M 0 q').2.2.1 = Z.2.2.1) (hm : M.2.1 = sX2_keepNoted (upd c2 3 0))
    (hK : TT g.2.1 M.2.2.2 c2 r2) (s1 : c1 0 = g.2.1 0 ∧ c1 1 = g.2.1 1 ∧ c1 10 = g.2.1 10 ∧ c1 11 = g.2.1 11) : RG (Gr_ M q' (upd r2 1 0)) := by
  obtain ⟨t1, t2, t3, t4⟩ := hK
  have T := RG_text (c := sX2_keepNoted (upd c2 3 0)) (r := upd r2 1 0) hZ ⟨?_, ?_, ?_, ?_⟩ ⟨?_, ?_, ?_⟩ ⟨?_, ?_⟩ ⟨?_, fun j hj => ?_⟩
  · have ee : Gr_ M q' (upd r2 1 0) = upR (upC Z (sX2_keepNoted (upd c2 3 0))) (upd r2 1 0) := by
      show (M.1, M.2.1, (upS M 0 q').2.2.1, upd r2 1 0) = (Z.1, sX2_keepNoted (upd c2 3 0), Z.2.2.1, upd r2 1 0)
      rw [hz4, hm, hz1]
    rw [ee]; exact T
  · rw [hz2]
    exact kn_at0 ((updn (show ¬ 0 = 3 by omega)).trans (t3.1.trans s1.1.symm))
  · rw [hz2, kn_1, kn_1, updn (show ¬ 1 = 3 by omega), t3.2.1, s1.2.1]
  · rw [hz2, kn_o (by omega), updn (by omega), kn_o (by omega), t3.2.2.1, s1.2.2.1]
  · rw [hz2, kn_o (by omega), updn (by omega), kn_o (by omega), t3.2.2.2, s1.2.2.2]
  · rw [hz3, updn (by omega)]; exact t4.1
  · rw [hz3, updn (by omega)]; exact t4.2.1
  · rw [hz3, updn (by omega)]; exact t4.2.2
  · rw [upde]; exact sm_nI (j := 0) (n := 80) (by omega) (by omega)
  · rw [updn (by omega)]; exact t2.2
  · rw [kn_o (by omega), upde, upde]
  · rw [upde] at hj; exact absurd hj (Nat.not_lt_zero _)
theorem co_all (h : RG g) (F1 : RG (upR (upC g c1) r1)) (kp : Kp g.2.2.2 r1) (f2 : TT g.2.1 g.2.2.2 c1 r1) (hF : ∃ n, (bX3_faultPlace_6 n (upd g.2.1 4 0) 0).1 = -6) {C R : Int32 × GS} (hC : C = bX6_carryOut_35 81 (Gc_ (sX2_note (upC g c1)) (g.1 0) (upd c1 4 0)) 0)
    (hR : C.2.2.2 = g.2.2 → R = bX7_carryOut_25 82 (Gr_ (sX7_changes (upR C.2 r1)) (g.2.2.1 0) (upd (sX7_changes (upR C.2 r1)).2.2.2 2 0)) 0 1) : OKs g C R := by
  obtain ⟨n, hF⟩ := hF
  have hr1 := F1.2.1.2
  have hX : C.2.2.2 = g.2.2 := by
    obtain ⟨t1, t2, t3⟩ := co_T h (X := g) rfl kp hr1 f2
    obtain ⟨k0, w0, q0, c0, r0, E0, _⟩ := co_run (c1 := c1) (N := sX2_note (upC g c1)) h t1 t2 t3 hF
    rw [hC, E0]; rfl
  obtain ⟨t1, t2, t3⟩ := co_T h hX kp hr1 f2
  obtain ⟨k, w', q', c2, r2, E1, E2, hRw, hIw, hK⟩ := co_run (c1 := c1) (N := sX2_note (upC g c1)) h t1 t2 t3 hF
  have eC : C = (nI k, Gc_ (sX2_note (upC g c1)) w' (sX2_keepNoted (upd c2 3 0))) := hC.trans E1
  have eR : R = (nI k, Gr_ (sX7_changes (upR C.2 r1)) q' (upd r2 1 0)) := (hR hX).trans E2
  refine ⟨hX, by rw [eC, eR], ?_⟩
  rw [eR]
  clear eR E1 E2 hR hC t1 t2 t3 hF
  have hzX := (chX (g := upC (upW (sX2_note (upR (upC g c1) r1)) 0 w') (sX2_keepNoted c1)))
  have hmX := (chX (g := upR C.2 r1))
  have e2 : (upC (upW (sX2_note (upR (upC g c1) r1)) 0 w') (sX2_keepNoted c1)).2.2 = (upR C.2 r1).2.2 := by
    show (g.2.2.1, r1) = (C.2.2.2.1, r1)
    rw [show C.2.2.2.1 = g.2.2.1 from congrArg Prod.fst hX]
  have hz22 := ch22 e2
  have e3 : (upW (sX2_note (upR (upC g c1) r1)) 0 w').1 = C.2.1 := by
    rw [eC]; rfl
  have e4 : C.2.2.1 = sX2_keepNoted (upd c2 3 0) := by
    rw [eC]; rfl
  refine co_end (g := g) (c1 := c1) (c2 := c2) (w' := w') (RG_commit F1 hRw hIw) ?_ ?_ ?_ ?_ ?_ hK.1 f2.2.2.1
  · exact hzX.1.trans (e3.trans hmX.1.symm)
  · exact hzX.2
  · show (sX7_changes (upC (upW (sX2_note (upR (upC g c1) r1)) 0 w') (sX2_keepNoted c1))).2.2.2 = (sX7_changes (upR C.2 r1)).2.2.2
    exact congrArg Prod.snd hz22
  · show (fun t' => if t' = 0 then q' else (sX7_changes (upR C.2 r1)).2.2.1 t') = (fun t' => if t' = 0 then q' else (sX7_changes (upC (upW (sX2_note (upR (upC g c1) r1)) 0 w') (sX2_keepNoted c1))).2.2.1 t')
    rw [show (sX7_changes (upC (upW (sX2_note (upR (upC g c1) r1)) 0 w') (sX2_keepNoted c1))).2.2.1 = (sX7_changes (upR C.2 r1)).2.2.1 from congrArg Prod.fst hz22]
  · exact hmX.2.trans e4
theorem co_bad {A : Int32 × Row} {B : Int32 × Row} (eA : sX3_faultPlace g.2.1 = A) (eB : sX7_fault g.2.2.2 = B) (c : ¬ A.1 = -6) (c' : ¬ B.1 = -6) (F1 : RG (upR (upC g A.2) B.2)) : OKs g (sX6_carryOut g) (sX7_carryOut (sX6_carryOut g).2) := by
  have e1 : sX6_carryOut g = (-3, upC g A.2) := by
    unfold sX6_carryOut
    rw [eA, if_neg c]
  have e2 : sX7_carryOut (upC g A.2) = (-3, upR (upC g A.2) B.2) := by
    unfold sX7_carryOut
    rw [show (upC g A.2).2.2.2 = g.2.2.2 from rfl, eB, if_neg c']
  have e3 : sX7_carryOut (sX6_carryOut g).2 = (-3, upR (upC g A.2) B.2) := by rw [e1]; exact e2
  rw [e3, e1]
  exact ⟨rfl, rfl, F1⟩
theorem fp_n {u : Row} (h : (sX3_faultPlace u).1 = -6) : ∃ n, (bX3_faultPlace_6 n (upd u 4 0) 0).1 = -6 := by
  unfold sX3_faultPlace at h
  exact ⟨_, h⟩
theorem carryOut_ok (h : RG g) : OKs g (sX6_carryOut g) (sX7_carryOut (sX6_carryOut g).2) := by
  have fE := fault_E (TT_self h)
  have kp := Kp_fault (r0 := g.2.2.2) (r := g.2.2.2) Kp_rf
  have F1 := RG_TT h fE.2.1
  by_cases c : (sX3_faultPlace g.2.1).1 = -6
  · have c' : (sX7_fault g.2.2.2).1 = -6 := fE.1.symm.trans c
    refine co_all h F1 kp fE.2.1 (fp_n c) ?_ (fun hX => co_ref hX c' rfl)
    unfold sX6_carryOut
    rw [if_pos c, co_start]
  · exact co_bad rfl rfl c (fun q => c (fE.1.trans q)) F1
end CO
