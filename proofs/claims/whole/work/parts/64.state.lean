/-! the whole state of both sides -/
def HG (f : Nat → Row) (c : Row) (t : Nat → Row) (r : Row) : Prop := c 1 = r 0 ∧ ∀ k, k < nn (r 0) → Rel (f (2 + (nn (c 0) + 6 - k) % 7)) (t (nn (r 0) - k))
def SG (f : Nat → Row) (c : Row) (t : Nat → Row) (r : Row) : Prop := ∀ s, s < 2 → c (10 + s) = r (10 + s) ∧ (¬ r (10 + s) = 0 → Rel (f (9 + s)) (t (7 + s)))
def PG (c r : Row) : Prop := c 3 = r 1 ∧ ∀ k, k < nn (r 1) → c (100 + k) = r (100 + k) ∧ 33 ≤ (r (100 + k)).toInt ∧ (r (100 + k)).toInt ≤ 126
def RG (g : GS) : Prop := Gn g ∧ Gi g ∧ Rel (g.1 0) (g.2.2.1 0) ∧ HG g.1 g.2.1 g.2.2.1 g.2.2.2 ∧ SG g.1 g.2.1 g.2.2.1 g.2.2.2 ∧ PG g.2.1 g.2.2.2
def OKs (g : GS) (C R : Int32 × GS) : Prop := C.2.2.2 = g.2.2 ∧ C.1 = R.1 ∧ RG R.2
section CH
variable {g : GS}
theorem chX : (sX7_changes g).1 = g.1 ∧ (sX7_changes g).2.1 = g.2.1 := by
  unfold sX7_changes
  by_cases c : g.2.2.2 0 = 6
  · rw [if_pos c]; exact ⟨rfl, rfl⟩
  · rw [if_neg c]; exact ⟨rfl, rfl⟩
theorem chR : (∀ j, ¬ j = 0 → (sX7_changes g).2.2.2 j = g.2.2.2 j) ∧ (sX7_changes g).2.2.2 0 = if g.2.2.2 0 = 6 then 6 else g.2.2.2 0 + 1 := by
  unfold sX7_changes
  by_cases c : g.2.2.2 0 = 6
  · rw [if_pos c, if_pos c]
    refine ⟨fun j hj => ?_, ?_⟩
    · show upd (upd g.2.2.2 0 (g.2.2.2 0 - 1)) 0 (upd g.2.2.2 0 (g.2.2.2 0 - 1) 0 + 1) j = g.2.2.2 j
      rw [updn hj, updn hj]
    · show (g.2.2.2 0 - 1) + 1 = 6
      rw [c]; decide
  · rw [if_neg c, if_neg c]
    refine ⟨fun j hj => ?_, rfl⟩
    show upd g.2.2.2 0 (g.2.2.2 0 + 1) j = g.2.2.2 j
    rw [updn hj]
theorem chT6 (c : g.2.2.2 0 = 6) : (∀ t, 1 ≤ t → t ≤ 5 → (sX7_changes g).2.2.1 t = g.2.2.1 (t + 1)) ∧ (sX7_changes g).2.2.1 6 = g.2.2.1 0 ∧ ∀ t, 7 ≤ t → (sX7_changes g).2.2.1 t = g.2.2.1 t := by
  unfold sX7_changes
  rw [if_pos c]
  have U : ∀ (g : GS) (a b : Nat) (w : Row), (upS g a w).2.2.1 b = if b = a then w else g.2.2.1 b := fun _ _ _ _ => rfl
  have V : ∀ (g : GS) (r : Row), (upR g r).2.2.1 = g.2.2.1 := fun _ _ => rfl
  refine ⟨fun t h1 h2 => ?_, ?_, fun t h7 => ?_⟩
  · rcases (show t = 1 ∨ t = 2 ∨ t = 3 ∨ t = 4 ∨ t = 5 by omega) with rfl | rfl | rfl | rfl | rfl <;> rfl
  · rfl
  · rw [U, if_neg (by omega), V, V, U, if_neg (by omega), U, if_neg (by omega), U, if_neg (by omega), U, if_neg (by omega), U, if_neg (by omega)]
theorem nn6' : nn (6 : Int32) = 6 := by decide
theorem chTn (hm : Gm g) (c : ¬ g.2.2.2 0 = 6) : (sX7_changes g).2.2.1 (nn (g.2.2.2 0) + 1) = g.2.2.1 0 ∧ ∀ t, ¬ t = nn (g.2.2.2 0) + 1 → (sX7_changes g).2.2.1 t = g.2.2.1 t := by
  unfold sX7_changes
  rw [if_neg c]
  exact ⟨if_pos rfl, fun t ht => if_neg ht⟩
end CH
theorem kn_0 {u : Row} (h : Sp u) : nn (sX2_keepNoted u 0) = (nn (u 0) + 1) % 7 := by
  show nn ((u 0 + 1) - (u 0 + 1) / 7 * 7) = _
  have := h.le
  rw [sp7a h, nn_nI (by omega)]
theorem kn_1 {u : Row} : sX2_keepNoted u 1 = if 6 < u 1 + 1 then 6 else u 1 + 1 := by
  unfold sX2_keepNoted
  rw [upde, updn (show ¬ 1 = 0 by omega)]
theorem kn_o {u : Row} {j : Nat} (h : 2 ≤ j) : sX2_keepNoted u j = u j := by
  unfold sX2_keepNoted
  rw [updn (by omega), updn (by omega)]
theorem note_f {g : GS} : (∀ k, ¬ k = 2 + nn (g.2.1 0) → (sX2_note g).1 k = g.1 k) ∧ (sX2_note g).1 (2 + nn (g.2.1 0)) = g.1 0 ∧ (sX2_note g).2 = g.2 := ⟨fun k hk => upW_ne hk, upW_1, rfl⟩
theorem note_0 {g : GS} : (sX2_note g).1 0 = g.1 0 := note_f.1 0 (by omega)
/-- worlds 2 to 8 may change at the spare place -/
theorem HG_spare {f f' : Nat → Row} {c c' : Row} {t t' : Nat → Row} {r r' : Row} (h0 : sm (c 0) 6) (hr : sm (r 0) 6) (hf : ∀ k, 2 ≤ k → k < 9 → ¬ k = 2 + nn (c 0) → f' k = f k) (hc : c' 0 = c 0 ∧ c' 1 = c 1) (ht : ∀ k, 1 ≤ k → k ≤ 6 → t' k = t k) (hr0 : r' 0 = r 0) (h : HG f c t r) : HG f' c' t' r' := by
  have a := h0.le
  have b := hr.le
  unfold HG
  rw [hc.1, hc.2, hr0]
  refine ⟨h.1, fun k hk => ?_⟩
  rw [hf _ (by omega) (by omega) (by omega), ht _ (by omega) (by omega)]
  exact h.2 k hk
theorem SG_same {f f' : Nat → Row} {c c' : Row} {t t' : Nat → Row} {r r' : Row} (hf : ∀ k, 9 ≤ k → k < 11 → f' k = f k) (hc : ∀ k, 10 ≤ k → k < 12 → c' k = c k) (ht : ∀ k, 7 ≤ k → k < 9 → t' k = t k) (hr : ∀ k, 10 ≤ k → k < 12 → r' k = r k) (h : SG f c t r) : SG f' c' t' r' := by
  intro s hs
  rw [hf _ (by omega) (by omega), hc _ (by omega) (by omega), ht _ (by omega) (by omega), hr _ (by omega) (by omega)]
  exact h s hs
theorem PG_same {c c' r r' : Row} (h3 : c' 3 = c 3) (h1 : r' 1 = r 1) (hc : ∀ k, k < 80 → c' (100 + k) = c (100 + k)) (hr : ∀ k, k < 80 → r' (100 + k) = r (100 + k)) (hp : sm (r 1) 80) (h : PG c r) : PG c' r' := by
  have := hp.le
  unfold PG
  rw [h3, h1]
  refine ⟨h.1, fun k hk => ?_⟩
  rw [hc k (by omega), hr k (by omega)]
  exact h.2 k hk
theorem RG_refuse {g : GS} (h : RG g) : RG (upW (sX2_note g) 0 (g.1 0)) := by
  obtain ⟨hN, hI, hR, hH, hS, hP⟩ := h
  have h0 := hN.2.2
  have N : ∀ k, ¬ k = 2 + nn (g.2.1 0) → (upW (sX2_note g) 0 (g.1 0)).1 k = g.1 k := fun k hk => by
    by_cases e : k = 0
    · subst e; exact upW_1
    · rw [upW_ne e]; exact note_f.1 k hk
  have b := h0.le
  refine ⟨Gn_upW (Gn_note hN) (hN.1 0 (by omega)), hI, ?_, ?_, ?_, ?_⟩
  · show Rel ((upW (sX2_note g) 0 (g.1 0)).1 0) (g.2.2.1 0)
    rw [upW_1]; exact hR
  · exact HG_spare (f := g.1) (c := g.2.1) (t := g.2.2.1) (r := g.2.2.2) h0 hI.2.2 (fun k h1 h2 h3 => N k h3) ⟨rfl, rfl⟩ (fun k _ _ => rfl) rfl hH
  · exact SG_same (f := g.1) (c := g.2.1) (t := g.2.2.1) (r := g.2.2.2) (fun k h1 h2 => N k (by omega)) (fun _ _ _ => rfl) (fun _ _ _ => rfl) (fun _ _ _ => rfl) hS
  · exact hP
theorem RG_commit {g : GS} {w' r' : Row} (h : RG g) (hR' : Rel w' r') (hI' : Inv r') : RG (upS (sX7_changes (upC (upW (sX2_note g) 0 w') (sX2_keepNoted g.2.1))) 0 r') := by
  obtain ⟨hN, hI, hR, hH, hS, hP⟩ := h
  have h0 := hN.2.2
  have b := h0.le
  have hst := hI.2.2
  have bst := hst.le
  have nN : Gn (upC (upW (sX2_note g) 0 w') (sX2_keepNoted g.2.1)) := Gn_upC (Gn_upW (Gn_note hN) (hR'.cn hI'.1.1)) ⟨Pd_sX2_keepNoted hN.2.1, Sp_sX2_keepNoted hN.2.2⟩
  have nI' : Gi (upC (upW (sX2_note g) 0 w') (sX2_keepNoted g.2.1)) := hI
  have F : ∀ k, ¬ k = 2 + nn (g.2.1 0) → ¬ k = 0 → (upW (sX2_note g) 0 w').1 k = g.1 k := fun k hk e => by
    rw [upW_ne e]; exact note_f.1 k hk
  have F2 : (upW (sX2_note g) 0 w').1 (2 + nn (g.2.1 0)) = g.1 0 := by
    rw [upW_ne (by omega)]; exact note_f.2.1
  have X := chX (g := upC (upW (sX2_note g) 0 w') (sX2_keepNoted g.2.1))
  have R := chR (g := upC (upW (sX2_note g) 0 w') (sX2_keepNoted g.2.1))
  have T6 := chT6 (g := upC (upW (sX2_note g) 0 w') (sX2_keepNoted g.2.1))
  have Tn := chTn (g := upC (upW (sX2_note g) 0 w') (sX2_keepNoted g.2.1)) nI'.gm
  have K0 := kn_0 h0
  have hGi := Gi_upS (t := 0) (Gi_changes nI') hI'
  generalize hG : sX7_changes (upC (upW (sX2_note g) 0 w') (sX2_keepNoted g.2.1)) = G at *
  have e1 : G.1 = (upW (sX2_note g) 0 w').1 := X.1
  have e2 : G.2.1 = sX2_keepNoted g.2.1 := X.2
  have gR : (upC (upW (sX2_note g) 0 w') (sX2_keepNoted g.2.1)).2.2.2 = g.2.2.2 := rfl
  have gT : (upC (upW (sX2_note g) 0 w') (sX2_keepNoted g.2.1)).2.2.1 = g.2.2.1 := rfl
  rw [gR] at R T6 Tn
  rw [gT] at T6 Tn
  refine ⟨⟨fun k hk => ?_, ?_⟩, hGi, ?_, ⟨?_, fun k hk => ?_⟩, fun s hs => ?_, ?_⟩
  · show Cn (G.1 k)
    rw [e1]; exact nN.1 k hk
  · show Pd G.2.1 ∧ Sp G.2.1
    rw [e2]; exact nN.2
  · show Rel (G.1 0) ((upS G 0 r').2.2.1 0)
    rw [e1, upW_1, upS_1]; exact hR'
  · show G.2.1 1 = G.2.2.2 0
    rw [e2, kn_1, R.2, hH.1]
    by_cases c : g.2.2.2 0 = 6
    · rw [if_pos c, c, if_pos (by decide)]
    · have c2 : ¬ 6 < g.2.2.2 0 + 1 := fun q => by
        have a := nn6 hst c
        have e := (nn_inc hst (by omega)).2
        have e3 := (nn_inc hst (by omega)).1
        rw [Int32.lt_iff_toInt_lt, show (6 : Int32).toInt = 6 from by decide, ← nn_toInt e.1] at q
        omega
      rw [if_neg c, if_neg c2]
  · show Rel (G.1 (2 + (nn (G.2.1 0) + 6 - k) % 7)) ((upS G 0 r').2.2.1 (nn (G.2.2.2 0) - k))
    have hk' : k < nn (G.2.2.2 0) := hk
    rw [e2, K0]
    by_cases c : g.2.2.2 0 = 6
    · have s6 : nn (G.2.2.2 0) = 6 := by rw [R.2, if_pos c, nn6']
      have g6 : nn (g.2.2.2 0) = 6 := by rw [c, nn6']
      rw [s6] at hk' ⊢
      rw [upS_ne (by omega), e1]
      obtain ⟨t1, t2, -⟩ := T6 c
      by_cases k0 : k = 0
      · subst k0
        rw [show 2 + ((nn (g.2.1 0) + 1) % 7 + 6 - 0) % 7 = 2 + nn (g.2.1 0) by omega, F2, show 6 - 0 = 6 from rfl, t2]; exact hR
      · rw [F _ (by omega) (by omega), t1 _ (by omega) (by omega)]
        have := hH.2 (k - 1) (by omega)
        rw [g6] at this
        rw [show (nn (g.2.1 0) + 1) % 7 + 6 - k = ((nn (g.2.1 0) + 1) % 7 + 6 - k) from rfl, show ((nn (g.2.1 0) + 1) % 7 + 6 - k) % 7 = (nn (g.2.1 0) + 6 - (k - 1)) % 7 by omega, show 6 - k + 1 = 6 - (k - 1) by omega]
        exact this
    · have a := nn6 hst c
      have s6 : nn (G.2.2.2 0) = nn (g.2.2.2 0) + 1 := by rw [R.2, if_neg c]; exact (nn_inc hst (by omega)).1
      rw [s6] at hk' ⊢
      rw [upS_ne (by omega), e1]
      obtain ⟨t1, t2⟩ := Tn c
      by_cases k0 : k = 0
      · subst k0
        rw [show 2 + ((nn (g.2.1 0) + 1) % 7 + 6 - 0) % 7 = 2 + nn (g.2.1 0) by omega, F2, Nat.sub_zero, t1]; exact hR
      · rw [F _ (by omega) (by omega), t2 _ (by omega)]
        have := hH.2 (k - 1) (by omega)
        rw [show ((nn (g.2.1 0) + 1) % 7 + 6 - k) % 7 = (nn (g.2.1 0) + 6 - (k - 1)) % 7 by omega, show nn (g.2.2.2 0) + 1 - k = nn (g.2.2.2 0) - (k - 1) by omega]
        exact this
  · show G.2.1 (10 + s) = G.2.2.2 (10 + s) ∧ (¬ G.2.2.2 (10 + s) = 0 → Rel (G.1 (9 + s)) ((upS G 0 r').2.2.1 (7 + s)))
    have hs' := hS s hs
    have tS : G.2.2.1 (7 + s) = g.2.2.1 (7 + s) := by
      by_cases c : g.2.2.2 0 = 6
      · exact (T6 c).2.2 _ (by omega)
      · have a := nn6 hst c
        exact (Tn c).2 _ (by omega)
    rw [e2, kn_o (by omega), R.1 _ (by omega), e1, F _ (by omega) (by omega), upS_ne (by omega), tS]
    exact hs'
  · show PG G.2.1 G.2.2.2
    rw [e2]
    exact PG_same (c := g.2.1) (r := g.2.2.2) (kn_o (by omega)) (R.1 _ (by omega)) (fun k hk => kn_o (by omega)) (fun k hk => R.1 _ (by omega)) hI.2.1.1 hP
theorem chg_ok {g : GS} (h : RG g) {a b : Int32 × Row} {e : Int32} (h1 : ¬ e = 0 → a = (e, g.1 0) ∧ e < 0) (h2 : e = 0 → a.1 = b.1 ∧ 0 ≤ a.1 ∧ Rel a.2 b.2 ∧ Inv b.2) :
    OKs g (sX6_recorded (upW (sX2_note g) 0 a.2) a.1) (if e = 0 then (b.1, upS (sX7_changes (sX6_recorded (upW (sX2_note g) 0 a.2) a.1).2) 0 b.2) else (e, (sX6_recorded (upW (sX2_note g) 0 a.2) a.1).2)) := by
  by_cases c : e = 0
  · obtain ⟨p1, p2, p3, p4⟩ := h2 c
    have np : ¬ a.1 < 0 := fun q => by
      rw [Int32.lt_iff_toInt_lt] at q
      rw [Int32.le_iff_toInt_le] at p2
      omega
    rw [if_pos c]
    unfold sX6_recorded
    rw [if_neg np]
    exact ⟨rfl, p1, RG_commit h p3 p4⟩
  · obtain ⟨p1, p2⟩ := h1 c
    rw [if_neg c, p1]
    unfold sX6_recorded
    rw [if_pos (show (e, g.1 0).1 < 0 from p2)]
    exact ⟨rfl, rfl, RG_refuse h⟩
