theorem gives_qs {w : Row} {c i : Nat} {x : Int32} (hc : c < 8) (hi : i < 12) (hcn : Cn w) : qs (gives w c i x) = qs w ∧ gives w c i x (104 + 8 * c + 2) = w (104 + 8 * c + 2) := by
  unfold gives
  have c1 := Cn_upd (w := w) (j := 20 + 7 * i + 4) (v := (w (20 + 7 * i + 4)) - x) (by omega) (by omega) (by omega) hcn
  have c2 := Cn_upd (j := 104 + 8 * c + 1) (v := ((upd w (20 + 7 * i + 4) ((w (20 + 7 * i + 4)) - x)) (104 + 8 * c + 1)) + x) (by omega) (by omega) (by omega) c1
  constructor
  · rw [qs_upd (by omega) (by omega) c2, qs_upd (by omega) (by omega) c1, qs_upd (by omega) (by omega) hcn]
  · rw [updn (by omega), updn (by omega), updn (by omega)]
theorem pays_qs {w : Row} {c i : Nat} {x : Int32} (hc : c < 8) (hi : i < 12) (hcn : Cn w) : qs (sX7_pays w c i x) = qs w ∧ sX7_pays w c i x (104 + 8 * c + 2) = w (104 + 8 * c + 2) := by
  unfold sX7_pays
  have c1 := Cn_upd (w := w) (j := 104 + 8 * c + 1) (v := (w (104 + 8 * c + 1)) - x) (by omega) (by omega) (by omega) hcn
  have c2 := Cn_upd (j := 104 + 8 * c + 6) (v := ((upd w (104 + 8 * c + 1) ((w (104 + 8 * c + 1)) - x)) (104 + 8 * c + 6)) + x) (by omega) (by omega) (by omega) c1
  constructor
  · rw [qs_upd (by omega) (by omega) c2, qs_upd (by omega) (by omega) c1, qs_upd (by omega) (by omega) hcn]
  · rw [updn (by omega), updn (by omega), updn (by omega)]
theorem min_sw {a b : Int32} : (if a < b then a else b) = if b ≤ a then b else a := by
  by_cases c : a < b
  · rw [if_pos c, if_neg (by rw [Int32.le_iff_toInt_le]; rw [Int32.lt_iff_toInt_lt] at c; omega)]
  · rw [if_neg c, if_pos (by rw [Int32.le_iff_toInt_le]; rw [Int32.lt_iff_toInt_lt] at c; omega)]
theorem L144 {w r : Row} {c i : Nat} (hc : c ∈ qs r) (ha : r (104 + 8 * c + 2) = nI i) (hi : i < nn (r 5)) (hI : Inv r) (h : Rel w r) : (bX5_letOver_62 i w c).1 = (bX7_opens_144 i r c).1 ∧ Rel (bX5_letOver_62 i w c).2 (bX7_opens_144 i r c).2 := by
  have hr := hI.1
  have h6 := hr.1.2.2.le
  have h5 := hr.1.2.1.le
  have hc6 := (hI.2.1.2.1 c hc).1
  have hc8 : c < 8 := by omega
  have hi12 : i < 12 := by omega
  unfold bX5_letOver_62
  have A : bX7_opens_144 i r c = if r (104 + 8 * c + 3) = r (20 + 7 * i + 3) then bX7_opens_246 i (gives r c i (if r 2 ≤ r (20 + 7 * i + 4) then r 2 else r (20 + 7 * i + 4))) c else bX7_opens_246 i r c := by
    unfold bX7_opens_144
    by_cases e : r (104 + 8 * c + 3) = r (20 + 7 * i + 3)
    · rw [if_pos e, if_pos e]
      by_cases e2 : r (2) ≤ r (20 + 7 * i + 4)
      · rw [if_pos e2, if_pos e2, o204_eq]
      · rw [if_neg e2, if_neg e2, o204_eq]
    · rw [if_neg e, if_neg e]
  rw [A, h.c (c := c) (f := 3) hc8 (by omega) (fun _ => hc6), h.b (j := 20 + 7 * i + 3) (by omega) (by omega), gift_eq, h.b (j := 20 + 7 * i + 4) (by omega) (by omega), h.j (j := 2) (by omega), min_sw]
  by_cases e : r (104 + 8 * c + 3) = r (20 + 7 * i + 3)
  · rw [if_pos e, if_pos e]
    have hS := hI.2.2.2.2.2.2.2.1.2.2.1
    have hT := hI.m.2.1 i hi12
    have hg : 0 ≤ (if r 2 ≤ r (20 + 7 * i + 4) then r 2 else r (20 + 7 * i + 4)).toInt ∧ (if r 2 ≤ r (20 + 7 * i + 4) then r 2 else r (20 + 7 * i + 4)).toInt ≤ tl r i := by
      by_cases e2 : r 2 ≤ r (20 + 7 * i + 4)
      · rw [if_pos e2]
        rw [Int32.le_iff_toInt_le] at e2
        exact ⟨hS.1, e2⟩
      · rw [if_neg e2]; exact ⟨hT, Int.le_refl _⟩
    generalize (if r 2 ≤ r (20 + 7 * i + 4) then r 2 else r (20 + 7 * i + 4)) = g at hg ⊢
    obtain ⟨q1, q2⟩ := gives_qs (x := g) hc8 hi12 hr.1
    exact L246 (by rw [q1]; exact hc) (by rw [q2]; exact ha) (by rw [gives_5.1]; exact hi) (Inv_gives hc6 hi hg.1 hg.2 hI) (Rel_gives hc8 hi12 hr.1 h)
  · rw [if_neg e, if_neg e]
    exact L246 hc ha hi hI h
/-- what a cart pays at most -/
def mn (r : Row) (c : Nat) : Int32 := if r 0 ≤ r (104 + 8 * c + 1) then r 0 else r (104 + 8 * c + 1)
theorem mn_b {r : Row} {c : Nat} (hc : c < 8) (hI : Inv r) : 0 ≤ (mn r c).toInt ∧ (mn r c).toInt ≤ co r c := by
  unfold mn
  have hS := hI.2.2.2.2.2.2.2.1.1
  have hC := hI.m.1 c hc
  by_cases e2 : r 0 ≤ r (104 + 8 * c + 1)
  · rw [if_pos e2]
    rw [Int32.le_iff_toInt_le] at e2
    exact ⟨hS.1, e2⟩
  · rw [if_neg e2]; exact ⟨hC, Int.le_refl _⟩
theorem o78_eq {i : Nat} {r : Row} {nr : Int32} {c : Nat} {al : Int32} : bX7_opens_78 i r nr c al = if al = 0 then (if nr = 0 then bX7_opens_144 i r c else bX7_opens_144 i (sX7_pays r c i (mn r c)) c) else bX7_opens_144 i (sX7_pays r c i (mn r c)) c := by
  have A : bX7_opens_78 i r nr c al = bX7_opens_120 i r nr c al (mn r c) := by
    unfold bX7_opens_78 mn
    by_cases e : r (0) ≤ r (104 + 8 * c + 1)
    · rw [if_pos e, if_pos e]
    · rw [if_neg e, if_neg e]
  rw [A]
  unfold bX7_opens_120
  rw [pays0]
theorem Lpay {w r : Row} {c i : Nat} (hc : c ∈ qs r) (ha : r (104 + 8 * c + 2) = nI i) (hi : i < nn (r 5)) (hI : Inv r) (h : Rel w r) :
    (bX5_letOver_62 i (sX1_pay w c (if (w (104 + 8 * c + 1)) < (w (0)) then (w (104 + 8 * c + 1)) else (w (0))) i) c).1 = (bX7_opens_144 i (sX7_pays r c i (mn r c)) c).1 ∧ Rel (bX5_letOver_62 i (sX1_pay w c (if (w (104 + 8 * c + 1)) < (w (0)) then (w (104 + 8 * c + 1)) else (w (0))) i) c).2 (bX7_opens_144 i (sX7_pays r c i (mn r c)) c).2 := by
  have hr := hI.1
  have h6 := hr.1.2.2.le
  have h5 := hr.1.2.1.le
  have hc6 := (hI.2.1.2.1 c hc).1
  have hc8 : c < 8 := by omega
  have hi12 : i < 12 := by omega
  have em : (if (w (104 + 8 * c + 1)) < (w (0)) then (w (104 + 8 * c + 1)) else (w (0))) = mn r c := by
    rw [h.c (c := c) (f := 1) hc8 (by omega) (by omega), h.j (j := 0) (by omega), min_sw]; rfl
  rw [em, pay_eq]
  have hm := mn_b hc8 hI
  obtain ⟨q1, q2⟩ := pays_qs (x := mn r c) hc8 hi12 hr.1
  exact L144 (by rw [q1]; exact hc) (by rw [q2]; exact ha) (by rw [pays_5.1]; exact hi) (Inv_pays hc6 hi hm.1 hm.2 hI) (Rel_pays hc8 hi12 hr.1 h)
theorem letOver_rel {w r : Row} {i : Nat} (hi : i < nn (r 5)) (hI : Inv r) (h : Rel w r) : (sX5_letOver w i).1 = (sX7_opens r i).1 ∧ Rel (sX5_letOver w i).2 (sX7_opens r i).2 := by
  have hr := hI.1
  have h6 := hr.1.2.2.le
  have h5 := hr.1.2.1.le
  have hi12 : i < 12 := by omega
  unfold sX5_letOver sX7_opens
  rw [h.comer hI hi12, h.tied hI hi12, cmr_eq hr]
  have eK : w (20 + 7 * i + 6) = r (20 + 7 * i + 6) := h.b (by omega) (by omega)
  have z0 : ∀ v : Int32, v + 0 = v := fun v => Int32.add_zero v
  have h1 : Rel (upd w (20 + 7 * i + 6) (w (20 + 7 * i + 6) + 1)) (upd r (20 + 7 * i + 6) (r (20 + 7 * i + 6) + 1)) := Rel_updE (by rw [eK]) (by omega) (by omega) (by omega) (fun c hc => by omega) (by omega) hr.1 h
  have I1 : Inv (upd r (20 + 7 * i + 6) (r (20 + 7 * i + 6) + 1)) := Inv_free (by unfold free; omega) hI
  rw [z0, upd_id (w := r) (j := 20 + 7 * i + 6) rfl]
  cases ho : cmr r i with
  | none =>
    rw [oe_none rfl]
    unfold bX7_opens_44
    rw [if_pos (show enc none = -6 from rfl), if_pos (show enc none = -6 from rfl)]
    by_cases ht : sX7_areAsNear r i = 0
    · rw [if_pos ht, if_pos ht]; exact ⟨rfl, h⟩
    · rw [if_neg ht, if_neg ht]; exact ⟨rfl, h1⟩
  | some c =>
    rw [oe_some rfl]
    obtain ⟨hc, ha⟩ := cmr_mem ho
    have hc6 := (hI.2.1.2.1 c hc).1
    have nc : ¬ enc (some c) = -6 := nn_neg6 (by omega)
    have ec : nn (enc (some c)) = c := nn_nI (by omega)
    unfold bX7_opens_44
    rw [if_neg nc, if_neg nc, ec, o78_eq, o78_eq, o78_eq, o78_eq]
    by_cases ht : sX7_areAsNear r i = 0
    · rw [if_pos ht, if_pos ht, if_pos ht, if_pos ht]
      have em : w (360 + i) = sX7_many r i := by rw [many_L hr.1]; exact h.2.2.2.2.2.2.1 i hi12
      rw [em]
      by_cases al : sX7_many r i = 1
      · rw [if_pos al, if_pos al, if_neg (show ¬ (1 : Int32) = 0 by decide)]
        exact Lpay hc ha hi hI h
      · rw [if_neg al, if_neg al, if_pos (show (0 : Int32) = 0 from rfl)]
        exact L144 hc ha hi hI h
    · rw [if_neg ht, if_neg ht, if_neg ht, if_neg ht]
      have q1 : qs (upd r (20 + 7 * i + 6) (r (20 + 7 * i + 6) + 1)) = qs r := qs_upd (by omega) (by omega) hr.1
      have L := Lpay (w := upd w (20 + 7 * i + 6) (w (20 + 7 * i + 6) + 1)) (c := c) (i := i) (by rw [q1]; exact hc) (by rw [updn (by omega)]; exact ha) (by rw [u5 (by omega)]; exact hi) I1 h1
      by_cases al : sX7_many (upd r (20 + 7 * i + 6) (r (20 + 7 * i + 6) + 1)) i = 1
      · rw [if_pos al, if_neg (show ¬ (1 : Int32) = 0 by decide)]; exact L
      · rw [if_neg al, if_pos (show (0 : Int32) = 0 from rfl)]; exact L
