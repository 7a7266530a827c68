/-! who comes over: one formula for both sides -/
def payer (w : Row) (lo hi : Nat) : Option Nat := if w (104 + 8 * lo + 1) < w 0 then (if w (104 + 8 * hi + 1) < w 0 then none else some hi) else some lo
def tie (w : Row) (i : Nat) : Int32 := oe (nthL w i (qs w) 0) 0 (fun a => oe (nthL w i (qs w) 1) 0 (fun b => if sX7_far w a i = sX7_far w b i then 1 else 0))
def cmr (w : Row) (i : Nat) : Option Nat := oe (nthL w i (qs w) 0) none (fun a => oe (nthL w i (qs w) 1) (if w (104 + 8 * a + 4) < w 3 then none else some a) (fun b => if sX7_far w a i = sX7_far w b i then (if a < b then payer w a b else payer w b a) else (if sX7_far w b i ≤ sX7_far w a i then some b else some a)))
theorem qs_8 {w : Row} (hr : Rn w) : ∀ c, c ∈ qs w → c < 8 := fun c hc => by
  obtain ⟨k, h1, h2, h3⟩ := ql_mem _ _ hc
  have := hr.1.1.le
  have := (hr.2.1 k (by omega)).le
  omega
theorem n01 {w : Row} {i : Nat} {l : List Nat} {b : Nat} (h : nthL w i l 1 = some b) : ∃ a, nthL w i l 0 = some a := by
  cases h0 : nthL w i l 0 with
  | some a => exact ⟨a, rfl⟩
  | none =>
    have h2 := (nthL_none l 0).mp h0
    have h3 := (nthL_none (w := w) (i := i) l 1).mpr (by omega)
    rw [h] at h3; cases h3
theorem many_gt {w : Row} {i : Nat} (hr : Rn w) : (∃ b, nthL w i (qs w) 1 = some b) ↔ ¬ sX7_many w i ≤ 1 := by
  have h8 := hr.1.1.le
  have hl := cntL_len (w := w) (i := i) (qs w)
  rw [qs_len] at hl
  rw [many_L hr.1, show (1 : Int32) = nI 1 from rfl, nI_leI (by omega) (by omega), ← nthL_none]
  cases nthL w i (qs w) 1 with
  | none => exact ⟨fun ⟨b, hb⟩ => (by cases hb), fun h => absurd rfl h⟩
  | some b => exact ⟨fun _ h => (by cases h), fun _ => ⟨b, rfl⟩⟩
theorem tie_eq {w : Row} {i : Nat} (hr : Rn w) : sX7_areAsNear w i = tie w i := by
  unfold sX7_areAsNear tie
  have e0 : sX7_waiter w i 0 = enc (nthL w i (qs w) 0) := waiter_L (r := 0) hr.1 (by omega)
  have e1 : sX7_waiter w i 1 = enc (nthL w i (qs w) 1) := waiter_L (r := 1) hr.1 (by omega)
  cases h1 : nthL w i (qs w) 1 with
  | none =>
    rw [if_pos (Decidable.byContradiction fun q => by obtain ⟨b, hb⟩ := (many_gt hr).mpr q; rw [h1] at hb; cases hb)]
    cases nthL w i (qs w) 0 <;> rfl
  | some b =>
    rw [if_neg ((many_gt hr).mp ⟨b, h1⟩)]
    obtain ⟨a, h0⟩ := n01 h1
    have ha := qs_8 hr a (nthL_some _ _ h0).1
    have hb := qs_8 hr b (nthL_some _ _ h1).1
    rw [e0, e1, h0, h1]
    show (if sX7_far w (nn (nI a)) i = sX7_far w (nn (nI b)) i then (1 : Int32) else 0) = _
    rw [nn_nI (by omega), nn_nI (by omega)]
    rfl
theorem cmr_eq {w : Row} {i : Nat} (hr : Rn w) : sX7_comer w i = enc (cmr w i) := by
  unfold sX7_comer cmr
  rw [tie_eq hr]
  unfold tie
  have e0 : sX7_waiter w i 0 = enc (nthL w i (qs w) 0) := waiter_L (r := 0) hr.1 (by omega)
  have e1 : sX7_waiter w i 1 = enc (nthL w i (qs w) 1) := waiter_L (r := 1) hr.1 (by omega)
  rw [e0, e1]
  cases h0 : nthL w i (qs w) 0 with
  | none => rw [if_pos (show enc none = -6 from rfl)]; rfl
  | some a =>
    have ha := qs_8 hr a (nthL_some _ _ h0).1
    have na : ¬ enc (some a) = -6 := nn_neg6 (by omega)
    have ea : nn (enc (some a)) = a := nn_nI (by omega)
    rw [if_neg na, ea]
    cases h1 : nthL w i (qs w) 1 with
    | none =>
      rw [if_pos (show enc none = -6 from rfl)]
      show _ = enc (if w (104 + 8 * a + 4) < w 3 then none else some a)
      by_cases c : w (104 + 8 * a + 4) < w 3
      · rw [if_pos c, if_pos c]; rfl
      · rw [if_neg c, if_neg c]; rfl
    | some b =>
      have hb := qs_8 hr b (nthL_some _ _ h1).1
      have nb : ¬ enc (some b) = -6 := nn_neg6 (by omega)
      have eb : nn (enc (some b)) = b := nn_nI (by omega)
      rw [if_neg nb, eb]
      show (if (if sX7_far w a i = sX7_far w b i then (1 : Int32) else 0) = 0 then _ else _) = enc (if sX7_far w a i = sX7_far w b i then (if a < b then payer w a b else payer w b a) else (if sX7_far w b i ≤ sX7_far w a i then some b else some a))
      by_cases t : sX7_far w a i = sX7_far w b i
      · rw [if_pos t, if_neg (show ¬ (1 : Int32) = 0 by decide), if_pos t]
        have P : ∀ lo hi, bX7_comer_123 w i lo hi = enc (payer w lo hi) := by
          intro lo hi
          unfold bX7_comer_123 payer
          by_cases c1 : w (104 + 8 * lo + 1) < w 0
          · rw [if_pos c1, if_pos c1]
            by_cases c2 : w (104 + 8 * hi + 1) < w 0
            · rw [if_pos c2, if_pos c2]; rfl
            · rw [if_neg c2, if_neg c2]; rfl
          · rw [if_neg c1, if_neg c1]; rfl
        by_cases c : b ≤ a
        · have c' := (nI_leI (a := b) (b := a) (by omega) (by omega)).mpr c
          rw [if_pos c', if_pos c', if_neg (by omega)]; exact P _ _
        · have c' : ¬ nI b ≤ nI a := fun q => c ((nI_leI (by omega) (by omega)).mp q)
          rw [if_neg c', if_neg c', if_pos (by omega)]; exact P _ _
      · rw [if_neg t, if_pos rfl, if_neg t]
        by_cases c : sX7_far w b i ≤ sX7_far w a i
        · rw [if_pos c, if_pos c]; rfl
        · rw [if_neg c, if_neg c]; rfl
theorem cmr_mem {w : Row} {i c : Nat} (h : cmr w i = some c) : c ∈ qs w ∧ w (104 + 8 * c + 2) = nI i := by
  unfold cmr at h
  cases h0 : nthL w i (qs w) 0 with
  | none => rw [h0] at h; cases h
  | some a =>
    rw [h0, oe_some rfl] at h
    cases h1 : nthL w i (qs w) 1 with
    | none =>
      rw [h1, oe_none rfl] at h
      by_cases d : w (104 + 8 * a + 4) < w 3
      · rw [if_pos d] at h; cases h
      · rw [if_neg d] at h; cases h; exact nthL_some _ _ h0
    | some b =>
      rw [h1, oe_some rfl] at h
      have A := nthL_some _ _ h0
      have B := nthL_some _ _ h1
      have P : ∀ lo hi, payer w lo hi = some c → c = lo ∨ c = hi := by
        intro lo hi q
        unfold payer at q
        by_cases c1 : w (104 + 8 * lo + 1) < w 0
        · rw [if_pos c1] at q
          by_cases c2 : w (104 + 8 * hi + 1) < w 0
          · rw [if_pos c2] at q; cases q
          · rw [if_neg c2] at q; cases q; exact Or.inr rfl
        · rw [if_neg c1] at q; cases q; exact Or.inl rfl
      by_cases t : sX7_far w a i = sX7_far w b i
      · rw [if_pos t] at h
        by_cases d : a < b
        · rw [if_pos d] at h; rcases P _ _ h with q | q <;> (rw [q]; assumption)
        · rw [if_neg d] at h; rcases P _ _ h with q | q <;> (rw [q]; assumption)
      · rw [if_neg t] at h
        by_cases d : sX7_far w b i ≤ sX7_far w a i
        · rw [if_pos d] at h; cases h; exact B
        · rw [if_neg d] at h; cases h; exact A
