/-! the class's row beside the reference's -/
theorem isB_iff {a b : Int32} : ¬ sX6_isBelow a b = 0 ↔ 0 ≤ a.toInt ∧ a.toInt < b.toInt := by
  unfold sX6_isBelow
  have e0 : (0 : Int32).toInt = 0 := by decide
  by_cases h0 : a < 0
  · rw [if_pos h0]
    rw [Int32.lt_iff_toInt_lt, e0] at h0
    exact ⟨fun q => absurd rfl q, fun q => by omega⟩
  rw [if_neg h0]
  rw [Int32.lt_iff_toInt_lt, e0] at h0
  by_cases h1 : b ≤ a
  · rw [if_pos h1]
    rw [Int32.le_iff_toInt_le] at h1
    exact ⟨fun q => absurd rfl q, fun q => by omega⟩
  rw [if_neg h1]
  rw [Int32.le_iff_toInt_le] at h1
  exact ⟨fun _ => by omega, fun _ => by decide⟩
theorem isB_sm {a b : Int32} {n m : Nat} (ha : sm a n) (hb : sm b m) (h : nn a < nn b) : ¬ sX6_isBelow a b = 0 := by
  rw [isB_iff]
  have := nn_toInt ha.1
  have := nn_toInt hb.1
  have := ha.1
  omega
theorem wa5 {w : Row} {i r : Nat} (hcn : Cn w) (hs : ∀ k, k < 8 → sm (w (12 + k)) 7) (hq : ∀ c, c ∈ qs w → c < nn (w 6)) (hr : r < 2 ^ 31) : sX5_waiterAt w i (nI r) = nthL w i (qs w) r := by
  have h8 := hcn.1.le
  have key : ∀ (n m a p : Nat), nn (w 10) = p + m → m < n → a ≤ r → bX5_waiterAt_5 w i (nI r) n (nI a) p = nthL w i (ql w m p) (r - a) := by
    intro n
    induction n with
    | zero => intro m a p _ h _; omega
    | succ n ih =>
      intro m a p h1 h2 h3
      rw [bX5_waiterAt_5]
      have hc := cnt_le (c := w 10) (p := p) hcn.1 (by omega)
      cases m with
      | zero => rw [if_pos (hc.mpr (by omega))]; rfl
      | succ m =>
        rw [if_neg (fun q => by have := hc.mp q; omega), if_neg (isB_sm (hs p (by omega)) hcn.2.2 (hq _ (mem_q (by omega)))), ql, nthL]
        by_cases c : w (104 + 8 * nn (w (12 + p)) + 2) = nI i
        · rw [if_pos c, if_pos c]
          by_cases d : a = r
          · subst d; rw [if_pos rfl, if_pos (Nat.sub_self a)]
          · have d2 : ¬ nI a = nI r := fun q => d ((nI_eq (by omega) hr).mp q)
            rw [if_neg d2, if_neg (by omega), nI_1, ih m (a + 1) (p + 1) (by omega) (by omega) (by omega)]
            congr 1
        · rw [if_neg c, if_neg c]
          exact ih m a (p + 1) (by omega) (by omega) h3
  have := key 9 (nn (w 10)) 0 0 (by omega) (by omega) (Nat.zero_le r)
  exact this
theorem dist_eq {w : Row} {i c : Nat} : sX0_distance w i (w (104 + 8 * c + 3)) = sX7_far w c i := by
  unfold sX0_distance sX7_far sX7_size
  rw [Int32.zero_sub]
theorem far_b {w : Row} {i c : Nat} (hg : sm (w (104 + 8 * c + 3)) 999) (hr : sm (w (20 + 7 * i + 3)) 999) : sm (sX7_far w c i) 999 := by
  have a0 := hg.1
  have a1 := hg.2
  have b0 := hr.1
  have b1 := hr.2
  unfold sX7_far sX7_size
  have e := ts (a := w (104 + 8 * c + 3)) (b := w (20 + 7 * i + 3)) (by omega)
  have e0 : (0 : Int32).toInt = 0 := by decide
  generalize w (104 + 8 * c + 3) - w (20 + 7 * i + 3) = X at e ⊢
  by_cases h : 0 ≤ X
  · rw [if_pos h]
    rw [Int32.le_iff_toInt_le, e0] at h
    exact ⟨h, by omega⟩
  · rw [if_neg h]
    rw [Int32.le_iff_toInt_le, e0] at h
    have en : (-X).toInt = - X.toInt := by
      rw [← Int32.zero_sub, ts (by omega), e0]; omega
    exact ⟨by omega, by omega⟩
/-! the same with the distances and the rest as variables -/
def cmrF (o0 o1 : Option Nat) (f : Nat → Int32) (rdy : Nat → Option Nat) (pay : Nat → Nat → Option Nat) : Option Nat := oe o0 none (fun a => oe o1 (rdy a) (fun b => if f a = f b then (if a < b then pay a b else pay b a) else (if f b ≤ f a then some b else some a)))
def clsF (o0 o1 : Option Nat) (f : Nat → Int32) (rdy : Nat → Option Nat) (pay : Nat → Nat → Option Nat) : Option Nat := oe o0 (oe o1 none (fun _ => none)) (fun a => oe o1 (rdy a) (fun b => if f b - f a = 0 then oe (pay a b) none (fun q => some q) else (if f b - f a ≤ 0 then some b else some a)))
def tieF (o0 o1 : Option Nat) (f : Nat → Int32) : Int32 := oe o0 0 (fun a => oe o1 0 (fun b => if f a = f b then 1 else 0))
theorem tieF_congr {o0 o1 : Option Nat} {f g : Nat → Int32} (h0 : ∀ a, o0 = some a → f a = g a) (h1 : ∀ a, o1 = some a → f a = g a) : tieF o0 o1 f = tieF o0 o1 g := by
  unfold tieF
  cases o0 with
  | none => rw [oe_none rfl, oe_none rfl]
  | some a =>
    cases o1 with
    | none => rw [oe_some rfl, oe_some rfl, oe_none rfl, oe_none rfl]
    | some b =>
      rw [oe_some rfl, oe_some rfl, oe_some rfl, oe_some rfl, h0 a rfl, h1 b rfl]
theorem cmrF_congr {o0 o1 : Option Nat} {f g : Nat → Int32} {rdy rdy' : Nat → Option Nat} {pay pay' : Nat → Nat → Option Nat} (h0 : ∀ a, o0 = some a → f a = g a ∧ rdy a = rdy' a) (h1 : ∀ a, o1 = some a → f a = g a)
    (hp : ∀ a b, o0 = some a → o1 = some b → pay a b = pay' a b ∧ pay b a = pay' b a) : cmrF o0 o1 f rdy pay = cmrF o0 o1 g rdy' pay' := by
  unfold cmrF
  cases o0 with
  | none => rw [oe_none rfl, oe_none rfl]
  | some a =>
    cases o1 with
    | none => rw [oe_some rfl, oe_some rfl, oe_none rfl, oe_none rfl]; exact (h0 a rfl).2
    | some b =>
      rw [oe_some rfl, oe_some rfl, oe_some rfl, oe_some rfl]
      have ea := (h0 a rfl).1
      have eb := h1 b rfl
      obtain ⟨p1, p2⟩ := hp a b rfl rfl
      by_cases c1 : f a = f b
      · have c1' : g a = g b := ea.symm.trans (c1.trans eb)
        rw [if_pos c1, if_pos c1']
        by_cases d : a < b
        · rw [if_pos d, if_pos d]; exact p1
        · rw [if_neg d, if_neg d]; exact p2
      · have c1' : ¬ g a = g b := fun q => c1 (ea.trans (q.trans eb.symm))
        rw [if_neg c1, if_neg c1']
        by_cases c2 : f b ≤ f a
        · have c2' : g b ≤ g a := by rw [← ea, ← eb]; exact c2
          rw [if_pos c2, if_pos c2']
        · have c2' : ¬ g b ≤ g a := by rw [← ea, ← eb]; exact c2
          rw [if_neg c2, if_neg c2']
theorem clsF_eq {o0 o1 : Option Nat} {f : Nat → Int32} {rdy : Nat → Option Nat} {pay pay' : Nat → Nat → Option Nat} (h0 : ∀ a, o0 = some a → sm (f a) 999) (h1 : ∀ a, o1 = some a → sm (f a) 999)
    (hp : ∀ a b, o0 = some a → o1 = some b → pay' a b = if a < b then pay a b else pay b a) : clsF o0 o1 f rdy pay' = cmrF o0 o1 f rdy pay := by
  unfold clsF cmrF
  cases o0 with
  | none =>
    cases o1 with
    | none => rw [oe_none rfl, oe_none rfl, oe_none rfl]
    | some b => rw [oe_none rfl, oe_none rfl, oe_some rfl]
  | some a =>
    cases o1 with
    | none => rw [oe_some rfl, oe_some rfl, oe_none rfl, oe_none rfl]
    | some b =>
      rw [oe_some rfl, oe_some rfl, oe_some rfl, oe_some rfl]
      have a0 := (h0 a rfl).1
      have a1 := (h0 a rfl).2
      have b0 := (h1 b rfl).1
      have b1 := (h1 b rfl).2
      have hpp := hp a b rfl rfl
      have e := ts (a := f b) (b := f a) (by omega)
      have z0 : (0 : Int32).toInt = 0 := by decide
      have t1 : f b - f a = 0 ↔ f a = f b := by
        rw [← Int32.toInt_inj, e, z0, ← Int32.toInt_inj]; omega
      have t2 : f b - f a ≤ 0 ↔ f b ≤ f a := by
        rw [Int32.le_iff_toInt_le, e, z0, Int32.le_iff_toInt_le]; omega
      have P : ∀ o : Option Nat, oe o none (fun q => some q) = o := fun o => by cases o <;> rfl
      by_cases c1 : f a = f b
      · rw [if_pos (t1.mpr c1), if_pos c1]
        exact (P _).trans hpp
      · rw [if_neg (fun q => c1 (t1.mp q)), if_neg c1]
        by_cases c2 : f b ≤ f a
        · rw [if_pos (t2.mpr c2), if_pos c2]
        · rw [if_neg (fun q => c2 (t2.mp q)), if_neg c2]
def rdyW (w : Row) (a : Nat) : Option Nat := if w (104 + 8 * a + 4) < w 3 then none else some a
theorem cmr_F {w : Row} {i : Nat} : cmr w i = cmrF (nthL w i (qs w) 0) (nthL w i (qs w) 1) (fun c => sX7_far w c i) (rdyW w) (payer w) := rfl
theorem tie_F {w : Row} {i : Nat} : tie w i = tieF (nthL w i (qs w) 0) (nthL w i (qs w) 1) (fun c => sX7_far w c i) := rfl
theorem pay5 {w : Row} {a b : Nat} (ha : a < 8) (hb : b < 8) : sX5_payerOfTie w a b = if a < b then payer w a b else payer w b a := by
  unfold sX5_payerOfTie payer
  by_cases d : b ≤ a
  · have d1 := (nI_leI (a := b) (b := a) (by omega) (by omega)).mpr d
    rw [if_pos d1, if_pos d1, if_neg (show ¬ a < b by omega)]
  · have d1 : ¬ nI b ≤ nI a := fun q => d ((nI_leI (by omega) (by omega)).mp q)
    rw [if_neg d1, if_neg d1, if_pos (show a < b by omega)]
theorem comer5 {w : Row} {i : Nat} (hcn : Cn w) (hs : ∀ k, k < 8 → sm (w (12 + k)) 7) (hq : ∀ c, c ∈ qs w → c < nn (w 6)) (hg : ∀ c, c ∈ qs w → sm (w (104 + 8 * c + 3)) 999) (hr : sm (w (20 + 7 * i + 3)) 999) : sX5_comerOver w i = cmr w i := by
  have e0 : sX5_waiterAt w i 0 = nthL w i (qs w) 0 := wa5 (r := 0) hcn hs hq (by omega)
  have e1 : sX5_waiterAt w i 1 = nthL w i (qs w) 1 := wa5 (r := 1) hcn hs hq (by omega)
  have h8 := hcn.2.2.le
  have ed : (fun c => sX0_distance w i (w (104 + 8 * c + 3))) = fun c => sX7_far w c i := funext fun c => dist_eq
  have e : sX5_comerOver w i = clsF (sX5_waiterAt w i 0) (sX5_waiterAt w i 1) (fun c => sX0_distance w i (w (104 + 8 * c + 3))) (rdyW w) (sX5_payerOfTie w) := rfl
  rw [e, e0, e1, ed, cmr_F]
  exact clsF_eq (fun a ha => far_b (hg a (nthL_some _ _ ha).1) hr) (fun a ha => far_b (hg a (nthL_some _ _ ha).1) hr) (fun a b ha hb => pay5 (by have := hq a (nthL_some _ _ ha).1; omega) (by have := hq b (nthL_some _ _ hb).1; omega))
theorem tied5 {w : Row} {i : Nat} (hcn : Cn w) (hs : ∀ k, k < 8 → sm (w (12 + k)) 7) (hq : ∀ c, c ∈ qs w → c < nn (w 6)) : sX5_isTied w i = tie w i := by
  unfold sX5_isTied tie
  have e0 : sX5_waiterAt w i 0 = nthL w i (qs w) 0 := wa5 (r := 0) hcn hs hq (by omega)
  have e1 : sX5_waiterAt w i 1 = nthL w i (qs w) 1 := wa5 (r := 1) hcn hs hq (by omega)
  rw [e0, e1]
  cases h0 : nthL w i (qs w) 0 with
  | none => cases nthL w i (qs w) 1 <;> rfl
  | some a =>
    cases h1 : nthL w i (qs w) 1 with
    | none => rfl
    | some b =>
      show (if sX0_distance w i (w (104 + 8 * a + 3)) = sX0_distance w i (w (104 + 8 * b + 3)) then (1 : Int32) else 0) = if sX7_far w a i = sX7_far w b i then 1 else 0
      rw [dist_eq, dist_eq]
def Rel (w r : Row) : Prop := (∀ j, j < 11 → w j = r j) ∧ qs w = qs r ∧ (∀ k, k < 8 → sm (w (12 + k)) 7) ∧ (∀ j, 20 ≤ j → j < 104 → w j = r j) ∧
  (∀ c f, c < 8 → f < 8 → (f = 2 ∨ f = 3 → c < nn (r 6)) → w (104 + 8 * c + f) = r (104 + 8 * c + f)) ∧ (∀ j, 168 ≤ j → j < 360 → w j = r j) ∧
  (∀ i, i < 12 → w (360 + i) = nI (cntL r i (qs r))) ∧ ∀ c, c < 8 → nn (r 6) ≤ c → w (104 + 8 * c + 2) = -6 ∧ w (104 + 8 * c + 3) = -6
section RL
variable {w r : Row}
theorem Rel.j (h : Rel w r) {j : Nat} (hj : j < 11) : w j = r j := h.1 j hj
theorem Rel.q (h : Rel w r) : qs w = qs r := h.2.1
theorem Rel.b (h : Rel w r) {j : Nat} (h1 : 20 ≤ j) (h2 : j < 104) : w j = r j := h.2.2.2.1 j h1 h2
theorem Rel.c (h : Rel w r) {c f : Nat} (h1 : c < 8) (h2 : f < 8) (h3 : f = 2 ∨ f = 3 → c < nn (r 6)) : w (104 + 8 * c + f) = r (104 + 8 * c + f) := h.2.2.2.2.1 c f h1 h2 h3
theorem Rel.c0 (h : Rel w r) {c : Nat} (h1 : c < 8) : w (104 + 8 * c) = r (104 + 8 * c) := h.c (f := 0) h1 (by omega) (by omega)
theorem Rel.g (h : Rel w r) {j : Nat} (h1 : 168 ≤ j) (h2 : j < 360) : w j = r j := h.2.2.2.2.2.1 j h1 h2
theorem Rel.cn (h : Rel w r) (hr : Cn r) : Cn w := by
  unfold Cn
  rw [h.j (show 10 < 11 by omega), h.j (show 5 < 11 by omega), h.j (show 6 < 11 by omega)]; exact hr
theorem Rel.q6 (h : Rel w r) (hI : Inv r) : ∀ c, c ∈ qs w → c < nn (w 6) := fun c hc => by
  rw [h.q] at hc
  rw [h.j (by omega)]
  exact (hI.2.1.2.1 c hc).1
theorem Rel.nthE (h : Rel w r) (hI : Inv r) {i k : Nat} : nthL w i (qs w) k = nthL r i (qs r) k := by
  rw [h.q]
  exact nthL_congr _ _ (fun c hc => by
    have h1 := (hI.2.1.2.1 c hc).1
    have h2 := hI.1.1.2.2.le
    exact h.c (by omega) (by omega) (fun _ => h1))
theorem Rel.farE (h : Rel w r) (hI : Inv r) {i c : Nat} (hc : c ∈ qs r) (hi : i < 12) : sX7_far w c i = sX7_far r c i := by
  have h1 := (hI.2.1.2.1 c hc).1
  have h2 := hI.1.1.2.2.le
  unfold sX7_far
  rw [h.c (c := c) (f := 3) (by omega) (by omega) (fun _ => h1), h.b (j := 20 + 7 * i + 3) (by omega) (by omega)]
theorem Rel.tieE (h : Rel w r) (hI : Inv r) {i : Nat} (hi : i < 12) : tie w i = tie r i := by
  rw [tie_F, tie_F, h.nthE hI, h.nthE hI]
  exact tieF_congr (fun a ha => h.farE hI (nthL_some _ _ ha).1 hi) (fun a ha => h.farE hI (nthL_some _ _ ha).1 hi)
theorem Rel.cmrE (h : Rel w r) (hI : Inv r) {i : Nat} (hi : i < 12) : cmr w i = cmr r i := by
  have h2 := hI.1.1.2.2.le
  have P : ∀ x y, x < nn (r 6) → y < nn (r 6) → payer w x y = payer r x y := fun x y hx hy => by
    unfold payer
    rw [h.c (c := x) (f := 1) (by omega) (by omega) (fun _ => hx), h.c (c := y) (f := 1) (by omega) (by omega) (fun _ => hy), h.j (j := 0) (by omega)]
  rw [cmr_F, cmr_F, h.nthE hI, h.nthE hI]
  refine cmrF_congr (fun a ha => ⟨h.farE hI (nthL_some _ _ ha).1 hi, ?_⟩) (fun a ha => h.farE hI (nthL_some _ _ ha).1 hi) (fun a b ha hb => ?_)
  · have h1 := (hI.2.1.2.1 a (nthL_some _ _ ha).1).1
    unfold rdyW
    rw [h.c (c := a) (f := 4) (by omega) (by omega) (fun _ => h1), h.j (j := 3) (by omega)]
  · have h1 := (hI.2.1.2.1 a (nthL_some _ _ ha).1).1
    have h1b := (hI.2.1.2.1 b (nthL_some _ _ hb).1).1
    exact ⟨P a b h1 h1b, P b a h1b h1⟩
theorem Rel.tied (h : Rel w r) (hI : Inv r) {i : Nat} (hi : i < 12) : sX5_isTied w i = sX7_areAsNear r i := by
  rw [tied5 (h.cn hI.1.1) h.2.2.1 (h.q6 hI), h.tieE hI hi, tie_eq hI.1]
theorem Rel.comer (h : Rel w r) (hI : Inv r) {i : Nat} (hi : i < 12) : sX5_comerOver w i = cmr r i := by
  have hg : ∀ c, c ∈ qs w → sm (w (104 + 8 * c + 3)) 999 := fun c hc => by
    rw [h.q] at hc
    obtain ⟨h1, k, h2, h3⟩ := hI.2.1.2.1 c hc
    have h6 := hI.1.1.2.2.le
    have h5 := hI.1.1.2.1.le
    rw [h.c (c := c) (f := 3) (by omega) (by omega) (fun _ => h1)]
    exact (hI.2.2.2.2.2.1.2.2 c (by omega)).resolve_left (by rw [h3]; exact nn_neg6 (by omega))
  have hr : sm (w (20 + 7 * i + 3)) 999 := by
    rw [h.b (j := 20 + 7 * i + 3) (by omega) (by omega)]; exact hI.2.2.2.2.2.1.2.1 i hi
  rw [comer5 (h.cn hI.1.1) h.2.2.1 (h.q6 hI) hg hr, h.cmrE hI hi]
end RL
