/-! who comes over: one formula -/
/-- how far a cart's guess is from the riddle -/
def far (w : Row) (c i : Nat) : Int32 := sX0_distance w i (w (104 + 8 * c + 3))
def payer (w : Row) (lo hi : Nat) : Option Nat := if w (104 + 8 * lo + 1) < w 0 then (if w (104 + 8 * hi + 1) < w 0 then none else some hi) else some lo
def tie (w : Row) (i : Nat) : Int32 := oe (nthL w i (qs w) 0) 0 (fun a => oe (nthL w i (qs w) 1) 0 (fun b => if far w a i = far w b i then 1 else 0))
def cmr (w : Row) (i : Nat) : Option Nat := oe (nthL w i (qs w) 0) none (fun a => oe (nthL w i (qs w) 1) (if w (104 + 8 * a + 4) < w 3 then none else some a) (fun b => if far w a i = far w b i then (if a < b then payer w a b else payer w b a) else (if far w b i ≤ far w a i then some b else some a)))
theorem n01 {w : Row} {i : Nat} {l : List Nat} {b : Nat} (h : nthL w i l 1 = some b) : ∃ a, nthL w i l 0 = some a := by
  cases h0 : nthL w i l 0 with
  | some a => exact ⟨a, rfl⟩
  | none =>
    have h2 := (nthL_none l 0).mp h0
    have h3 := (nthL_none (w := w) (i := i) l 1).mpr (by omega)
    rw [h] at h3; cases h3
theorem cmr_mem {w : Row} {i c : Nat} (h : cmr w i = some c) : c ∈ qs w ∧ w (104 + 8 * c + 2) = nI i := by
  unfold cmr at h
  cases h0 : nthL w i (qs w) 0 with
  | none => rw [h0] at h; cases h
  | some a =>
    rw [h0, oe_some rfl] at h
    cases h1 : nthL w i (qs w) 1 with
    | none =>
      rw [h1, oe_none rfl] at h
      by_cases d : w (104 + 8 * a + 4) < w 3
      · rw [if_pos d] at h; cases h
      · rw [if_neg d] at h; cases h; exact nthL_some _ _ h0
    | some b =>
      rw [h1, oe_some rfl] at h
      have A := nthL_some _ _ h0
      have B := nthL_some _ _ h1
      have P : ∀ lo hi, payer w lo hi = some c → c = lo ∨ c = hi := by
        intro lo hi q
        unfold payer at q
        by_cases c1 : w (104 + 8 * lo + 1) < w 0
        · rw [if_pos c1] at q
          by_cases c2 : w (104 + 8 * hi + 1) < w 0
          · rw [if_pos c2] at q; cases q
          · rw [if_neg c2] at q; cases q; exact Or.inr rfl
        · rw [if_neg c1] at q; cases q; exact Or.inl rfl
      by_cases t : far w a i = far w b i
      · rw [if_pos t] at h
        by_cases d : a < b
        · rw [if_pos d] at h; rcases P _ _ h with q | q <;> (rw [q]; assumption)
        · rw [if_neg d] at h; rcases P _ _ h with q | q <;> (rw [q]; assumption)
      · rw [if_neg t] at h
        by_cases d : far w b i ≤ far w a i
        · rw [if_pos d] at h; cases h; exact B
        · rw [if_neg d] at h; cases h; exact A
theorem isB_iff {a b : Int32} : ¬ sX6_isBelow a b = 0 ↔ 0 ≤ a.toInt ∧ a.toInt < b.toInt := by
  unfold sX6_isBelow
  have e0 : (0 : Int32).toInt = 0 := by decide
  by_cases h0 : a < 0
  · rw [if_pos h0]
    rw [Int32.lt_iff_toInt_lt, e0] at h0
    exact ⟨fun q => absurd rfl q, fun q => by omega⟩
  rw [if_neg h0]
  rw [Int32.lt_iff_toInt_lt, e0] at h0
  by_cases h1 : b ≤ a
  · rw [if_pos h1]
    rw [Int32.le_iff_toInt_le] at h1
    exact ⟨fun q => absurd rfl q, fun q => by omega⟩
  rw [if_neg h1]
  rw [Int32.le_iff_toInt_le] at h1
  exact ⟨fun _ => by omega, fun _ => by decide⟩
theorem isB_sm {a b : Int32} {n m : Nat} (ha : sm a n) (hb : sm b m) (h : nn a < nn b) : ¬ sX6_isBelow a b = 0 := by
  rw [isB_iff]
  have := nn_toInt ha.1
  have := nn_toInt hb.1
  have := ha.1
  omega
theorem wa5 {w : Row} {i r : Nat} (hcn : Cn w) (hs : ∀ k, k < 8 → sm (w (12 + k)) 7) (hq : ∀ c, c ∈ qs w → c < nn (w 6)) (hr : r < 2 ^ 31) : sX5_waiterAt w i (nI r) = nthL w i (qs w) r := by
  have h8 := hcn.1.le
  have key : ∀ (n m a p : Nat), nn (w 10) = p + m → m < n → a ≤ r → bX5_waiterAt_5 w i (nI r) n (nI a) p = nthL w i (ql w m p) (r - a) := by
    intro n
    induction n with
    | zero => intro m a p _ h _; omega
    | succ n ih =>
      intro m a p h1 h2 h3
      rw [bX5_waiterAt_5]
      have hc := cnt_le (c := w 10) (p := p) hcn.1 (by omega)
      cases m with
      | zero => rw [if_pos (hc.mpr (by omega))]; rfl
      | succ m =>
        rw [if_neg (fun q => by have := hc.mp q; omega), if_neg (isB_sm (hs p (by omega)) hcn.2.2 (hq _ (mem_q (by omega)))), ql, nthL]
        by_cases c : w (104 + 8 * nn (w (12 + p)) + 2) = nI i
        · rw [if_pos c, if_pos c]
          by_cases d : a = r
          · subst d; rw [if_pos rfl, if_pos (Nat.sub_self a)]
          · have d2 : ¬ nI a = nI r := fun q => d ((nI_eq (by omega) hr).mp q)
            rw [if_neg d2, if_neg (by omega), nI_1, ih m (a + 1) (p + 1) (by omega) (by omega) (by omega)]
            congr 1
        · rw [if_neg c, if_neg c]
          exact ih m a (p + 1) (by omega) (by omega) h3
  have := key 9 (nn (w 10)) 0 0 (by omega) (by omega) (Nat.zero_le r)
  exact this
theorem far_b {w : Row} {i c : Nat} (hg : sm (w (104 + 8 * c + 3)) 999) (hr : sm (w (20 + 7 * i + 3)) 999) : sm (far w c i) 999 := by
  have a0 := hg.1
  have a1 := hg.2
  have b0 := hr.1
  have b1 := hr.2
  unfold far sX0_distance
  have e := ts (a := w (104 + 8 * c + 3)) (b := w (20 + 7 * i + 3)) (by omega)
  have e0 : (0 : Int32).toInt = 0 := by decide
  generalize w (104 + 8 * c + 3) - w (20 + 7 * i + 3) = X at e ⊢
  by_cases h : 0 ≤ X
  · rw [if_pos h]
    rw [Int32.le_iff_toInt_le, e0] at h
    exact ⟨h, by omega⟩
  · rw [if_neg h]
    rw [Int32.le_iff_toInt_le, e0] at h
    have en : (0 - X).toInt = - X.toInt := by
      rw [ts (by omega), e0]; omega
    exact ⟨by omega, by omega⟩
def cmrF (o0 o1 : Option Nat) (f : Nat → Int32) (rdy : Nat → Option Nat) (pay : Nat → Nat → Option Nat) : Option Nat := oe o0 none (fun a => oe o1 (rdy a) (fun b => if f a = f b then (if a < b then pay a b else pay b a) else (if f b ≤ f a then some b else some a)))
def clsF (o0 o1 : Option Nat) (f : Nat → Int32) (rdy : Nat → Option Nat) (pay : Nat → Nat → Option Nat) : Option Nat := oe o0 (oe o1 none (fun _ => none)) (fun a => oe o1 (rdy a) (fun b => if f b - f a = 0 then oe (pay a b) none (fun q => some q) else (if f b - f a ≤ 0 then some b else some a)))
def tieF (o0 o1 : Option Nat) (f : Nat → Int32) : Int32 := oe o0 0 (fun a => oe o1 0 (fun b => if f a = f b then 1 else 0))
theorem tieF_congr {o0 o1 : Option Nat} {f g : Nat → Int32} (h0 : ∀ a, o0 = some a → f a = g a) (h1 : ∀ a, o1 = some a → f a = g a) : tieF o0 o1 f = tieF o0 o1 g := by
  unfold tieF
  cases o0 with
  | none => rw [oe_none rfl, oe_none rfl]
  | some a =>
    cases o1 with
    | none => rw [oe_some rfl, oe_some rfl, oe_none rfl, oe_none rfl]
    | some b =>
      rw [oe_some rfl, oe_some rfl, oe_some rfl, oe_some rfl, h0 a rfl, h1 b rfl]
theorem cmrF_congr {o0 o1 : Option Nat} {f g : Nat → Int32} {rdy rdy' : Nat → Option Nat} {pay pay' : Nat → Nat → Option Nat} (h0 : ∀ a, o0 = some a → f a = g a ∧ rdy a = rdy' a) (h1 : ∀ a, o1 = some a → f a = g a)
    (hp : ∀ a b, o0 = some a → o1 = some b → pay a b = pay' a b ∧ pay b a = pay' b a) : cmrF o0 o1 f rdy pay = cmrF o0 o1 g rdy' pay' := by
  unfold cmrF
  cases o0 with
  | none => rw [oe_none rfl, oe_none rfl]
  | some a =>
    cases o1 with
    | none => rw [oe_some rfl, oe_some rfl, oe_none rfl, oe_none rfl]; exact (h0 a rfl).2
    | some b =>
      rw [oe_some rfl, oe_some rfl, oe_some rfl, oe_some rfl]
      have ea := (h0 a rfl).1
      have eb := h1 b rfl
      obtain ⟨p1, p2⟩ := hp a b rfl rfl
      by_cases c1 : f a = f b
      · have c1' : g a = g b := ea.symm.trans (c1.trans eb)
        rw [if_pos c1, if_pos c1']
        by_cases d : a < b
        · rw [if_pos d, if_pos d]; exact p1
        · rw [if_neg d, if_neg d]; exact p2
      · have c1' : ¬ g a = g b := fun q => c1 (ea.trans (q.trans eb.symm))
        rw [if_neg c1, if_neg c1']
        by_cases c2 : f b ≤ f a
        · have c2' : g b ≤ g a := by rw [← ea, ← eb]; exact c2
          rw [if_pos c2, if_pos c2']
        · have c2' : ¬ g b ≤ g a := by rw [← ea, ← eb]; exact c2
          rw [if_neg c2, if_neg c2']
theorem clsF_eq {o0 o1 : Option Nat} {f : Nat → Int32} {rdy : Nat → Option Nat} {pay pay' : Nat → Nat → Option Nat} (h0 : ∀ a, o0 = some a → sm (f a) 999) (h1 : ∀ a, o1 = some a → sm (f a) 999)
    (hp : ∀ a b, o0 = some a → o1 = some b → pay' a b = if a < b then pay a b else pay b a) : clsF o0 o1 f rdy pay' = cmrF o0 o1 f rdy pay := by
  unfold clsF cmrF
  cases o0 with
  | none =>
    cases o1 with
    | none => rw [oe_none rfl, oe_none rfl, oe_none rfl]
    | some b => rw [oe_none rfl, oe_none rfl, oe_some rfl]
  | some a =>
    cases o1 with
    | none => rw [oe_some rfl, oe_some rfl, oe_none rfl, oe_none rfl]
    | some b =>
      rw [oe_some rfl, oe_some rfl, oe_some rfl, oe_some rfl]
      have a0 := (h0 a rfl).1
      have a1 := (h0 a rfl).2
      have b0 := (h1 b rfl).1
      have b1 := (h1 b rfl).2
      have hpp := hp a b rfl rfl
      have e := ts (a := f b) (b := f a) (by omega)
      have z0 : (0 : Int32).toInt = 0 := by decide
      have t1 : f b - f a = 0 ↔ f a = f b := by
        rw [← Int32.toInt_inj, e, z0, ← Int32.toInt_inj]; omega
      have t2 : f b - f a ≤ 0 ↔ f b ≤ f a := by
        rw [Int32.le_iff_toInt_le, e, z0, Int32.le_iff_toInt_le]; omega
      have P : ∀ o : Option Nat, oe o none (fun q => some q) = o := fun o => by cases o <;> rfl
      by_cases c1 : f a = f b
      · rw [if_pos (t1.mpr c1), if_pos c1]
        exact (P _).trans hpp
      · rw [if_neg (fun q => c1 (t1.mp q)), if_neg c1]
        by_cases c2 : f b ≤ f a
        · rw [if_pos (t2.mpr c2), if_pos c2]
        · rw [if_neg (fun q => c2 (t2.mp q)), if_neg c2]
def rdyW (w : Row) (a : Nat) : Option Nat := if w (104 + 8 * a + 4) < w 3 then none else some a
theorem cmr_F {w : Row} {i : Nat} : cmr w i = cmrF (nthL w i (qs w) 0) (nthL w i (qs w) 1) (fun c => far w c i) (rdyW w) (payer w) := rfl
theorem tie_F {w : Row} {i : Nat} : tie w i = tieF (nthL w i (qs w) 0) (nthL w i (qs w) 1) (fun c => far w c i) := rfl
theorem pay5 {w : Row} {a b : Nat} (ha : a < 8) (hb : b < 8) : sX5_payerOfTie w a b = if a < b then payer w a b else payer w b a := by
  unfold sX5_payerOfTie payer
  by_cases d : b ≤ a
  · have d1 := (nI_leI (a := b) (b := a) (by omega) (by omega)).mpr d
    rw [if_pos d1, if_pos d1, if_neg (show ¬ a < b by omega)]
  · have d1 : ¬ nI b ≤ nI a := fun q => d ((nI_leI (by omega) (by omega)).mp q)
    rw [if_neg d1, if_neg d1, if_pos (show a < b by omega)]
theorem comer5 {w : Row} {i : Nat} (hcn : Cn w) (hs : ∀ k, k < 8 → sm (w (12 + k)) 7) (hq : ∀ c, c ∈ qs w → c < nn (w 6)) (hg : ∀ c, c ∈ qs w → sm (w (104 + 8 * c + 3)) 999) (hr : sm (w (20 + 7 * i + 3)) 999) : sX5_comerOver w i = cmr w i := by
  have e0 : sX5_waiterAt w i 0 = nthL w i (qs w) 0 := wa5 (r := 0) hcn hs hq (by omega)
  have e1 : sX5_waiterAt w i 1 = nthL w i (qs w) 1 := wa5 (r := 1) hcn hs hq (by omega)
  have h8 := hcn.2.2.le
  have e : sX5_comerOver w i = clsF (sX5_waiterAt w i 0) (sX5_waiterAt w i 1) (fun c => far w c i) (rdyW w) (sX5_payerOfTie w) := rfl
  rw [e, e0, e1, cmr_F]
  exact clsF_eq (fun a ha => far_b (hg a (nthL_some _ _ ha).1) hr) (fun a ha => far_b (hg a (nthL_some _ _ ha).1) hr) (fun a b ha hb => pay5 (by have := hq a (nthL_some _ _ ha).1; omega) (by have := hq b (nthL_some _ _ hb).1; omega))
theorem tied5 {w : Row} {i : Nat} (hcn : Cn w) (hs : ∀ k, k < 8 → sm (w (12 + k)) 7) (hq : ∀ c, c ∈ qs w → c < nn (w 6)) : sX5_isTied w i = tie w i := by
  unfold sX5_isTied tie
  have e0 : sX5_waiterAt w i 0 = nthL w i (qs w) 0 := wa5 (r := 0) hcn hs hq (by omega)
  have e1 : sX5_waiterAt w i 1 = nthL w i (qs w) 1 := wa5 (r := 1) hcn hs hq (by omega)
  rw [e0, e1]
  cases h0 : nthL w i (qs w) 0 with
  | none => cases nthL w i (qs w) 1 <;> rfl
  | some a =>
    cases h1 : nthL w i (qs w) 1 with
    | none => rfl
    | some b => rfl
