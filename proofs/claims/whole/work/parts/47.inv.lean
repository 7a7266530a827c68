/-! what holds of each row of the reference -/
def cntL (w : Row) (i : Nat) : List Nat → Nat
  | [] => 0
  | c :: l => if w (104 + 8 * c + 2) = nI i then cntL w i l + 1 else cntL w i l
def nthL (w : Row) (i : Nat) : List Nat → Nat → Option Nat
  | [], _ => none
  | c :: l, r => if w (104 + 8 * c + 2) = nI i then (if r = 0 then some c else nthL w i l (r - 1)) else nthL w i l r
theorem cnt_L {w : Row} {i : Nat} : ∀ (m p : Nat), cnt w i m p = cntL w i (ql w m p) := by
  intro m
  induction m with
  | zero => intro p; rfl
  | succ m ih => intro p; rw [cnt, ql, cntL, ih]
theorem nth_L {w : Row} {i : Nat} : ∀ (m p r : Nat), nth w i m p r = nthL w i (ql w m p) r := by
  intro m
  induction m with
  | zero => intro p r; rfl
  | succ m ih => intro p r; rw [nth, ql, nthL, ih, ih]
theorem many_L {w : Row} {i : Nat} (hcn : Cn w) : sX7_many w i = nI (cntL w i (qs w)) := by rw [many_eq hcn, cnt_L]; rfl
theorem waiter_L {w : Row} {i r : Nat} (hcn : Cn w) (hr : r < 2 ^ 31) : sX7_waiter w i (nI r) = enc (nthL w i (qs w) r) := by rw [waiter_eq hcn hr, nth_L]; rfl
theorem cntL_congr {w w' : Row} {i : Nat} : ∀ (l : List Nat), (∀ c, c ∈ l → w (104 + 8 * c + 2) = w' (104 + 8 * c + 2)) → cntL w i l = cntL w' i l := by
  intro l
  induction l with
  | nil => intro _; rfl
  | cons c l ih => intro h; rw [cntL, cntL, h c List.mem_cons_self, ih (fun x hx => h x (List.mem_cons_of_mem _ hx))]
theorem nthL_congr {w w' : Row} {i : Nat} : ∀ (l : List Nat) (r : Nat), (∀ c, c ∈ l → w (104 + 8 * c + 2) = w' (104 + 8 * c + 2)) → nthL w i l r = nthL w' i l r := by
  intro l
  induction l with
  | nil => intro r _; rfl
  | cons c l ih => intro r h; rw [nthL, nthL, h c List.mem_cons_self, ih _ (fun x hx => h x (List.mem_cons_of_mem _ hx)), ih _ (fun x hx => h x (List.mem_cons_of_mem _ hx))]
theorem cntL_len {w : Row} {i : Nat} : ∀ (l : List Nat), cntL w i l ≤ l.length := by
  intro l
  induction l with
  | nil => exact Nat.le_refl 0
  | cons c l ih => rw [cntL, List.length_cons]; split <;> omega
theorem nthL_none {w : Row} {i : Nat} : ∀ (l : List Nat) (r : Nat), nthL w i l r = none ↔ cntL w i l ≤ r := by
  intro l
  induction l with
  | nil => intro r; exact ⟨fun _ => Nat.zero_le r, fun _ => rfl⟩
  | cons c l ih =>
    intro r
    rw [nthL, cntL]
    by_cases d : w (104 + 8 * c + 2) = nI i
    · rw [if_pos d, if_pos d]
      by_cases e : r = 0
      · rw [if_pos e]; exact ⟨fun h => (by cases h), fun h => (by omega)⟩
      · rw [if_neg e, ih]; omega
    · rw [if_neg d, if_neg d, ih]
theorem nthL_some {w : Row} {i c : Nat} : ∀ (l : List Nat) (r : Nat), nthL w i l r = some c → c ∈ l ∧ w (104 + 8 * c + 2) = nI i := by
  intro l
  induction l with
  | nil => intro r h; cases h
  | cons x l ih =>
    intro r h
    rw [nthL] at h
    by_cases d : w (104 + 8 * x + 2) = nI i
    · rw [if_pos d] at h
      by_cases e : r = 0
      · rw [if_pos e] at h; cases h; exact ⟨List.mem_cons_self, d⟩
      · rw [if_neg e] at h; exact ⟨List.mem_cons_of_mem _ (ih _ h).1, (ih _ h).2⟩
    · rw [if_neg d] at h; exact ⟨List.mem_cons_of_mem _ (ih _ h).1, (ih _ h).2⟩
def sumN (f : Nat → Int) : Nat → Int
  | 0 => 0
  | n + 1 => sumN f n + f n
theorem sumN_congr {f g : Nat → Int} : ∀ (n : Nat), (∀ k, k < n → f k = g k) → sumN f n = sumN g n := by
  intro n
  induction n with
  | zero => intro _; rfl
  | succ n ih => intro h; rw [sumN, sumN, ih (fun k hk => h k (by omega)), h n (by omega)]
theorem sumN_one {f g : Nat → Int} {c : Nat} : ∀ (n : Nat), c < n → (∀ k, k < n → ¬ k = c → f k = g k) → sumN f n = sumN g n + (f c - g c) := by
  intro n
  induction n with
  | zero => intro h; omega
  | succ n ih =>
    intro hc h
    rw [sumN, sumN]
    by_cases e : c = n
    · subst e
      rw [sumN_congr c (fun k hk => h k (by omega) (by omega))]; omega
    · rw [ih (by omega) (fun k hk hkc => h k (by omega) hkc), h n (by omega) (fun q => e q.symm)]; omega
theorem sumN_pos {f : Nat → Int} : ∀ (n : Nat), (∀ k, k < n → 0 ≤ f k) → 0 ≤ sumN f n := by
  intro n
  induction n with
  | zero => intro _; exact Int.le_refl 0
  | succ n ih => intro h; rw [sumN]; have := ih (fun k hk => h k (by omega)); have := h n (by omega); omega
theorem sumN_le {f : Nat → Int} {c : Nat} : ∀ (n : Nat), c < n → (∀ k, k < n → 0 ≤ f k) → f c ≤ sumN f n := by
  intro n
  induction n with
  | zero => intro h; omega
  | succ n ih =>
    intro hc h
    rw [sumN]
    have h1 := sumN_pos n (fun k hk => h k (by omega))
    by_cases e : c = n
    · subst e; omega
    · have := ih (by omega) (fun k hk => h k (by omega)); have := h n (by omega); omega
def co (w : Row) (c : Nat) : Int := (w (104 + 8 * c + 1)).toInt
def tl (w : Row) (i : Nat) : Int := (w (20 + 7 * i + 4)).toInt
def IQ (w : Row) : Prop := (qs w).Nodup ∧ (∀ c, c ∈ qs w → c < nn (w 6) ∧ ∃ i, i < nn (w 5) ∧ w (104 + 8 * c + 2) = nI i) ∧ ∀ c, c < nn (w 6) → w (104 + 8 * c + 2) = -6 ∨ c ∈ qs w
def IZ (w : Row) : Prop := (∀ i, i < 12 → nn (w 5) ≤ i → w (20 + 7 * i + 4) = 0 ∧ w (20 + 7 * i + 5) = 0 ∧ w (20 + 7 * i + 6) = 0) ∧
  (∀ c, c < 8 → nn (w 6) ≤ c → w (104 + 8 * c + 1) = 0 ∧ w (104 + 8 * c + 4) = 0 ∧ w (104 + 8 * c + 5) = 0 ∧ w (104 + 8 * c + 6) = 0 ∧ w (104 + 8 * c + 7) = 0) ∧
  (∀ c i, c < 8 → i < 12 → i < nn (w 5) → nn (w 6) ≤ c → w (168 + 2 * (12 * c + i)) = 0 ∧ w (168 + 2 * (12 * c + i) + 1) = w (20 + 7 * i + 2) - 1) ∧
  ∀ c i, c < 8 → i < 12 → nn (w 5) ≤ i → w (168 + 2 * (12 * c + i)) = 0 ∧ w (168 + 2 * (12 * c + i) + 1) = 0
def IW (w : Row) : Prop := ∀ c, c < 8 → w (104 + 8 * c + 2) = -6 → w (104 + 8 * c + 4) = 0
def IR (w : Row) : Prop := ∀ c i, c < 8 → i < 12 → i < nn (w 5) → 0 ≤ (w (168 + 2 * (12 * c + i))).toInt ∧ (w (168 + 2 * (12 * c + i))).toInt ≤ (w (168 + 2 * (12 * c + i) + 1)).toInt ∧ (w (168 + 2 * (12 * c + i) + 1)).toInt < (w (20 + 7 * i + 2)).toInt
def IG (w : Row) : Prop := sm (w 7) 65536 ∧ (∀ i, i < 12 → sm (w (20 + 7 * i + 3)) 999) ∧ ∀ c, c < 8 → w (104 + 8 * c + 2) = -6 ∨ sm (w (104 + 8 * c + 3)) 999
def IM (w : Row) : Prop := (∀ c, c < 8 → 0 ≤ co w c) ∧ (∀ i, i < 12 → 0 ≤ tl w i) ∧ sumN (co w) 8 + sumN (tl w) 12 = (w 8).toInt ∧ (w 8).toInt ≤ 9999 * nn (w 6)
def IS (w : Row) : Prop := sm (w 0) 50 ∧ sm (w 1) 50 ∧ sm (w 2) 50 ∧ sm (w 3) 50
def sumI (f : Nat → Int32) : Nat → Int32
  | 0 => 0
  | n + 1 => sumI f n + f n
theorem sumI_congr {f g : Nat → Int32} : ∀ (n : Nat), (∀ k, k < n → f k = g k) → sumI f n = sumI g n := by
  intro n
  induction n with
  | zero => intro _; rfl
  | succ n ih => intro h; rw [sumI, sumI, ih (fun k hk => h k (by omega)), h n (by omega)]
theorem sumI_one {f g : Nat → Int32} {c : Nat} {d : Int32} (hd : f c = g c + d) : ∀ (n : Nat), c < n → (∀ k, k < n → ¬ k = c → f k = g k) → sumI f n = sumI g n + d := by
  intro n
  induction n with
  | zero => intro h; omega
  | succ n ih =>
    intro hc h
    rw [sumI, sumI]
    by_cases e : c = n
    · subst e
      rw [sumI_congr c (fun k hk => h k (by omega) (by omega)), hd, Int32.add_assoc]
    · rw [ih (by omega) (fun k hk hkc => h k (by omega) hkc), h n (by omega) (fun q => e q.symm), Int32.add_assoc, Int32.add_comm d, ← Int32.add_assoc]
/-- carts came over as often as bridges were come over -/
def IX (w : Row) : Prop := sumI (fun c => w (104 + 8 * c + 5)) 8 = sumI (fun i => w (20 + 7 * i + 5)) 12
theorem IX_congr {w w' : Row} (h1 : ∀ c, c < 8 → w' (104 + 8 * c + 5) = w (104 + 8 * c + 5)) (h2 : ∀ i, i < 12 → w' (20 + 7 * i + 5) = w (20 + 7 * i + 5)) (h : IX w) : IX w' := by
  unfold IX
  rw [sumI_congr 8 h1, sumI_congr 12 h2]; exact h
def IT (w : Row) : Prop := (∀ c, c < 8 → sm (w (104 + 8 * c)) 7) ∧ IX w
def Inv (w : Row) : Prop := Rn w ∧ IQ w ∧ IZ w ∧ IW w ∧ IR w ∧ IG w ∧ IM w ∧ IS w ∧ IT w
/-- a place that nothing of these speaks of -/
def free (w : Row) (j : Nat) : Prop := j = 4 ∨ j = 9 ∨ (20 ≤ j ∧ j < 104 ∧ 6 ≤ (j - 20) % 7 ∧ (j - 20) / 7 < nn (w 5)) ∨ (104 ≤ j ∧ j < 168 ∧ 6 ≤ (j - 104) % 8 ∧ (j - 104) / 8 < nn (w 6))
theorem IQ_upd {w : Row} {j : Nat} {v : Int32} (hcn : Cn w) (h5 : ¬ j = 5) (h6 : ¬ j = 6) (h10 : ¬ j = 10) (hq : ¬ (12 ≤ j ∧ j < 20)) (ha : ∀ c, c < 8 → ¬ j = 104 + 8 * c + 2) (h : IQ w) : IQ (upd w j v) := by
  have h8 := hcn.2.2.le
  unfold IQ
  rw [qs_upd h10 hq hcn, updn (fun q => h5 q.symm), updn (fun q => h6 q.symm)]
  refine ⟨h.1, fun c hc => ?_, fun c hc => ?_⟩
  · have := h.2.1 c hc
    rw [updn (fun q => ha c (by omega) q.symm)]; exact this
  · rw [updn (fun q => ha c (by omega) q.symm)]; exact h.2.2 c hc
theorem IW_upd {w : Row} {j : Nat} {v : Int32} (ha : ∀ c, c < 8 → ¬ j = 104 + 8 * c + 2 ∧ ¬ j = 104 + 8 * c + 4) (h : IW w) : IW (upd w j v) := by
  intro c hc
  rw [updn (fun q => (ha c hc).1 q.symm), updn (fun q => (ha c hc).2 q.symm)]
  exact h c hc
theorem IR_upd {w : Row} {j : Nat} {v : Int32} (h5 : ¬ j = 5) (hr : ¬ (168 ≤ j ∧ j < 360)) (hs : ∀ i, i < 12 → ¬ j = 20 + 7 * i + 2) (h : IR w) : IR (upd w j v) := by
  intro c i hc hi
  rw [updn (fun q => h5 q.symm), updn (by omega), updn (by omega), updn (fun q => hs i hi q.symm)]
  exact h c i hc hi
theorem IG_upd {w : Row} {j : Nat} {v : Int32} (h7 : ¬ j = 7) (hr : ∀ i, i < 12 → ¬ j = 20 + 7 * i + 3) (ha : ∀ c, c < 8 → ¬ j = 104 + 8 * c + 2 ∧ ¬ j = 104 + 8 * c + 3) (h : IG w) : IG (upd w j v) := by
  refine ⟨by rw [updn (fun q => h7 q.symm)]; exact h.1, fun i hi => ?_, fun c hc => ?_⟩
  · rw [updn (fun q => hr i hi q.symm)]; exact h.2.1 i hi
  · rw [updn (fun q => (ha c hc).1 q.symm), updn (fun q => (ha c hc).2 q.symm)]; exact h.2.2 c hc
theorem IM_upd {w : Row} {j : Nat} {v : Int32} (h8 : ¬ j = 8) (h6 : ¬ j = 6) (hr : ∀ i, i < 12 → ¬ j = 20 + 7 * i + 4) (ha : ∀ c, c < 8 → ¬ j = 104 + 8 * c + 1) (h : IM w) : IM (upd w j v) := by
  have e1 : ∀ c, c < 8 → co (upd w j v) c = co w c := fun c hc => congrArg Int32.toInt (updn (fun q => ha c hc q.symm))
  have e2 : ∀ i, i < 12 → tl (upd w j v) i = tl w i := fun i hi => congrArg Int32.toInt (updn (fun q => hr i hi q.symm))
  refine ⟨fun c hc => by rw [e1 c hc]; exact h.1 c hc, fun i hi => by rw [e2 i hi]; exact h.2.1 i hi, ?_, ?_⟩
  · rw [sumN_congr 8 e1, sumN_congr 12 e2, updn (fun q => h8 q.symm)]; exact h.2.2.1
  · rw [updn (fun q => h8 q.symm), updn (fun q => h6 q.symm)]; exact h.2.2.2
theorem IS_upd {w : Row} {j : Nat} {v : Int32} (h0 : 4 ≤ j) (h : IS w) : IS (upd w j v) := by
  unfold IS
  rw [updn (by omega), updn (by omega), updn (by omega), updn (by omega)]; exact h
theorem IT_upd {w : Row} {j : Nat} {v : Int32} (ha : ∀ c, c < 8 → ¬ j = 104 + 8 * c ∧ ¬ j = 104 + 8 * c + 5) (hb : ∀ i, i < 12 → ¬ j = 20 + 7 * i + 5) (h : IT w) : IT (upd w j v) := by
  refine ⟨fun c hc => ?_, IX_congr (fun c hc => updn (fun q => (ha c hc).2 q.symm)) (fun i hi => updn (fun q => hb i hi q.symm)) h.2⟩
  rw [updn (fun q => (ha c hc).1 q.symm)]; exact h.1 c hc
def zp (w : Row) (j : Nat) : Prop := j = 5 ∨ j = 6 ∨ (20 ≤ j ∧ j < 104 ∧ ((j - 20) % 7 = 2 ∨ (4 ≤ (j - 20) % 7 ∧ nn (w 5) ≤ (j - 20) / 7))) ∨ (104 ≤ j ∧ j < 168 ∧ nn (w 6) ≤ (j - 104) / 8) ∨ (168 ≤ j ∧ j < 360)
theorem IZ_upd {w : Row} {j : Nat} {v : Int32} (hz : ¬ zp w j) (h : IZ w) : IZ (upd w j v) := by
  unfold zp at hz
  refine ⟨fun i hi hn => ?_, fun c hc hn => ?_, fun c i hc hi hn hm => ?_, fun c i hc hi hn => ?_⟩
  · rw [updn (by omega)] at hn
    rw [updn (by omega), updn (by omega), updn (by omega)]; exact h.1 i hi hn
  · rw [updn (by omega)] at hn
    rw [updn (by omega), updn (by omega), updn (by omega), updn (by omega), updn (by omega)]; exact h.2.1 c hc hn
  · rw [updn (by omega)] at hn hm
    rw [updn (by omega), updn (by omega), updn (by omega)]; exact h.2.2.1 c i hc hi hn hm
  · rw [updn (by omega)] at hn
    rw [updn (by omega), updn (by omega)]; exact h.2.2.2 c i hc hi hn
theorem Inv_free {w : Row} {j : Nat} {v : Int32} (hf : free w j) (h : Inv w) : Inv (upd w j v) := by
  obtain ⟨hR, hQ, hZ, hW, hI, hG, hM, hS, hT⟩ := h
  unfold free at hf
  exact ⟨Rn_upd (by unfold bad; omega) hR, IQ_upd hR.1 (by omega) (by omega) (by omega) (by omega) (fun c hc => by omega) hQ, IZ_upd (by unfold zp; omega) hZ,
    IW_upd (fun c hc => by omega) hW, IR_upd (by omega) (by omega) (fun i hi => by omega) hI, IG_upd (by omega) (fun i hi => by omega) (fun c hc => by omega) hG,
    IM_upd (by omega) (by omega) (fun i hi => by omega) (fun c hc => by omega) hM, IS_upd (by omega) hS, IT_upd (fun c hc => by omega) (fun i hi => by omega) hT⟩
theorem Inv_town {w : Row} {c : Nat} {v : Int32} (hc : c < nn (w 6)) (hv : sm v 7) (h : Inv w) : Inv (upd w (104 + 8 * c) v) := by
  have h88 := h.1.1.2.2.le
  obtain ⟨hR, hQ, hZ, hW, hI, hG, hM, hS, hT⟩ := h
  refine ⟨Rn_upd (by unfold bad; omega) hR, IQ_upd hR.1 (by omega) (by omega) (by omega) (by omega) (fun c hc => by omega) hQ, IZ_upd (by unfold zp; omega) hZ,
    IW_upd (fun c hc => by omega) hW, IR_upd (by omega) (by omega) (fun i hi => by omega) hI, IG_upd (by omega) (fun i hi => by omega) (fun c hc => by omega) hG,
    IM_upd (by omega) (by omega) (fun i hi => by omega) (fun c hc => by omega) hM, IS_upd (by omega) hS, ⟨fun c' hc' => ?_, IX_congr (fun c hc => updn (by omega)) (fun i hi => updn (by omega)) hT.2⟩⟩
  by_cases e : c' = c
  · subst e; rw [upde]; exact hv
  · rw [updn (by omega)]; exact hT.1 c' hc'
