/-! the queue as a list; sums; small numbers -/
theorem updn {w : Row} {i j : Nat} {v : Int32} (h : ¬ i = j) : upd w j v i = w i := if_neg h
theorem upde {w : Row} {j : Nat} {v : Int32} : upd w j v j = v := if_pos rfl
theorem nn_zero : nn (0 : Int32) = 0 := by decide
theorem pm1 {v : Int32} {n : Nat} (h : sm v n) : (v - 1).toInt = v.toInt - 1 := by
  have := h.1
  have := v.toInt_lt
  rw [Int32.toInt_sub, show (1 : Int32).toInt = 1 from by decide]
  rw [Int.bmod_eq_of_le (by omega) (by omega)]
def enc (o : Option Nat) : Int32 := match o with
  | none => -6
  | some c => nI c
def ql (w : Row) : Nat → Nat → List Nat
  | 0, _ => []
  | m + 1, p => nn (w (12 + p)) :: ql w m (p + 1)
def qs (w : Row) : List Nat := ql w (nn (w 10)) 0
theorem ql_congr {w w' : Row} : ∀ (m p : Nat), (∀ k, p ≤ k → k < p + m → w (12 + k) = w' (12 + k)) → ql w m p = ql w' m p := by
  intro m
  induction m with
  | zero => intro p _; rfl
  | succ m ih =>
    intro p h
    rw [ql, ql, h p (by omega) (by omega), ih (p + 1) (fun k h1 h2 => h k (by omega) (by omega))]
theorem ql_snoc {w : Row} : ∀ (m p : Nat), ql w (m + 1) p = ql w m p ++ [nn (w (12 + (p + m)))] := by
  intro m
  induction m with
  | zero => intro p; rfl
  | succ m ih =>
    intro p
    rw [ql, ih (p + 1)]
    show nn (w (12 + p)) :: (ql w m (p + 1) ++ _) = nn (w (12 + p)) :: ql w m (p + 1) ++ _
    rw [show p + 1 + m = p + (m + 1) by omega]; rfl
theorem ql_len {w : Row} : ∀ (m p : Nat), (ql w m p).length = m := by
  intro m
  induction m with
  | zero => intro p; rfl
  | succ m ih => intro p; rw [ql, List.length_cons, ih]
theorem ql_mem {w : Row} {c : Nat} : ∀ (m p : Nat), c ∈ ql w m p → ∃ k, p ≤ k ∧ k < p + m ∧ c = nn (w (12 + k)) := by
  intro m
  induction m with
  | zero => intro p h; cases h
  | succ m ih =>
    intro p h
    rw [ql] at h
    rcases List.mem_cons.mp h with h | h
    · exact ⟨p, by omega, by omega, h⟩
    · obtain ⟨k, h1, h2, h3⟩ := ih _ h
      exact ⟨k, by omega, by omega, h3⟩
theorem mem_ql {w : Row} : ∀ (m p k : Nat), p ≤ k → k < p + m → nn (w (12 + k)) ∈ ql w m p := by
  intro m
  induction m with
  | zero => intro p k h1 h2; omega
  | succ m ih =>
    intro p k h1 h2
    rw [ql]
    by_cases e : k = p
    · subst e; exact List.mem_cons_self
    · exact List.mem_cons_of_mem _ (ih _ _ (by omega) (by omega))
theorem qs_len {w : Row} : (qs w).length = nn (w 10) := ql_len _ _
theorem qs_upd {w : Row} {j : Nat} {v : Int32} (h10 : ¬ j = 10) (hq : ¬ (12 ≤ j ∧ j < 20)) (hcn : Cn w) : qs (upd w j v) = qs w := by
  unfold qs
  rw [updn (fun q => h10 q.symm)]
  have := hcn.1.le
  exact ql_congr _ _ (fun k h1 h2 => updn (by omega))
theorem en {v : Int32} {c n : Nat} (hv : sm v n) (hn : n < 2 ^ 31) (hc : c < 2 ^ 31) : v = nI c ↔ nn v = c := by
  constructor
  · intro h; rw [h, nn_nI hc]
  · intro h; rw [hv.eq, h]
theorem mem_q {w : Row} {p : Nat} (hp : p < nn (w 10)) : nn (w (12 + p)) ∈ qs w := mem_ql _ _ _ (Nat.zero_le p) (by omega)
def cntL (w : Row) (i : Nat) : List Nat → Nat
  | [] => 0
  | c :: l => if w (104 + 8 * c + 2) = nI i then cntL w i l + 1 else cntL w i l
def nthL (w : Row) (i : Nat) : List Nat → Nat → Option Nat
  | [], _ => none
  | c :: l, r => if w (104 + 8 * c + 2) = nI i then (if r = 0 then some c else nthL w i l (r - 1)) else nthL w i l r
theorem cntL_congr {w w' : Row} {i : Nat} : ∀ (l : List Nat), (∀ c, c ∈ l → w (104 + 8 * c + 2) = w' (104 + 8 * c + 2)) → cntL w i l = cntL w' i l := by
  intro l
  induction l with
  | nil => intro _; rfl
  | cons c l ih => intro h; rw [cntL, cntL, h c List.mem_cons_self, ih (fun x hx => h x (List.mem_cons_of_mem _ hx))]
theorem nthL_congr {w w' : Row} {i : Nat} : ∀ (l : List Nat) (r : Nat), (∀ c, c ∈ l → w (104 + 8 * c + 2) = w' (104 + 8 * c + 2)) → nthL w i l r = nthL w' i l r := by
  intro l
  induction l with
  | nil => intro r _; rfl
  | cons c l ih => intro r h; rw [nthL, nthL, h c List.mem_cons_self, ih _ (fun x hx => h x (List.mem_cons_of_mem _ hx)), ih _ (fun x hx => h x (List.mem_cons_of_mem _ hx))]
theorem cntL_len {w : Row} {i : Nat} : ∀ (l : List Nat), cntL w i l ≤ l.length := by
  intro l
  induction l with
  | nil => exact Nat.le_refl 0
  | cons c l ih => rw [cntL, List.length_cons]; split <;> omega
theorem nthL_none {w : Row} {i : Nat} : ∀ (l : List Nat) (r : Nat), nthL w i l r = none ↔ cntL w i l ≤ r := by
  intro l
  induction l with
  | nil => intro r; exact ⟨fun _ => Nat.zero_le r, fun _ => rfl⟩
  | cons c l ih =>
    intro r
    rw [nthL, cntL]
    by_cases d : w (104 + 8 * c + 2) = nI i
    · rw [if_pos d, if_pos d]
      by_cases e : r = 0
      · rw [if_pos e]; exact ⟨fun h => (by cases h), fun h => (by omega)⟩
      · rw [if_neg e, ih]; omega
    · rw [if_neg d, if_neg d, ih]
theorem nthL_some {w : Row} {i c : Nat} : ∀ (l : List Nat) (r : Nat), nthL w i l r = some c → c ∈ l ∧ w (104 + 8 * c + 2) = nI i := by
  intro l
  induction l with
  | nil => intro r h; cases h
  | cons x l ih =>
    intro r h
    rw [nthL] at h
    by_cases d : w (104 + 8 * x + 2) = nI i
    · rw [if_pos d] at h
      by_cases e : r = 0
      · rw [if_pos e] at h; cases h; exact ⟨List.mem_cons_self, d⟩
      · rw [if_neg e] at h; exact ⟨List.mem_cons_of_mem _ (ih _ h).1, (ih _ h).2⟩
    · rw [if_neg d] at h; exact ⟨List.mem_cons_of_mem _ (ih _ h).1, (ih _ h).2⟩
def sumN (f : Nat → Int) : Nat → Int
  | 0 => 0
  | n + 1 => sumN f n + f n
theorem sumN_congr {f g : Nat → Int} : ∀ (n : Nat), (∀ k, k < n → f k = g k) → sumN f n = sumN g n := by
  intro n
  induction n with
  | zero => intro _; rfl
  | succ n ih => intro h; rw [sumN, sumN, ih (fun k hk => h k (by omega)), h n (by omega)]
theorem sumN_one {f g : Nat → Int} {c : Nat} : ∀ (n : Nat), c < n → (∀ k, k < n → ¬ k = c → f k = g k) → sumN f n = sumN g n + (f c - g c) := by
  intro n
  induction n with
  | zero => intro h; omega
  | succ n ih =>
    intro hc h
    rw [sumN, sumN]
    by_cases e : c = n
    · subst e
      rw [sumN_congr c (fun k hk => h k (by omega) (by omega))]; omega
    · rw [ih (by omega) (fun k hk hkc => h k (by omega) hkc), h n (by omega) (fun q => e q.symm)]; omega
theorem sumN_pos {f : Nat → Int} : ∀ (n : Nat), (∀ k, k < n → 0 ≤ f k) → 0 ≤ sumN f n := by
  intro n
  induction n with
  | zero => intro _; exact Int.le_refl 0
  | succ n ih => intro h; rw [sumN]; have := ih (fun k hk => h k (by omega)); have := h n (by omega); omega
theorem sumN_le {f : Nat → Int} {c : Nat} : ∀ (n : Nat), c < n → (∀ k, k < n → 0 ≤ f k) → f c ≤ sumN f n := by
  intro n
  induction n with
  | zero => intro h; omega
  | succ n ih =>
    intro hc h
    rw [sumN]
    have h1 := sumN_pos n (fun k hk => h k (by omega))
    by_cases e : c = n
    · subst e; omega
    · have := ih (by omega) (fun k hk => h k (by omega)); have := h n (by omega); omega
def co (w : Row) (c : Nat) : Int := (w (104 + 8 * c + 1)).toInt
def tl (w : Row) (i : Nat) : Int := (w (20 + 7 * i + 4)).toInt
def sumI (f : Nat → Int32) : Nat → Int32
  | 0 => 0
  | n + 1 => sumI f n + f n
theorem sumI_congr {f g : Nat → Int32} : ∀ (n : Nat), (∀ k, k < n → f k = g k) → sumI f n = sumI g n := by
  intro n
  induction n with
  | zero => intro _; rfl
  | succ n ih => intro h; rw [sumI, sumI, ih (fun k hk => h k (by omega)), h n (by omega)]
theorem sumI_one {f g : Nat → Int32} {c : Nat} {d : Int32} (hd : f c = g c + d) : ∀ (n : Nat), c < n → (∀ k, k < n → ¬ k = c → f k = g k) → sumI f n = sumI g n + d := by
  intro n
  induction n with
  | zero => intro h; omega
  | succ n ih =>
    intro hc h
    rw [sumI, sumI]
    by_cases e : c = n
    · subst e
      rw [sumI_congr c (fun k hk => h k (by omega) (by omega)), hd, Int32.add_assoc]
    · rw [ih (by omega) (fun k hk hkc => h k (by omega) hkc), h n (by omega) (fun q => e q.symm), Int32.add_assoc, Int32.add_comm d, ← Int32.add_assoc]
theorem ta {a b : Int32} (h : -2147483648 ≤ a.toInt + b.toInt ∧ a.toInt + b.toInt ≤ 2147483647) : (a + b).toInt = a.toInt + b.toInt := by
  rw [Int32.toInt_add, Int.bmod_eq_of_le (by omega) (by omega)]
theorem ts {a b : Int32} (h : -2147483648 ≤ a.toInt - b.toInt ∧ a.toInt - b.toInt ≤ 2147483647) : (a - b).toInt = a.toInt - b.toInt := by
  rw [Int32.toInt_sub, Int.bmod_eq_of_le (by omega) (by omega)]
theorem nn_neg6 {c : Nat} (hc : c < 2 ^ 31) : ¬ nI c = -6 := fun q => by
  have h1 : (nI c).toInt = -6 := by rw [q]; decide
  rw [nI_toInt hc] at h1
  omega
