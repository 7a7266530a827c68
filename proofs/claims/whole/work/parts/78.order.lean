/-! texts: an order, and the fault of a text -/
section ORD
variable {u0 r0 c r : Row} {L : List (Nat × Nat)}
theorem one_ok (h : RK u0 r0 L c r) (hk : kL L) (hf : ∀ q, q ∈ L → ¬ q.1 = 6 ∧ ¬ q.2 = 4) : OK1 u0 r0 ((6, 4) :: L) (sX3_readDigit c) (sX7_readsOne r) := wr_OK (digit_ok h hk) (by omega) (by omega) hf
theorem two_d (h : RK u0 r0 L c r) (hk : kL L) (hf : ∀ q, q ∈ L → ¬ q.1 = 7 ∧ ¬ q.2 = 5) : OK1 u0 r0 ((7, 5) :: L) (wr1 (sX3_nextDigit c) 7) (sX7_readsTwo r 1) := by
  unfold sX7_readsTwo
  rw [if_neg (by decide)]
  exact wr_OK (digit_ok h hk) (by omega) (by omega) hf
theorem two_n (h : RK u0 r0 L c r) (hk : kL L) (hf : ∀ q, q ∈ L → ¬ q.1 = 7 ∧ ¬ q.2 = 5) : OK1 u0 r0 ((7, 5) :: L) (sX3_readSecond c) (sX7_readsTwo r 0) := by
  unfold sX7_readsTwo
  rw [if_pos rfl]
  exact wr_OK (num_ok h hk) (by omega) (by omega) hf
theorem three_8 (h : RK u0 r0 L c r) (hk : kL L) (hf : ∀ q, q ∈ L → ¬ q.1 = 8 ∧ ¬ q.2 = 6) : OK1 u0 r0 ((8, 6) :: L) (sX3_readThird c) (sX7_readsThree r) := wr_OK (num_ok h hk) (by omega) (by omega) hf
theorem three_7 (h : RK u0 r0 L c r) (hk : kL L) (hf : ∀ q, q ∈ L → ¬ q.1 = 7 ∧ ¬ q.2 = 6) : OK1 u0 r0 ((7, 6) :: L) (sX3_readSecond c) (sX7_readsThree r) := wr_OK (num_ok h hk) (by omega) (by omega) hf
theorem three_6 (h : RK u0 r0 L c r) (hk : kL L) (hf : ∀ q, q ∈ L → ¬ q.1 = 6 ∧ ¬ q.2 = 6) : OK1 u0 r0 ((6, 6) :: L) (wr1 (sX3_readNumber c) 6) (sX7_readsThree r) := wr_OK (num_ok h hk) (by omega) (by omega) hf
def KM (c r : Row) : Prop := c 5 = r 3 ∧ (r 3 = 98 → c 6 = r 4 ∧ c 7 = r 5 ∧ c 8 = r 6) ∧ (r 3 = 99 → c 6 = r 4 ∧ c 7 = r 6) ∧ (r 3 = 103 → c 6 = r 4 ∧ c 7 = r 5 ∧ c 8 = r 6) ∧
  (r 3 = 104 → c 6 = r 4 ∧ c 7 = r 5) ∧ (r 3 = 108 → c 6 = r 4) ∧ (¬ r 3 = 98 → ¬ r 3 = 99 → ¬ r 3 = 103 → ¬ r 3 = 104 → ¬ r 3 = 108 → r 3 = 112 ∧ c 6 = r 6)
def OKM (u0 r0 : Row) (f g : Int32 × Row) : Prop := f.1 = g.1 ∧ RK u0 r0 [] f.2 g.2 ∧ (¬ f.1 = 0 → KM f.2 g.2)
theorem OKM_of {f g : Int32 × Row} {k : Int32} (h : OK1 u0 r0 L f g) (h5 : (5, 3) ∈ L) (hk : u0 5 = k)
    (hm : ∀ c r : Row, (∀ q, q ∈ L → c q.1 = r q.2) → c 5 = r 3 → r 3 = k → KM c r) : OKM u0 r0 f g :=
  ⟨h.1, h.2.1, fun q => by
    have t := (h.2.2 q).2.2
    have a := t _ h5
    have b : f.2 5 = u0 5 := a.2 rfl
    have e : f.2 5 = g.2 3 := a.1
    exact hm _ _ (fun q hq => (t q hq).1) e (by rw [← e, b, hk])⟩
def bndf (A : Int32 × Row) (k : Row → Int32 × Row) : Int32 × Row := if A.1 = 0 then (0, A.2) else k A.2
theorem bndK {A A' : Int32 × Row} {k k' : Row → Int32 × Row} {L' : List (Nat × Nat)} (h : OK1 u0 r0 L A A') (hk : ∀ c r, RK u0 r0 L c r → OK1 u0 r0 L' (k c) (k' r)) : OK1 u0 r0 L' (bndf A k) (bndf A' k') := bnd h (hk _ _)
theorem endK {c r : Row} (h : RK u0 r0 L c r) : OK1 u0 r0 L (1, c) (1, r) := ⟨rfl, h.nil, fun _ => h⟩
def cB (w : Row) : Int32 × Row := bndf (sX3_readDigitPair w) (fun c => bndf (sX3_readSign c 42) (fun c => bndf (sX3_readThird c) (fun c => (1, c))))
def rB (r : Row) : Int32 × Row := bndf (sX7_readsOne r) (fun r => bndf (sX7_readsTwo r 1) (fun r => bndf (sX7_takes r 42) (fun r => bndf (sX7_readsThree r) (fun r => (1, r)))))
def cC (w : Row) : Int32 × Row := bndf (sX3_readDigit w) (fun c => bndf (sX3_readSign c 42) (fun c => bndf (sX3_readSecond c) (fun c => (1, c))))
def rC (r : Row) : Int32 × Row := bndf (sX7_readsOne r) (fun r => bndf (sX7_takes r 42) (fun r => bndf (sX7_readsThree r) (fun r => (1, r))))
def cG (w : Row) : Int32 × Row := bndf (sX3_readDigit w) (fun c => bndf (sX3_readSign c 58) (fun c => bndf (sX3_readSecond c) (fun c => bndf (sX3_readSign c 61) (fun c => bndf (sX3_readThird c) (fun c => (1, c))))))
def rG (r : Row) : Int32 × Row := bndf (sX7_readsOne r) (fun r => bndf (sX7_takes r 58) (fun r => bndf (sX7_readsTwo r 0) (fun r => bndf (sX7_takes r 61) (fun r => bndf (sX7_readsThree r) (fun r => (1, r))))))
def cH (w : Row) : Int32 × Row := bndf (sX3_readDigit w) (fun c => bndf (sX3_readSign c 58) (fun c => bndf (sX3_readSecond c) (fun c => (1, c))))
def rH (r : Row) : Int32 × Row := bndf (sX7_readsOne r) (fun r => bndf (sX7_takes r 58) (fun r => bndf (sX7_readsTwo r 0) (fun r => (1, r))))
theorem slR98 {α : Type} {x : Int32} {a b c d e f g : α} (h : x = 98) : (if x = 98 then a else if x = 99 then b else if x = 103 then c else if x = 104 then d else if x = 108 then e else if x = 112 then f else g) = a := by
  subst h
  rw [if_pos rfl]
theorem slC98 {α : Type} {x : Int32} {a b c d e f : α} (h : x = 98) : (if x = 98 then a else if x = 99 then b else if x = 103 then c else if x = 104 then d else if x = 108 then e else f) = a := by
  subst h
  rw [if_pos rfl]
theorem slR99 {α : Type} {x : Int32} {a b c d e f g : α} (h : x = 99) : (if x = 98 then a else if x = 99 then b else if x = 103 then c else if x = 104 then d else if x = 108 then e else if x = 112 then f else g) = b := by
  subst h
  rw [if_neg (by decide), if_pos rfl]
theorem slC99 {α : Type} {x : Int32} {a b c d e f : α} (h : x = 99) : (if x = 98 then a else if x = 99 then b else if x = 103 then c else if x = 104 then d else if x = 108 then e else f) = b := by
  subst h
  rw [if_neg (by decide), if_pos rfl]
theorem slR103 {α : Type} {x : Int32} {a b c d e f g : α} (h : x = 103) : (if x = 98 then a else if x = 99 then b else if x = 103 then c else if x = 104 then d else if x = 108 then e else if x = 112 then f else g) = c := by
  subst h
  rw [if_neg (by decide), if_neg (by decide), if_pos rfl]
theorem slC103 {α : Type} {x : Int32} {a b c d e f : α} (h : x = 103) : (if x = 98 then a else if x = 99 then b else if x = 103 then c else if x = 104 then d else if x = 108 then e else f) = c := by
  subst h
  rw [if_neg (by decide), if_neg (by decide), if_pos rfl]
theorem slR104 {α : Type} {x : Int32} {a b c d e f g : α} (h : x = 104) : (if x = 98 then a else if x = 99 then b else if x = 103 then c else if x = 104 then d else if x = 108 then e else if x = 112 then f else g) = d := by
  subst h
  rw [if_neg (by decide), if_neg (by decide), if_neg (by decide), if_pos rfl]
theorem slC104 {α : Type} {x : Int32} {a b c d e f : α} (h : x = 104) : (if x = 98 then a else if x = 99 then b else if x = 103 then c else if x = 104 then d else if x = 108 then e else f) = d := by
  subst h
  rw [if_neg (by decide), if_neg (by decide), if_neg (by decide), if_pos rfl]
theorem slR108 {α : Type} {x : Int32} {a b c d e f g : α} (h : x = 108) : (if x = 98 then a else if x = 99 then b else if x = 103 then c else if x = 104 then d else if x = 108 then e else if x = 112 then f else g) = e := by
  subst h
  rw [if_neg (by decide), if_neg (by decide), if_neg (by decide), if_neg (by decide), if_pos rfl]
theorem slC108 {α : Type} {x : Int32} {a b c d e f : α} (h : x = 108) : (if x = 98 then a else if x = 99 then b else if x = 103 then c else if x = 104 then d else if x = 108 then e else f) = e := by
  subst h
  rw [if_neg (by decide), if_neg (by decide), if_neg (by decide), if_neg (by decide), if_pos rfl]
theorem slR112 {α : Type} {x : Int32} {a b c d e f g : α} (h : x = 112) : (if x = 98 then a else if x = 99 then b else if x = 103 then c else if x = 104 then d else if x = 108 then e else if x = 112 then f else g) = f := by
  subst h
  rw [if_neg (by decide), if_neg (by decide), if_neg (by decide), if_neg (by decide), if_neg (by decide), if_pos rfl]
theorem slC112 {α : Type} {x : Int32} {a b c d e f : α} (h : x = 112) : (if x = 98 then a else if x = 99 then b else if x = 103 then c else if x = 104 then d else if x = 108 then e else f) = f := by
  subst h
  rw [if_neg (by decide), if_neg (by decide), if_neg (by decide), if_neg (by decide), if_neg (by decide)]
theorem clsB {w : Row} (h : w 5 = 98) : bX3_readOrder_37 w = cB w := slC98 h
theorem clsC {w : Row} (h : w 5 = 99) : bX3_readOrder_37 w = cC w := slC99 h
theorem clsG {w : Row} (h : w 5 = 103) : bX3_readOrder_37 w = cG w := slC103 h
theorem clsH {w : Row} (h : w 5 = 104) : bX3_readOrder_37 w = cH w := slC104 h
theorem clsL {w : Row} (h : w 5 = 108) : bX3_readOrder_37 w = sX3_readDigit w := slC108 h
theorem clsP {w : Row} (h : w 5 = 112) : bX3_readOrder_37 w = wr1 (sX3_readNumber w) 6 := slC112 h
def kn (r : Row) (kd : Int32) : Row := upd (upd r 3 kd) 2 (((upd r 3 kd) 2) + 1)
theorem refB {r : Row} : bX7_readsOrder_27 r 98 = rB (kn r 98) := slR98 rfl
theorem refC {r : Row} : bX7_readsOrder_27 r 99 = rC (kn r 99) := slR99 rfl
theorem refG {r : Row} : bX7_readsOrder_27 r 103 = rG (kn r 103) := slR103 rfl
theorem refH {r : Row} : bX7_readsOrder_27 r 104 = rH (kn r 104) := slR104 rfl
theorem refL {r : Row} : bX7_readsOrder_27 r 108 = sX7_readsOne (kn r 108) := slR108 rfl
theorem eta2 (p : Int32 × Row) : (p.1, p.2) = p := rfl
theorem refP {r : Row} : bX7_readsOrder_27 r 112 = sX7_readsThree (kn r 112) := (slR112 rfl).trans (eta2 (sX7_readsThree (upd (upd r 3 112) 2 (((upd r 3 112) 2) + 1))))
theorem n42 : ¬ (42 : Int32) = -1 := by decide
theorem n58 : ¬ (58 : Int32) = -1 := by decide
theorem n61 : ¬ (61 : Int32) = -1 := by decide
theorem kB (h : RK u0 r0 [(5, 3)] c r) : OK1 u0 r0 [(8, 6), (7, 5), (6, 4), (5, 3)] (cB c) (rB r) := by
  have hp : sX3_readDigitPair c = bndf (sX3_readDigit c) (fun c => wr1 (sX3_nextDigit c) 7) := rfl
  have o1 := one_ok h (by decide) (by decide)
  unfold cB rB
  rw [hp]
  by_cases z : (sX3_readDigit c).1 = 0
  · have e1 : bndf (sX3_readDigit c) (fun c => wr1 (sX3_nextDigit c) 7) = (0, (sX3_readDigit c).2) := if_pos z
    have e2 : ∀ k : Row → Int32 × Row, bndf (sX7_readsOne r) k = (0, (sX7_readsOne r).2) := fun k => if_pos (o1.1.symm.trans z)
    have e3 : ∀ (x : Row) (k : Row → Int32 × Row), bndf (0, x) k = (0, x) := fun x k => if_pos rfl
    rw [e1, e2, e3]
    exact ⟨rfl, o1.2.1, fun q => absurd rfl q⟩
  · have e1 : bndf (sX3_readDigit c) (fun c => wr1 (sX3_nextDigit c) 7) = wr1 (sX3_nextDigit (sX3_readDigit c).2) 7 := if_neg z
    have e2 : ∀ k : Row → Int32 × Row, bndf (sX7_readsOne r) k = k (sX7_readsOne r).2 := fun k => if_neg (fun q => z (o1.1.trans q))
    rw [e1, e2]
    exact bndK (two_d (o1.2.2 z) (by decide) (by decide)) (fun c r h => bndK (sign_OK h (by decide) n42) (fun c r h => bndK (three_8 h (by decide) (by decide)) (fun c r h => endK h)))
theorem kC (h : RK u0 r0 [(5, 3)] c r) : OK1 u0 r0 [(7, 6), (6, 4), (5, 3)] (cC c) (rC r) :=
  bndK (one_ok h (by decide) (by decide)) (fun c r h => bndK (sign_OK h (by decide) n42) (fun c r h => bndK (three_7 h (by decide) (by decide)) (fun c r h => endK h)))
theorem kG (h : RK u0 r0 [(5, 3)] c r) : OK1 u0 r0 [(8, 6), (7, 5), (6, 4), (5, 3)] (cG c) (rG r) :=
  bndK (one_ok h (by decide) (by decide)) (fun c r h => bndK (sign_OK h (by decide) n58) (fun c r h => bndK (two_n h (by decide) (by decide)) (fun c r h => bndK (sign_OK h (by decide) n61) (fun c r h => bndK (three_8 h (by decide) (by decide)) (fun c r h => endK h)))))
theorem kH (h : RK u0 r0 [(5, 3)] c r) : OK1 u0 r0 [(7, 5), (6, 4), (5, 3)] (cH c) (rH r) :=
  bndK (one_ok h (by decide) (by decide)) (fun c r h => bndK (sign_OK h (by decide) n58) (fun c r h => bndK (two_n h (by decide) (by decide)) (fun c r h => endK h)))
theorem kind_ok (kd : Int32) (h : RK u0 r0 [(5, 3)] c (kn r kd)) (hu : u0 5 = kd) (h5 : c 5 = kd) (hK : kd = 98 ∨ kd = 99 ∨ kd = 103 ∨ kd = 104 ∨ kd = 108 ∨ kd = 112) : OKM u0 r0 (bX3_readOrder_37 c) (bX7_readsOrder_27 r kd) := by
  rcases hK with a | a | a | a | a | a <;> subst a
  · rw [clsB h5, refB]
    refine OKM_of (kB h) (by decide) hu (fun c r t e k => ?_)
    unfold KM
    rw [k]
    exact ⟨by rw [e, k], fun _ => ⟨t (6, 4) (by decide), t (7, 5) (by decide), t (8, 6) (by decide)⟩, fun q => absurd q (by decide), fun q => absurd q (by decide), fun q => absurd q (by decide), fun q => absurd q (by decide), fun q => absurd rfl q⟩
  · rw [clsC h5, refC]
    refine OKM_of (kC h) (by decide) hu (fun c r t e k => ?_)
    unfold KM
    rw [k]
    exact ⟨by rw [e, k], fun q => absurd q (by decide), fun _ => ⟨t (6, 4) (by decide), t (7, 6) (by decide)⟩, fun q => absurd q (by decide), fun q => absurd q (by decide), fun q => absurd q (by decide), fun _ q => absurd rfl q⟩
  · rw [clsG h5, refG]
    refine OKM_of (kG h) (by decide) hu (fun c r t e k => ?_)
    unfold KM
    rw [k]
    exact ⟨by rw [e, k], fun q => absurd q (by decide), fun q => absurd q (by decide), fun _ => ⟨t (6, 4) (by decide), t (7, 5) (by decide), t (8, 6) (by decide)⟩, fun q => absurd q (by decide), fun q => absurd q (by decide), fun _ _ q => absurd rfl q⟩
  · rw [clsH h5, refH]
    refine OKM_of (kH h) (by decide) hu (fun c r t e k => ?_)
    unfold KM
    rw [k]
    exact ⟨by rw [e, k], fun q => absurd q (by decide), fun q => absurd q (by decide), fun q => absurd q (by decide), fun _ => ⟨t (6, 4) (by decide), t (7, 5) (by decide)⟩, fun q => absurd q (by decide), fun _ _ _ q => absurd rfl q⟩
  · rw [clsL h5, refL]
    refine OKM_of (one_ok h (by decide) (by decide)) (by decide) hu (fun c r t e k => ?_)
    unfold KM
    rw [k]
    exact ⟨by rw [e, k], fun q => absurd q (by decide), fun q => absurd q (by decide), fun q => absurd q (by decide), fun q => absurd q (by decide), fun _ => t (6, 4) (by decide), fun _ _ _ _ q => absurd rfl q⟩
  · rw [clsP h5, refP]
    refine OKM_of (three_6 h (by decide) (by decide)) (by decide) hu (fun c r t e k => ?_)
    unfold KM
    rw [k]
    exact ⟨by rw [e, k], fun q => absurd q (by decide), fun q => absurd q (by decide), fun q => absurd q (by decide), fun q => absurd q (by decide), fun q => absurd q (by decide), fun _ _ _ _ _ => ⟨rfl, t (6, 6) (by decide)⟩⟩
theorem isKind_iff {x : Int32} : ¬ sX3_isKind x = 0 ↔ (x = 98 ∨ x = 99 ∨ x = 103 ∨ x = 104 ∨ x = 108 ∨ x = 112) := by
  unfold sX3_isKind
  by_cases a : x = 98
  · rw [if_pos a]; exact ⟨fun _ => Or.inl a, fun _ => by decide⟩
  rw [if_neg a]
  by_cases a2 : x = 99
  · rw [if_pos a2]; exact ⟨fun _ => Or.inr (Or.inl a2), fun _ => by decide⟩
  rw [if_neg a2]
  by_cases a3 : x = 103
  · rw [if_pos a3]; exact ⟨fun _ => Or.inr (Or.inr (Or.inl a3)), fun _ => by decide⟩
  rw [if_neg a3]
  by_cases a4 : x = 104
  · rw [if_pos a4]; exact ⟨fun _ => Or.inr (Or.inr (Or.inr (Or.inl a4))), fun _ => by decide⟩
  rw [if_neg a4]
  by_cases a5 : x = 108
  · rw [if_pos a5]; exact ⟨fun _ => Or.inr (Or.inr (Or.inr (Or.inr (Or.inl a5)))), fun _ => by decide⟩
  rw [if_neg a5]
  by_cases a6 : x = 112
  · rw [if_pos a6]; exact ⟨fun _ => Or.inr (Or.inr (Or.inr (Or.inr (Or.inr a6)))), fun _ => by decide⟩
  rw [if_neg a6]
  exact ⟨fun q => absurd rfl q, fun q => by
    rcases q with q | q | q | q | q | q
    · exact absurd q a
    · exact absurd q a2
    · exact absurd q a3
    · exact absurd q a4
    · exact absurd q a5
    · exact absurd q a6⟩
theorem ch16 {v : Int32} (h1 : 33 ≤ v.toInt) (h2 : v.toInt ≤ 126) : (v.toUInt32 % 65536).toInt32 = v := by
  have e : v = nI (nn v) := nI_nn (by omega)
  have b := nn_toInt (v := v) (by omega)
  have key : ∀ n, n < 127 → ((nI n).toUInt32 % 65536).toInt32 = nI n := by decide +kernel
  rw [e]; exact key _ (by omega)
theorem back1 {v : Int32} (h : sm v 80) : v + 1 - 1 = v := Int32.toInt_inj.mp (by
  have := h.1
  have := h.2
  have a : (v + 1).toInt = v.toInt + 1 := by rw [Int32.toInt_add, show (1 : Int32).toInt = 1 from by decide, Int.bmod_eq_of_le (by omega) (by omega)]
  rw [Int32.toInt_sub, a, show (1 : Int32).toInt = 1 from by decide, Int.bmod_eq_of_le (by omega) (by omega)]
  omega)
theorem RK.u5 (h : RK u0 r0 [] c r) (k : Int32) : RK (upd u0 5 k) r0 [] c r := by
  obtain ⟨⟨g, p, a, b⟩, e, l⟩ := h
  refine ⟨⟨g, p, ?_, b⟩, e, fun q hq => absurd hq (List.not_mem_nil)⟩
  rw [updn (by omega), updn (by omega), updn (by omega), updn (by omega)]; exact a
theorem RK.u5' {k : Int32} (h : RK (upd u0 5 k) r0 [] c r) : RK u0 r0 [] c r := by
  obtain ⟨⟨g, p, a, b⟩, e, l⟩ := h
  rw [updn (by omega), updn (by omega), updn (by omega), updn (by omega)] at a
  exact ⟨⟨g, p, a, b⟩, e, fun q hq => absurd hq (List.not_mem_nil)⟩
theorem no_kind (h : RK u0 r0 [] c r) {k kd : Int32} (hc : c 4 = r 2) (hn : ¬ (kd = 98 ∨ kd = 99 ∨ kd = 103 ∨ kd = 104 ∨ kd = 108 ∨ kd = 112)) : OKM u0 r0 (0, upd c 5 k) (bX7_readsOrder_27 r kd) := by
  have e : bX7_readsOrder_27 r kd = (0, upd (upd (upd r 3 kd) 2 ((upd r 3 kd) 2 + 1)) 2 ((upd (upd r 3 kd) 2 ((upd r 3 kd) 2 + 1)) 2 - 1)) := by
    unfold bX7_readsOrder_27
    rw [if_neg (fun q => hn (Or.inl q)), if_neg (fun q => hn (Or.inr (Or.inl q))), if_neg (fun q => hn (Or.inr (Or.inr (Or.inl q)))), if_neg (fun q => hn (Or.inr (Or.inr (Or.inr (Or.inl q))))), if_neg (fun q => hn (Or.inr (Or.inr (Or.inr (Or.inr (Or.inl q)))))), if_neg (fun q => hn (Or.inr (Or.inr (Or.inr (Or.inr (Or.inr q)))))) ]
  have e2 : (upd r 3 kd) 2 = r 2 := updn (by omega)
  rw [e, upde, e2, back1 h.1.2.1.2, upd_upd]
  refine ⟨rfl, ?_, fun q => absurd rfl q⟩
  obtain ⟨⟨g, p, a, b⟩, e, l⟩ := h
  have x1 : ∀ j, ¬ j = 5 → (upd c 5 k) j = c j := fun j hj => updn hj
  have x2 : ∀ j, ¬ j = 2 → ¬ j = 3 → (upd (upd r 3 kd) 2 (r 2)) j = r j := fun j h1 h2 => (updn h1).trans (updn h2)
  have x3 : (upd (upd r 3 kd) 2 (r 2)) 2 = r 2 := upde
  show RK u0 r0 [] (upd c 5 k) (upd (upd r 3 kd) 2 (r 2))
  revert x1 x2 x3
  generalize upd c 5 k = c'
  generalize upd (upd r 3 kd) 2 (r 2) = r'
  intro x1 x2 x3
  refine ⟨⟨⟨?_, fun j hj => ?_⟩, ⟨?_, ?_⟩, ?_, ?_⟩, ?_, fun q hq => absurd hq (List.not_mem_nil)⟩
  · rw [x1 3 (by omega), x2 1 (by omega) (by omega)]; exact g.1
  · rw [x2 1 (by omega) (by omega)] at hj
    rw [x1 (100 + j) (by omega), x2 (100 + j) (by omega) (by omega)]; exact g.2 j hj
  · rw [x2 1 (by omega) (by omega)]; exact p.1
  · rw [x3]; exact p.2
  · rw [x1 0 (by omega), x1 1 (by omega), x1 10 (by omega), x1 11 (by omega)]; exact a
  · rw [x2 0 (by omega) (by omega), x2 10 (by omega) (by omega), x2 11 (by omega) (by omega)]; exact b
  · rw [x1 4 (by omega), x3]; exact hc
theorem order_ok (h : RK u0 r0 [] c r) : OKM u0 r0 (sX3_readOrder c) (sX7_readsOrder r) := by
  unfold sX3_readOrder sX7_readsOrder
  rw [upde]
  rcases Nat.lt_or_ge (nn (r 2)) (nn (r 1)) with q | q
  · have k := codeAt_in h q
    rw [k.1, if_neg (show ¬ r 1 ≤ r 2 from fun z => by have := (z_le h).mp z; omega), ch16 k.2.1 k.2.2]
    generalize r (100 + nn (r 2)) = kd
    by_cases a : sX3_isKind kd = 0
    · rw [if_pos a]
      exact no_kind h h.2.1 (fun z => isKind_iff.mpr z a)
    · rw [if_neg a]
      have hw := (h.u5 kd).wr (i := 5) (j := 3) (v := kd) (fun _ => (upde (w := u0)).symm) (by omega) (by omega) (fun q hq => absurd hq (List.not_mem_nil))
      have h2 := hw.pos (by decide) (by rw [updn (by omega), updn (by omega)]; exact q)
      have o := kind_ok kd h2 upde (by rw [updn (by omega), upde]) (isKind_iff.mp a)
      exact ⟨o.1, o.2.1.u5', o.2.2⟩
  · rw [codeAt_end h q, if_pos (show sX3_isKind (-1) = 0 by decide), if_pos ((z_le h).mpr q)]
    exact no_kind h h.2.1 (by decide)
end ORD
