/-! the queue, in numbers: how many of those from p on wait at a bridge, and which is the r-th of them -/
def nth (w : Row) (i : Nat) : Nat → Nat → Nat → Option Nat
  | 0, _, _ => none
  | m + 1, p, r => if w (104 + 8 * nn (w (12 + p)) + 2) = nI i then (if r = 0 then some (nn (w (12 + p))) else nth w i m (p + 1) (r - 1)) else nth w i m (p + 1) r
def cnt (w : Row) (i : Nat) : Nat → Nat → Nat
  | 0, _ => 0
  | m + 1, p => if w (104 + 8 * nn (w (12 + p)) + 2) = nI i then cnt w i m (p + 1) + 1 else cnt w i m (p + 1)
def enc (o : Option Nat) : Int32 := match o with
  | none => -6
  | some c => nI c
theorem cnt_le_m {w : Row} {i : Nat} : ∀ (m p : Nat), cnt w i m p ≤ m := by
  intro m
  induction m with
  | zero => intro p; exact Nat.le_refl 0
  | succ m ih =>
    intro p
    rw [cnt]
    have := ih (p + 1)
    split <;> omega
theorem many_eq {w : Row} {i : Nat} (hcn : Cn w) : sX7_many w i = nI (cnt w i (nn (w 10)) 0) := by
  have h8 := hcn.1.le
  have key : ∀ (n m a p : Nat), nn (w 10) = p + m → m < n → bX7_many_5 w i n (nI a) p = nI (a + cnt w i m p) := by
    intro n
    induction n with
    | zero => intro m a p _ h; omega
    | succ n ih =>
      intro m a p h1 h2
      rw [bX7_many_5]
      have hc := cnt_le (c := w 10) (p := p) hcn.1 (by omega)
      cases m with
      | zero => rw [if_pos (hc.mpr (by omega))]; rfl
      | succ m =>
        rw [if_neg (fun q => by have := hc.mp q; omega), cnt]
        by_cases c : w (104 + 8 * nn (w (12 + p)) + 2) = nI i
        · rw [if_pos c, if_pos c, nI_1, ih m (a + 1) (p + 1) (by omega) (by omega)]
          congr 1; omega
        · rw [if_neg c, if_neg c, show nI a + 0 = nI a from nI_add a 0, ih m a (p + 1) (by omega) (by omega)]
  have := key 9 (nn (w 10)) 0 0 (by omega) (by omega)
  rw [Nat.zero_add] at this
  exact this
theorem waiter_eq {w : Row} {i r : Nat} (hcn : Cn w) (hr : r < 2 ^ 31) : sX7_waiter w i (nI r) = enc (nth w i (nn (w 10)) 0 r) := by
  have h8 := hcn.1.le
  have key : ∀ (n m r p : Nat), r < 2 ^ 31 → nn (w 10) = p + m → m < n → ∀ r0, bX7_waiter_6 w i r0 n (nI r) p = enc (nth w i m p r) := by
    intro n
    induction n with
    | zero => intro m r p _ _ h; omega
    | succ n ih =>
      intro m r p hr h1 h2 r0
      rw [bX7_waiter_6]
      have hc := cnt_le (c := w 10) (p := p) hcn.1 (by omega)
      cases m with
      | zero => rw [if_pos (hc.mpr (by omega))]; rfl
      | succ m =>
        rw [if_neg (fun q => by have := hc.mp q; omega), nth]
        by_cases c : w (104 + 8 * nn (w (12 + p)) + 2) = nI i
        · rw [if_pos c, if_pos c]
          by_cases d : r = 0
          · subst d; rw [if_pos nI_0, if_pos rfl]; rfl
          · rw [if_neg d, if_neg (nI_ne0 (by omega) hr)]
            obtain ⟨r', rfl⟩ : ∃ r', r = r' + 1 := ⟨r - 1, by omega⟩
            rw [show nI (r' + 1) + (-1) = nI r' from (Int32.sub_eq_add_neg _ _).symm.trans (nI_pred r'), Nat.add_sub_cancel]
            exact ih m r' (p + 1) (by omega) (by omega) (by omega) r0
        · rw [if_neg c, if_neg c]
          exact ih m r (p + 1) hr (by omega) (by omega) r0
  exact key 9 (nn (w 10)) r 0 hr (by omega) (by omega) _
theorem nth_none {w : Row} {i : Nat} : ∀ (m p r : Nat), nth w i m p r = none ↔ cnt w i m p ≤ r := by
  intro m
  induction m with
  | zero => intro p r; exact ⟨fun _ => Nat.zero_le r, fun _ => rfl⟩
  | succ m ih =>
    intro p r
    rw [nth, cnt]
    by_cases c : w (104 + 8 * nn (w (12 + p)) + 2) = nI i
    · rw [if_pos c, if_pos c]
      by_cases d : r = 0
      · rw [if_pos d]; exact ⟨fun h => (by cases h), fun h => (by omega)⟩
      · rw [if_neg d, ih]; omega
    · rw [if_neg c, if_neg c, ih]
theorem nth_some {w : Row} {i c : Nat} : ∀ (m p r : Nat), nth w i m p r = some c → ∃ k, p ≤ k ∧ k < p + m ∧ c = nn (w (12 + k)) ∧ w (104 + 8 * c + 2) = nI i := by
  intro m
  induction m with
  | zero => intro p r h; cases h
  | succ m ih =>
    intro p r h
    rw [nth] at h
    by_cases d : w (104 + 8 * nn (w (12 + p)) + 2) = nI i
    · rw [if_pos d] at h
      by_cases e : r = 0
      · rw [if_pos e] at h; cases h; exact ⟨p, by omega, by omega, rfl, d⟩
      · rw [if_neg e] at h
        obtain ⟨k, h1, h2, h3⟩ := ih _ _ h
        exact ⟨k, by omega, by omega, h3⟩
    · rw [if_neg d] at h
      obtain ⟨k, h1, h2, h3⟩ := ih _ _ h
      exact ⟨k, by omega, by omega, h3⟩
theorem enc_some {o : Option Nat} (h : ¬ enc o = -6) : ∃ c, o = some c ∧ enc o = nI c := by
  cases o with
  | none => exact absurd rfl h
  | some c => exact ⟨c, rfl, rfl⟩
theorem wt_of {w : Row} {i r : Nat} (hrn : Rn w) (hr : r < 2 ^ 31) (h : ¬ sX7_waiter w i (nI r) = -6) : ∃ c, nth w i (nn (w 10)) 0 r = some c ∧ sX7_waiter w i (nI r) = nI c ∧ c < 8 ∧ w (104 + 8 * c + 2) = nI i := by
  rw [waiter_eq hrn.1 hr] at h ⊢
  obtain ⟨c, h1, h2⟩ := enc_some h
  obtain ⟨k, -, h3, h4, h5⟩ := nth_some _ _ _ h1
  have := hrn.1.1.le
  have := (hrn.2.1 k (by omega)).le
  exact ⟨c, h1, h2, by omega, h5⟩
theorem wt_nn {w : Row} {i r : Nat} (hrn : Rn w) (hr : r < 2 ^ 31) (h : ¬ sX7_waiter w i (nI r) = -6) : sX7_waiter w i (nI r) = nI (nn (sX7_waiter w i (nI r))) ∧ nn (sX7_waiter w i (nI r)) < 8 ∧ w (104 + 8 * (nn (sX7_waiter w i (nI r))) + 2) = nI i := by
  obtain ⟨c, -, h1, h2, h3⟩ := wt_of hrn hr h
  rw [h1, nn_nI (by omega)]
  exact ⟨rfl, h2, h3⟩
theorem wt0 {w : Row} {i : Nat} (hrn : Rn w) (h : ¬ sX7_waiter w i 0 = -6) : sX7_waiter w i 0 = nI (nn (sX7_waiter w i 0)) ∧ nn (sX7_waiter w i 0) < 8 ∧ w (104 + 8 * (nn (sX7_waiter w i 0)) + 2) = nI i := wt_nn (r := 0) hrn (by omega) h
theorem wt1 {w : Row} {i : Nat} (hrn : Rn w) (h : ¬ sX7_waiter w i 1 = -6) : sX7_waiter w i 1 = nI (nn (sX7_waiter w i 1)) ∧ nn (sX7_waiter w i 1) < 8 ∧ w (104 + 8 * (nn (sX7_waiter w i 1)) + 2) = nI i := wt_nn (r := 1) hrn (by omega) h
theorem enc_ne {o : Option Nat} (h : ¬ o = none) (hs : ∀ c, o = some c → c < 8) : ¬ enc o = -6 := by
  cases o with
  | none => exact absurd rfl h
  | some c =>
    have := hs c rfl
    intro q
    have h1 : (nI c).toInt = -6 := by rw [show nI c = -6 from q]; decide
    rw [nI_toInt (by omega)] at h1
    omega
theorem wt_ne {w : Row} {i r : Nat} (hrn : Rn w) (hr : r < 8) (h : r < cnt w i (nn (w 10)) 0) : ¬ sX7_waiter w i (nI r) = -6 := by
  rw [waiter_eq hrn.1 (by omega)]
  refine enc_ne (fun q => by have := (nth_none _ _ _).mp q; omega) (fun c hc => ?_)
  obtain ⟨k, -, h3, h4, h5⟩ := nth_some _ _ _ hc
  have := hrn.1.1.le
  have := (hrn.2.1 k (by omega)).le
  omega
theorem many2 {w : Row} {i : Nat} (hrn : Rn w) (h : ¬ sX7_many w i ≤ 1) : ¬ sX7_waiter w i 0 = -6 ∧ ¬ sX7_waiter w i 1 = -6 := by
  have h8 := hrn.1.1.le
  have hc := cnt_le_m (w := w) (i := i) (nn (w 10)) 0
  rw [many_eq hrn.1] at h
  have h1 : 1 < cnt w i (nn (w 10)) 0 := by
    rcases Nat.lt_or_ge 1 (cnt w i (nn (w 10)) 0) with q | q
    · exact q
    · exact absurd (nI_le q (by omega)) h
  exact ⟨wt_ne (r := 0) hrn (by omega) (by omega), wt_ne (r := 1) hrn (by omega) h1⟩

def sX7_far (w : Row) (c i : Nat) : Int32 := sX7_size ((w (104 + 8 * c + 3)) - (w (20 + 7 * i + 3)))
set_option maxHeartbeats 4000000 in
set_option maxRecDepth 100000 in
theorem mX7_far (l : Launch) (E : EE) (B : Nat) (g : GS) (t c i : Nat) (w : Row) (ht : t < 10) (hc : c < 8) (hi : i < 12) (hw : g.2.2.1 t = w) (hat : w (104 + 8 * c + 2) = nI i) : CG l yX7_far cX7_far 4 (some .int) 1 21 E B [.ref (B + 459), .int (nI (360 * t)), .int (nI c)] g (some (.int (sX7_far w c i))) g := by
  refine mkI (own := RX7) (ty := .int) rfl (by decide) rfl (rfl) (Nat.le_of_ble_eq_true rfl) (fun P_ e_ s_ m_ a_ below meth cd Q X fin ls hl hJ => ?_)
  have hx := X.1
  have hb := X.2.1
  have hl : lv_has ls 4 [(0, .ref (B + 459)), (1, .int (nI (360 * t))), (2, .int (nI c))] := hl
  refine lv_iload_n hx hb dX7_far_0 rfl (lv_at hl 1 rfl) ?_
  refine lv_iload_n hx hb dX7_far_1 rfl (lv_at hl 2 rfl) ?_
  refine kX7_40 X hJ (qX7_cartAt l E B _ t c) rfl hl.1 ⟨Nat.le_of_ble_eq_true rfl, Nat.le_of_ble_eq_true rfl⟩ ⟨Nat.le_refl _, Nat.le_refl _⟩ (rest := []) rfl (Nat.le_of_ble_eq_true rfl) dX7_far_2 (fun H locs hJ => ?_)
  refine lv_istore_n (lv' := [(3, .int (nI (360 * t + (104 + 8 * c)))), (0, .ref (B + 459)), (1, .int (nI (360 * t))), (2, .int (nI c))]) hx hb dX7_far_5 rfl hl (by decide) rfl (fun ls hl => ?_)
  refine lv_aload_n hx hb dX7_far_6 rfl (lv_at hl 1 rfl) ?_
  refine gX7_7 X hJ (w := g.2.2.2) rfl dX7_far_7 ?_
  refine lv_iload_n hx hb dX7_far_10 rfl (lv_at hl 0 rfl) ?_
  refine lv_iconst (v := 3) hx hb dX7_far_11 (by decide) ?_
  refine xiadd (z := nI (360 * t + (104 + 8 * c + 3))) hx hb dX7_far_12 (nI_a3 t (104 + 8 * c) 3) ?_
  refine ld_s X hJ (t := t) (w := w) (by omega) hw (j := 104 + 8 * c + 3) (rfl) (by omega) dX7_far_13 ?_
  refine lv_aload_n hx hb dX7_far_14 rfl (lv_at hl 1 rfl) ?_
  refine gX7_7 X hJ (w := g.2.2.2) rfl dX7_far_15 ?_
  refine lv_iload_n hx hb dX7_far_18 rfl (lv_at hl 2 rfl) ?_
  refine lv_aload_n hx hb dX7_far_19 rfl (lv_at hl 1 rfl) ?_
  refine gX7_7 X hJ (w := g.2.2.2) rfl dX7_far_20 ?_
  refine lv_iload_n hx hb dX7_far_23 rfl (lv_at hl 0 rfl) ?_
  refine lv_iconst (v := 2) hx hb dX7_far_24 (by decide) ?_
  refine xiadd (z := nI (360 * t + (104 + 8 * c + 2))) hx hb dX7_far_25 (nI_a3 t (104 + 8 * c) 2) ?_
  refine ld_s X hJ (t := t) (w := w) (by omega) hw (j := 104 + 8 * c + 2) (rfl) (by omega) dX7_far_26 ?_
  refine cvt (y := nI i) (hat) ?_
  refine kX7_31 X hJ (qX7_bridgeAt l E B _ t i) rfl hl.1 ⟨Nat.le_of_ble_eq_true rfl, Nat.le_of_ble_eq_true rfl⟩ ⟨Nat.le_refl _, Nat.le_refl _⟩ (rest := [.ref (B + 460), .int (w (104 + 8 * c + 3))]) rfl (Nat.le_of_ble_eq_true rfl) dX7_far_27 (fun H locs hJ => ?_)
  refine lv_iconst (v := 3) hx hb dX7_far_30 (by decide) ?_
  refine xiadd (z := nI (360 * t + (20 + 7 * i + 3))) hx hb dX7_far_31 (nI_a3 t (20 + 7 * i) 3) ?_
  refine ld_s X hJ (t := t) (w := w) (by omega) hw (j := 20 + 7 * i + 3) (rfl) (by omega) dX7_far_32 ?_
  refine lv_isub hx hb dX7_far_33 ?_
  refine kX7_43 X hJ (mX7_size l E B _ ((w (104 + 8 * c + 3)) - (w (20 + 7 * i + 3)))) rfl hl.1 ⟨Nat.le_of_ble_eq_true rfl, Nat.le_of_ble_eq_true rfl⟩ ⟨Nat.le_refl _, Nat.le_refl _⟩ (rest := []) rfl (Nat.le_of_ble_eq_true rfl) dX7_far_34 (fun H locs hJ => ?_)
  have hs : sX7_far w c i = sX7_size ((w (104 + 8 * c + 3)) - (w (20 + 7 * i + 3))) := by unfold sX7_far; rfl
  exact fin hJ (by rw [hs]) dX7_far_37

def sX7_areAsNear (w : Row) (i : Nat) : Int32 := if sX7_many w i ≤ 1 then (0) else (if sX7_far w (nn (sX7_waiter w i 0)) i = sX7_far w (nn (sX7_waiter w i 1)) i then (1) else (0))
set_option maxHeartbeats 4000000 in
set_option maxRecDepth 100000 in
theorem mX7_areAsNear (l : Launch) (E : EE) (B : Nat) (g : GS) (t : Nat) (i : Nat) (w : Row) (ht : t < 10) (hi : i < 12) (hw : g.2.2.1 t = w) (hrn : Rn w) : CG l yX7_areAsNear cX7_areAsNear 3 (some .boolean) 2 47 E B [.ref (B + 459), .int (nI (360 * t)), .int (nI i)] g (some (.int (sX7_areAsNear w i))) g := by
  refine mkI (own := RX7) (ty := .boolean) rfl (by decide) rfl (by unfold sX7_areAsNear; (repeat' split) <;> rfl) (Nat.le_of_ble_eq_true rfl) (fun P_ e_ s_ m_ a_ below meth cd Q X fin ls hl hJ => ?_)
  have hx := X.1
  have hb := X.2.1
  have hl : lv_has ls 3 [(0, .ref (B + 459)), (1, .int (nI (360 * t))), (2, .int (nI i))] := hl
  refine lv_aload_n hx hb dX7_areAsNear_0 rfl (lv_at hl 0 rfl) ?_
  refine lv_iload_n hx hb dX7_areAsNear_1 rfl (lv_at hl 1 rfl) ?_
  refine lv_iload_n hx hb dX7_areAsNear_2 rfl (lv_at hl 2 rfl) ?_
  refine kX7_47 X hJ (mX7_many l E B _ t i w (by omega) (by omega) hw (hrn)) rfl (by omega) (at_M rfl) hl.1 ⟨Nat.le_of_ble_eq_true rfl, Nat.le_of_ble_eq_true rfl⟩ ⟨Nat.le_refl _, Nat.le_refl _⟩ (rest := []) rfl (Nat.le_of_ble_eq_true rfl) dX7_areAsNear_3 (fun H locs hJ => ?_)
  refine lv_iconst (v := 1) hx hb dX7_areAsNear_6 (by decide) ?_
  refine lv_icmp_le (tgt := 41) hx hb dX7_areAsNear_7 (by decide) (fun c_7 => ?_) (fun c_7 => ?_)
  · skip
    refine lv_iconst (v := 0) hx hb dX7_areAsNear_41 (by decide) ?_
    have hs : sX7_areAsNear w i = 0 := by unfold sX7_areAsNear; rw [if_pos c_7]
    exact fin hJ (by rw [hs]) dX7_areAsNear_42
  · skip
    have hw0 := wt0 hrn (many2 hrn c_7).1
    have hw1 := wt1 hrn (many2 hrn c_7).2
    refine lv_aload_n hx hb dX7_areAsNear_10 rfl (lv_at hl 0 rfl) ?_
    refine lv_iload_n hx hb dX7_areAsNear_11 rfl (lv_at hl 1 rfl) ?_
    refine lv_aload_n hx hb dX7_areAsNear_12 rfl (lv_at hl 0 rfl) ?_
    refine lv_iload_n hx hb dX7_areAsNear_13 rfl (lv_at hl 1 rfl) ?_
    refine lv_iload_n hx hb dX7_areAsNear_14 rfl (lv_at hl 2 rfl) ?_
    refine lv_iconst (v := 0) hx hb dX7_areAsNear_15 (by decide) ?_
    refine kX7_50 X hJ (mX7_waiter l E B _ t i 0 w (by omega) (by omega) hw (hrn)) rfl (by omega) (at_M rfl) hl.1 ⟨Nat.le_of_ble_eq_true rfl, Nat.le_of_ble_eq_true rfl⟩ ⟨Nat.le_refl _, Nat.le_refl _⟩ (rest := [.int (nI (360 * t)), .ref (B + 459)]) rfl (Nat.le_of_ble_eq_true rfl) dX7_areAsNear_16 (fun H locs hJ => ?_)
    refine cvt (y := nI (nn (sX7_waiter w i 0))) (hw0.1) ?_
    refine kX7_53 X hJ (mX7_far l E B _ t (nn (sX7_waiter w i 0)) i w (by omega) (by omega) (by omega) hw (hw0.2.2)) rfl (by omega) (at_M rfl) hl.1 ⟨Nat.le_of_ble_eq_true rfl, Nat.le_of_ble_eq_true rfl⟩ ⟨Nat.le_refl _, Nat.le_refl _⟩ (rest := []) rfl (Nat.le_of_ble_eq_true rfl) dX7_areAsNear_19 (fun H locs hJ => ?_)
    refine lv_aload_n hx hb dX7_areAsNear_22 rfl (lv_at hl 0 rfl) ?_
    refine lv_iload_n hx hb dX7_areAsNear_23 rfl (lv_at hl 1 rfl) ?_
    refine lv_aload_n hx hb dX7_areAsNear_24 rfl (lv_at hl 0 rfl) ?_
    refine lv_iload_n hx hb dX7_areAsNear_25 rfl (lv_at hl 1 rfl) ?_
    refine lv_iload_n hx hb dX7_areAsNear_26 rfl (lv_at hl 2 rfl) ?_
    refine lv_iconst (v := 1) hx hb dX7_areAsNear_27 (by decide) ?_
    refine kX7_50 X hJ (mX7_waiter l E B _ t i 1 w (by omega) (by omega) hw (hrn)) rfl (by omega) (at_M rfl) hl.1 ⟨Nat.le_of_ble_eq_true rfl, Nat.le_of_ble_eq_true rfl⟩ ⟨Nat.le_refl _, Nat.le_refl _⟩ (rest := [.int (nI (360 * t)), .ref (B + 459), .int (sX7_far w (nn (sX7_waiter w i 0)) i)]) rfl (Nat.le_of_ble_eq_true rfl) dX7_areAsNear_28 (fun H locs hJ => ?_)
    refine cvt (y := nI (nn (sX7_waiter w i 1))) (hw1.1) ?_
    refine kX7_53 X hJ (mX7_far l E B _ t (nn (sX7_waiter w i 1)) i w (by omega) (by omega) (by omega) hw (hw1.2.2)) rfl (by omega) (at_M rfl) hl.1 ⟨Nat.le_of_ble_eq_true rfl, Nat.le_of_ble_eq_true rfl⟩ ⟨Nat.le_refl _, Nat.le_refl _⟩ (rest := [.int (sX7_far w (nn (sX7_waiter w i 0)) i)]) rfl (Nat.le_of_ble_eq_true rfl) dX7_areAsNear_31 (fun H locs hJ => ?_)
    refine lv_icmp_ne (tgt := 41) hx hb dX7_areAsNear_34 (by decide) (fun c_34 => ?_) (fun c_34 => ?_)
    · skip
      refine lv_iconst (v := 0) hx hb dX7_areAsNear_41 (by decide) ?_
      have hs : sX7_areAsNear w i = 0 := by unfold sX7_areAsNear; rw [if_neg c_7, if_neg c_34]
      exact fin hJ (by rw [hs]) dX7_areAsNear_42
    · skip
      refine lv_iconst (v := 1) hx hb dX7_areAsNear_37 (by decide) ?_
      refine lv_goto (tgt := 42) hx hb dX7_areAsNear_38 (by decide) ?_
      have hs : sX7_areAsNear w i = 1 := by unfold sX7_areAsNear; rw [if_neg c_7, if_pos c_34]
      exact fin hJ (by rw [hs]) dX7_areAsNear_42

def bX7_comer_123 (w : Row) (i : Nat) (lo : Nat) (hi_ : Nat) : Int32 := if w (104 + 8 * lo + 1) < w (0) then (if w (104 + 8 * hi_ + 1) < w (0) then ((-6)) else (nI hi_)) else (nI lo)
def sX7_comer (w : Row) (i : Nat) : Int32 := if sX7_waiter w i 0 = (-6) then ((-6)) else (if sX7_waiter w i 1 = (-6) then (if w (104 + 8 * (nn (sX7_waiter w i 0)) + 4) < w (3) then ((-6)) else (nI (nn (sX7_waiter w i 0)))) else (if sX7_areAsNear w i = 0 then (if sX7_far w (nn (sX7_waiter w i 1)) i ≤ sX7_far w (nn (sX7_waiter w i 0)) i then (nI (nn (sX7_waiter w i 1))) else (nI (nn (sX7_waiter w i 0)))) else (if nI (nn (sX7_waiter w i 1)) ≤ nI (nn (sX7_waiter w i 0)) then (if nI (nn (sX7_waiter w i 1)) ≤ nI (nn (sX7_waiter w i 0)) then (bX7_comer_123 w i (nn (sX7_waiter w i 1)) (nn (sX7_waiter w i 0))) else (bX7_comer_123 w i (nn (sX7_waiter w i 1)) (nn (sX7_waiter w i 1)))) else (if nI (nn (sX7_waiter w i 1)) ≤ nI (nn (sX7_waiter w i 0)) then (bX7_comer_123 w i (nn (sX7_waiter w i 0)) (nn (sX7_waiter w i 0))) else (bX7_comer_123 w i (nn (sX7_waiter w i 0)) (nn (sX7_waiter w i 1)))))))
set_option maxHeartbeats 4000000 in
set_option maxRecDepth 100000 in
theorem mX7_comer (l : Launch) (E : EE) (B : Nat) (g : GS) (t : Nat) (i : Nat) (w : Row) (ht : t < 10) (hi : i < 12) (hw : g.2.2.1 t = w) (hrn : Rn w) : CG l yX7_comer cX7_comer 8 (some .int) 3 69 E B [.ref (B + 459), .int (nI (360 * t)), .int (nI i)] g (some (.int (sX7_comer w i))) g := by
  refine mkI (own := RX7) (ty := .int) rfl (by decide) rfl (rfl) (Nat.le_of_ble_eq_true rfl) (fun P_ e_ s_ m_ a_ below meth cd Q X fin ls hl hJ => ?_)
  have hx := X.1
  have hb := X.2.1
  have hl : lv_has ls 8 [(0, .ref (B + 459)), (1, .int (nI (360 * t))), (2, .int (nI i))] := hl
  have bk_123 : ∀  (lo : Nat)  (hi_ : Nat), (lo < 8 ∧ hi_ < 8) → ∀ (H : Heap) (locs : List Loc) (ls : Array Slot), JG E B s_ (g) H locs → lv_has ls 8 [(0, .ref (B + 459)), (1, .int (nI (360 * t))), (2, .int (nI i)), (5, .int (nI lo)), (6, .int (nI hi_))] → sX7_comer w i = bX7_comer_123 w i lo hi_ → W P_ l e_ (rmm 3 69 0 0) s_ m_ a_ below meth cd H locs 0 0 Q (F0 m_ 123 ls []) := by
    intro lo hi_ hlh H locs ls hJ hl hs
    refine lv_aload_n hx hb dX7_comer_123 rfl (lv_at hl 0 rfl) ?_
    refine gX7_7 X hJ (w := g.2.2.2) rfl dX7_comer_124 ?_
    refine lv_iload_n hx hb dX7_comer_127 rfl (lv_at hl 1 rfl) ?_
    refine lv_iload hx hb dX7_comer_128 (lv_at hl 3 rfl) ?_
    refine kX7_40 X hJ (qX7_cartAt l E B _ t lo) rfl hl.1 ⟨Nat.le_of_ble_eq_true rfl, Nat.le_of_ble_eq_true rfl⟩ ⟨Nat.le_refl _, Nat.le_refl _⟩ (rest := [.ref (B + 460)]) rfl (Nat.le_of_ble_eq_true rfl) dX7_comer_130 (fun H locs hJ => ?_)
    refine lv_iconst (v := 1) hx hb dX7_comer_133 (by decide) ?_
    refine xiadd (z := nI (360 * t + (104 + 8 * lo + 1))) hx hb dX7_comer_134 (nI_a3 t (104 + 8 * lo) 1) ?_
    refine ld_s X hJ (t := t) (w := w) (by omega) hw (j := 104 + 8 * lo + 1) (rfl) (by omega) dX7_comer_135 ?_
    refine lv_aload_n hx hb dX7_comer_136 rfl (lv_at hl 0 rfl) ?_
    refine gX7_7 X hJ (w := g.2.2.2) rfl dX7_comer_137 ?_
    refine lv_iload_n hx hb dX7_comer_140 rfl (lv_at hl 1 rfl) ?_
    refine lv_iconst (v := 0) hx hb dX7_comer_141 (by decide) ?_
    refine xiadd (z := nI (360 * t + (0))) hx hb dX7_comer_142 (nI_add (360 * t) 0) ?_
    refine ld_s X hJ (t := t) (w := w) (by omega) hw (j := 0) (rfl) (by omega) dX7_comer_143 ?_
    refine lv_icmp_lt (tgt := 151) hx hb dX7_comer_144 (by decide) (fun c_144 => ?_) (fun c_144 => ?_)
    · skip
      refine lv_iconst (v := 0) hx hb dX7_comer_151 (by decide) ?_
      refine lv_istore (lv' := [(7, .int 0), (0, .ref (B + 459)), (1, .int (nI (360 * t))), (2, .int (nI i)), (5, .int (nI lo)), (6, .int (nI hi_))]) hx hb dX7_comer_152 hl (by decide) rfl (fun ls hl => ?_)
      refine lv_iload hx hb dX7_comer_154 (lv_at hl 0 rfl) ?_
      refine lv_if_eq (tgt := 164) hx hb dX7_comer_156 (by decide) (fun c_156 => ?_) (fun c_156 => ?_)
      · skip
        refine lv_aload_n hx hb dX7_comer_164 rfl (lv_at hl 1 rfl) ?_
        refine gX7_7 X hJ (w := g.2.2.2) rfl dX7_comer_165 ?_
        refine lv_iload_n hx hb dX7_comer_168 rfl (lv_at hl 2 rfl) ?_
        refine lv_iload hx hb dX7_comer_169 (lv_at hl 5 rfl) ?_
        refine kX7_40 X hJ (qX7_cartAt l E B _ t hi_) rfl hl.1 ⟨Nat.le_of_ble_eq_true rfl, Nat.le_of_ble_eq_true rfl⟩ ⟨Nat.le_refl _, Nat.le_refl _⟩ (rest := [.ref (B + 460)]) rfl (Nat.le_of_ble_eq_true rfl) dX7_comer_171 (fun H locs hJ => ?_)
        refine lv_iconst (v := 1) hx hb dX7_comer_174 (by decide) ?_
        refine xiadd (z := nI (360 * t + (104 + 8 * hi_ + 1))) hx hb dX7_comer_175 (nI_a3 t (104 + 8 * hi_) 1) ?_
        refine ld_s X hJ (t := t) (w := w) (by omega) hw (j := 104 + 8 * hi_ + 1) (rfl) (by omega) dX7_comer_176 ?_
        refine lv_aload_n hx hb dX7_comer_177 rfl (lv_at hl 1 rfl) ?_
        refine gX7_7 X hJ (w := g.2.2.2) rfl dX7_comer_178 ?_
        refine lv_iload_n hx hb dX7_comer_181 rfl (lv_at hl 2 rfl) ?_
        refine lv_iconst (v := 0) hx hb dX7_comer_182 (by decide) ?_
        refine xiadd (z := nI (360 * t + (0))) hx hb dX7_comer_183 (nI_add (360 * t) 0) ?_
        refine ld_s X hJ (t := t) (w := w) (by omega) hw (j := 0) (rfl) (by omega) dX7_comer_184 ?_
        refine lv_icmp_lt (tgt := 193) hx hb dX7_comer_185 (by decide) (fun c_185 => ?_) (fun c_185 => ?_)
        · skip
          refine lv_bipush (v := (-6)) hx hb dX7_comer_193 (by decide) ?_
          have hs : sX7_comer w i = (-6) := hs.trans (by unfold bX7_comer_123; rw [if_pos c_144, if_pos c_185])
          exact fin hJ (by rw [hs]) dX7_comer_195
        · skip
          refine lv_iload hx hb dX7_comer_188 (lv_at hl 5 rfl) ?_
          refine lv_goto (tgt := 195) hx hb dX7_comer_190 (by decide) ?_
          have hs : sX7_comer w i = nI hi_ := hs.trans (by unfold bX7_comer_123; rw [if_pos c_144, if_neg c_185])
          exact fin hJ (by rw [hs]) dX7_comer_195
      · exact absurd c_156 (by decide)
    · skip
      refine lv_iconst (v := 1) hx hb dX7_comer_147 (by decide) ?_
      refine lv_goto (tgt := 152) hx hb dX7_comer_148 (by decide) ?_
      refine lv_istore (lv' := [(7, .int 1), (0, .ref (B + 459)), (1, .int (nI (360 * t))), (2, .int (nI i)), (5, .int (nI lo)), (6, .int (nI hi_))]) hx hb dX7_comer_152 hl (by decide) rfl (fun ls hl => ?_)
      refine lv_iload hx hb dX7_comer_154 (lv_at hl 0 rfl) ?_
      refine lv_if_eq (tgt := 164) hx hb dX7_comer_156 (by decide) (fun c_156 => ?_) (fun c_156 => ?_)
      · exact absurd c_156 (by decide)
      · skip
        refine lv_iload hx hb dX7_comer_159 (lv_at hl 4 rfl) ?_
        refine lv_goto (tgt := 195) hx hb dX7_comer_161 (by decide) ?_
        have hs : sX7_comer w i = nI lo := hs.trans (by unfold bX7_comer_123; rw [if_neg c_144])
        exact fin hJ (by rw [hs]) dX7_comer_195
  refine lv_aload_n hx hb dX7_comer_0 rfl (lv_at hl 0 rfl) ?_
  refine lv_iload_n hx hb dX7_comer_1 rfl (lv_at hl 1 rfl) ?_
  refine lv_iload_n hx hb dX7_comer_2 rfl (lv_at hl 2 rfl) ?_
  refine lv_iconst (v := 0) hx hb dX7_comer_3 (by decide) ?_
  refine kX7_50 X hJ (mX7_waiter l E B _ t i 0 w (by omega) (by omega) hw (hrn)) rfl (by omega) (at_M rfl) hl.1 ⟨Nat.le_of_ble_eq_true rfl, Nat.le_of_ble_eq_true rfl⟩ ⟨Nat.le_refl _, Nat.le_refl _⟩ (rest := []) rfl (Nat.le_of_ble_eq_true rfl) dX7_comer_4 (fun H locs hJ => ?_)
  refine lv_istore_n (lv' := [(3, .int (sX7_waiter w i 0)), (0, .ref (B + 459)), (1, .int (nI (360 * t))), (2, .int (nI i))]) hx hb dX7_comer_7 rfl hl (by decide) rfl (fun ls hl => ?_)
  refine lv_aload_n hx hb dX7_comer_8 rfl (lv_at hl 1 rfl) ?_
  refine lv_iload_n hx hb dX7_comer_9 rfl (lv_at hl 2 rfl) ?_
  refine lv_iload_n hx hb dX7_comer_10 rfl (lv_at hl 3 rfl) ?_
  refine lv_iconst (v := 1) hx hb dX7_comer_11 (by decide) ?_
  refine kX7_50 X hJ (mX7_waiter l E B _ t i 1 w (by omega) (by omega) hw (hrn)) rfl (by omega) (at_M rfl) hl.1 ⟨Nat.le_of_ble_eq_true rfl, Nat.le_of_ble_eq_true rfl⟩ ⟨Nat.le_refl _, Nat.le_refl _⟩ (rest := []) rfl (Nat.le_of_ble_eq_true rfl) dX7_comer_12 (fun H locs hJ => ?_)
  refine lv_istore (lv' := [(4, .int (sX7_waiter w i 1)), (3, .int (sX7_waiter w i 0)), (0, .ref (B + 459)), (1, .int (nI (360 * t))), (2, .int (nI i))]) hx hb dX7_comer_15 hl (by decide) rfl (fun ls hl => ?_)
  refine lv_iload_n hx hb dX7_comer_17 rfl (lv_at hl 1 rfl) ?_
  refine lv_bipush (v := (-6)) hx hb dX7_comer_18 (by decide) ?_
  refine lv_icmp_ne (tgt := 26) hx hb dX7_comer_20 (by decide) (fun c_20 => ?_) (fun c_20 => ?_)
  · skip
    have hl : lv_has ls 8 [(4, .int (sX7_waiter w i 1)), (3, .int (nI (nn (sX7_waiter w i 0)))), (0, .ref (B + 459)), (1, .int (nI (360 * t))), (2, .int (nI i))] := by rw [← show sX7_waiter w i 0 = nI (nn (sX7_waiter w i 0)) from (wt0 hrn c_20).1]; exact hl
    refine lv_iload hx hb dX7_comer_26 (lv_at hl 0 rfl) ?_
    refine lv_bipush (v := (-6)) hx hb dX7_comer_28 (by decide) ?_
    refine lv_icmp_ne (tgt := 63) hx hb dX7_comer_30 (by decide) (fun c_30 => ?_) (fun c_30 => ?_)
    · skip
      have hw0 := wt0 hrn c_20
      have hw1 := wt1 hrn c_30
      have hl : lv_has ls 8 [(4, .int (nI (nn (sX7_waiter w i 1)))), (3, .int (nI (nn (sX7_waiter w i 0)))), (0, .ref (B + 459)), (1, .int (nI (360 * t))), (2, .int (nI i))] := by rw [← show sX7_waiter w i 1 = nI (nn (sX7_waiter w i 1)) from (wt1 hrn c_30).1]; exact hl
      refine lv_aload_n hx hb dX7_comer_63 rfl (lv_at hl 2 rfl) ?_
      refine lv_iload_n hx hb dX7_comer_64 rfl (lv_at hl 3 rfl) ?_
      refine lv_iload_n hx hb dX7_comer_65 rfl (lv_at hl 4 rfl) ?_
      refine kX7_56 X hJ (mX7_areAsNear l E B _ t i w (by omega) (by omega) hw (hrn)) rfl (by omega) (at_M rfl) hl.1 ⟨Nat.le_of_ble_eq_true rfl, Nat.le_of_ble_eq_true rfl⟩ ⟨Nat.le_refl _, Nat.le_refl _⟩ (rest := []) rfl (Nat.le_of_ble_eq_true rfl) dX7_comer_66 (fun H locs hJ => ?_)
      refine lv_if_ne (tgt := 95) hx hb dX7_comer_69 (by decide) (fun c_69 => ?_) (fun c_69 => ?_)
      · skip
        refine lv_iload_n hx hb dX7_comer_95 rfl (lv_at hl 1 rfl) ?_
        refine lv_iload hx hb dX7_comer_96 (lv_at hl 0 rfl) ?_
        refine lv_icmp_ge (tgt := 105) hx hb dX7_comer_98 (by decide) (fun c_98 => ?_) (fun c_98 => ?_)
        · skip
          refine lv_iload hx hb dX7_comer_105 (lv_at hl 0 rfl) ?_
          refine lv_istore (lv' := [(5, .int (nI (nn (sX7_waiter w i 1)))), (4, .int (nI (nn (sX7_waiter w i 1)))), (3, .int (nI (nn (sX7_waiter w i 0)))), (0, .ref (B + 459)), (1, .int (nI (360 * t))), (2, .int (nI i))]) hx hb dX7_comer_107 hl (by decide) rfl (fun ls hl => ?_)
          refine lv_iload_n hx hb dX7_comer_109 rfl (lv_at hl 2 rfl) ?_
          refine lv_iload hx hb dX7_comer_110 (lv_at hl 1 rfl) ?_
          refine lv_icmp_ge (tgt := 120) hx hb dX7_comer_112 (by decide) (fun c_112 => ?_) (fun c_112 => ?_)
          · skip
            refine lv_iload_n hx hb dX7_comer_120 rfl (lv_at hl 2 rfl) ?_
            refine lv_istore (lv' := [(6, .int (nI (nn (sX7_waiter w i 0)))), (5, .int (nI (nn (sX7_waiter w i 1)))), (4, .int (nI (nn (sX7_waiter w i 1)))), (3, .int (nI (nn (sX7_waiter w i 0)))), (0, .ref (B + 459)), (1, .int (nI (360 * t))), (2, .int (nI i))]) hx hb dX7_comer_121 hl (by decide) rfl (fun ls hl => ?_)
            have hs : sX7_comer w i = bX7_comer_123 w i (nn (sX7_waiter w i 1)) (nn (sX7_waiter w i 0)) := by unfold sX7_comer; rw [if_neg c_20, if_neg c_30, if_neg c_69, if_pos c_98, if_pos c_112]
            exact bk_123 (nn (sX7_waiter w i 1)) (nn (sX7_waiter w i 0)) (by omega) _ _ _ hJ (lv_sub hl [4, 5, 6, 1, 0] rfl) hs
          · skip
            refine lv_iload hx hb dX7_comer_115 (lv_at hl 1 rfl) ?_
            refine lv_goto (tgt := 121) hx hb dX7_comer_117 (by decide) ?_
            refine lv_istore (lv' := [(6, .int (nI (nn (sX7_waiter w i 1)))), (5, .int (nI (nn (sX7_waiter w i 1)))), (4, .int (nI (nn (sX7_waiter w i 1)))), (3, .int (nI (nn (sX7_waiter w i 0)))), (0, .ref (B + 459)), (1, .int (nI (360 * t))), (2, .int (nI i))]) hx hb dX7_comer_121 hl (by decide) rfl (fun ls hl => ?_)
            have hs : sX7_comer w i = bX7_comer_123 w i (nn (sX7_waiter w i 1)) (nn (sX7_waiter w i 1)) := by unfold sX7_comer; rw [if_neg c_20, if_neg c_30, if_neg c_69, if_pos c_98, if_neg c_112]
            exact bk_123 (nn (sX7_waiter w i 1)) (nn (sX7_waiter w i 1)) (by omega) _ _ _ hJ (lv_sub hl [4, 5, 6, 1, 0] rfl) hs
        · skip
          refine lv_iload_n hx hb dX7_comer_101 rfl (lv_at hl 1 rfl) ?_
          refine lv_goto (tgt := 107) hx hb dX7_comer_102 (by decide) ?_
          refine lv_istore (lv' := [(5, .int (nI (nn (sX7_waiter w i 0)))), (4, .int (nI (nn (sX7_waiter w i 1)))), (3, .int (nI (nn (sX7_waiter w i 0)))), (0, .ref (B + 459)), (1, .int (nI (360 * t))), (2, .int (nI i))]) hx hb dX7_comer_107 hl (by decide) rfl (fun ls hl => ?_)
          refine lv_iload_n hx hb dX7_comer_109 rfl (lv_at hl 2 rfl) ?_
          refine lv_iload hx hb dX7_comer_110 (lv_at hl 1 rfl) ?_
          refine lv_icmp_ge (tgt := 120) hx hb dX7_comer_112 (by decide) (fun c_112 => ?_) (fun c_112 => ?_)
          · skip
            refine lv_iload_n hx hb dX7_comer_120 rfl (lv_at hl 2 rfl) ?_
            refine lv_istore (lv' := [(6, .int (nI (nn (sX7_waiter w i 0)))), (5, .int (nI (nn (sX7_waiter w i 0)))), (4, .int (nI (nn (sX7_waiter w i 1)))), (3, .int (nI (nn (sX7_waiter w i 0)))), (0, .ref (B + 459)), (1, .int (nI (360 * t))), (2, .int (nI i))]) hx hb dX7_comer_121 hl (by decide) rfl (fun ls hl => ?_)
            have hs : sX7_comer w i = bX7_comer_123 w i (nn (sX7_waiter w i 0)) (nn (sX7_waiter w i 0)) := by unfold sX7_comer; rw [if_neg c_20, if_neg c_30, if_neg c_69, if_neg c_98, if_pos c_112]
            exact bk_123 (nn (sX7_waiter w i 0)) (nn (sX7_waiter w i 0)) (by omega) _ _ _ hJ (lv_sub hl [4, 5, 6, 1, 0] rfl) hs
          · skip
            refine lv_iload hx hb dX7_comer_115 (lv_at hl 1 rfl) ?_
            refine lv_goto (tgt := 121) hx hb dX7_comer_117 (by decide) ?_
            refine lv_istore (lv' := [(6, .int (nI (nn (sX7_waiter w i 1)))), (5, .int (nI (nn (sX7_waiter w i 0)))), (4, .int (nI (nn (sX7_waiter w i 1)))), (3, .int (nI (nn (sX7_waiter w i 0)))), (0, .ref (B + 459)), (1, .int (nI (360 * t))), (2, .int (nI i))]) hx hb dX7_comer_121 hl (by decide) rfl (fun ls hl => ?_)
            have hs : sX7_comer w i = bX7_comer_123 w i (nn (sX7_waiter w i 0)) (nn (sX7_waiter w i 1)) := by unfold sX7_comer; rw [if_neg c_20, if_neg c_30, if_neg c_69, if_neg c_98, if_neg c_112]
            exact bk_123 (nn (sX7_waiter w i 0)) (nn (sX7_waiter w i 1)) (by omega) _ _ _ hJ (lv_sub hl [4, 5, 6, 1, 0] rfl) hs
      · skip
        refine lv_aload_n hx hb dX7_comer_72 rfl (lv_at hl 2 rfl) ?_
        refine lv_iload_n hx hb dX7_comer_73 rfl (lv_at hl 3 rfl) ?_
        refine lv_iload_n hx hb dX7_comer_74 rfl (lv_at hl 1 rfl) ?_
        refine kX7_53 X hJ (mX7_far l E B _ t (nn (sX7_waiter w i 0)) i w (by omega) (by omega) (by omega) hw (hw0.2.2)) rfl (by omega) (at_M rfl) hl.1 ⟨Nat.le_of_ble_eq_true rfl, Nat.le_of_ble_eq_true rfl⟩ ⟨Nat.le_refl _, Nat.le_refl _⟩ (rest := []) rfl (Nat.le_of_ble_eq_true rfl) dX7_comer_75 (fun H locs hJ => ?_)
        refine lv_aload_n hx hb dX7_comer_78 rfl (lv_at hl 2 rfl) ?_
        refine lv_iload_n hx hb dX7_comer_79 rfl (lv_at hl 3 rfl) ?_
        refine lv_iload hx hb dX7_comer_80 (lv_at hl 0 rfl) ?_
        refine kX7_53 X hJ (mX7_far l E B _ t (nn (sX7_waiter w i 1)) i w (by omega) (by omega) (by omega) hw (hw1.2.2)) rfl (by omega) (at_M rfl) hl.1 ⟨Nat.le_of_ble_eq_true rfl, Nat.le_of_ble_eq_true rfl⟩ ⟨Nat.le_refl _, Nat.le_refl _⟩ (rest := [.int (sX7_far w (nn (sX7_waiter w i 0)) i)]) rfl (Nat.le_of_ble_eq_true rfl) dX7_comer_82 (fun H locs hJ => ?_)
        refine lv_icmp_ge (tgt := 92) hx hb dX7_comer_85 (by decide) (fun c_85 => ?_) (fun c_85 => ?_)
        · skip
          refine lv_iload hx hb dX7_comer_92 (lv_at hl 0 rfl) ?_
          have hs : sX7_comer w i = nI (nn (sX7_waiter w i 1)) := by unfold sX7_comer; rw [if_neg c_20, if_neg c_30, if_pos c_69, if_pos c_85]
          exact fin hJ (by rw [hs]) dX7_comer_94
        · skip
          refine lv_iload_n hx hb dX7_comer_88 rfl (lv_at hl 1 rfl) ?_
          refine lv_goto (tgt := 94) hx hb dX7_comer_89 (by decide) ?_
          have hs : sX7_comer w i = nI (nn (sX7_waiter w i 0)) := by unfold sX7_comer; rw [if_neg c_20, if_neg c_30, if_pos c_69, if_neg c_85]
          exact fin hJ (by rw [hs]) dX7_comer_94
    · skip
      have hw0 := wt0 hrn c_20
      refine lv_aload_n hx hb dX7_comer_33 rfl (lv_at hl 2 rfl) ?_
      refine gX7_7 X hJ (w := g.2.2.2) rfl dX7_comer_34 ?_
      refine lv_iload_n hx hb dX7_comer_37 rfl (lv_at hl 3 rfl) ?_
      refine lv_iload_n hx hb dX7_comer_38 rfl (lv_at hl 1 rfl) ?_
      refine kX7_40 X hJ (qX7_cartAt l E B _ t (nn (sX7_waiter w i 0))) rfl hl.1 ⟨Nat.le_of_ble_eq_true rfl, Nat.le_of_ble_eq_true rfl⟩ ⟨Nat.le_refl _, Nat.le_refl _⟩ (rest := [.ref (B + 460)]) rfl (Nat.le_of_ble_eq_true rfl) dX7_comer_39 (fun H locs hJ => ?_)
      refine lv_iconst (v := 4) hx hb dX7_comer_42 (by decide) ?_
      refine xiadd (z := nI (360 * t + (104 + 8 * (nn (sX7_waiter w i 0)) + 4))) hx hb dX7_comer_43 (nI_a3 t (104 + 8 * (nn (sX7_waiter w i 0))) 4) ?_
      refine ld_s X hJ (t := t) (w := w) (by omega) hw (j := 104 + 8 * (nn (sX7_waiter w i 0)) + 4) (rfl) (by omega) dX7_comer_44 ?_
      refine lv_aload_n hx hb dX7_comer_45 rfl (lv_at hl 2 rfl) ?_
      refine gX7_7 X hJ (w := g.2.2.2) rfl dX7_comer_46 ?_
      refine lv_iload_n hx hb dX7_comer_49 rfl (lv_at hl 3 rfl) ?_
      refine lv_iconst (v := 3) hx hb dX7_comer_50 (by decide) ?_
      refine xiadd (z := nI (360 * t + (3))) hx hb dX7_comer_51 (nI_add (360 * t) 3) ?_
      refine ld_s X hJ (t := t) (w := w) (by omega) hw (j := 3) (rfl) (by omega) dX7_comer_52 ?_
      refine lv_icmp_lt (tgt := 60) hx hb dX7_comer_53 (by decide) (fun c_53 => ?_) (fun c_53 => ?_)
      · skip
        refine lv_bipush (v := (-6)) hx hb dX7_comer_60 (by decide) ?_
        have hs : sX7_comer w i = (-6) := by unfold sX7_comer; rw [if_neg c_20, if_pos c_30, if_pos c_53]
        exact fin hJ (by rw [hs]) dX7_comer_62
      · skip
        refine lv_iload_n hx hb dX7_comer_56 rfl (lv_at hl 1 rfl) ?_
        refine lv_goto (tgt := 62) hx hb dX7_comer_57 (by decide) ?_
        have hs : sX7_comer w i = nI (nn (sX7_waiter w i 0)) := by unfold sX7_comer; rw [if_neg c_20, if_pos c_30, if_neg c_53]
        exact fin hJ (by rw [hs]) dX7_comer_62
  · skip
    refine lv_bipush (v := (-6)) hx hb dX7_comer_23 (by decide) ?_
    have hs : sX7_comer w i = (-6) := by unfold sX7_comer; rw [if_pos c_20]
    exact fin hJ (by rw [hs]) dX7_comer_25

def sX7_pays (w : Row) (c : Nat) (i : Nat) (x : Int32) : Row := upd (upd (upd w (104 + 8 * c + 1) ((w (104 + 8 * c + 1)) - x)) (104 + 8 * c + 6) (((upd w (104 + 8 * c + 1) ((w (104 + 8 * c + 1)) - x)) (104 + 8 * c + 6)) + x)) (20 + 7 * i + 4) (((upd (upd w (104 + 8 * c + 1) ((w (104 + 8 * c + 1)) - x)) (104 + 8 * c + 6) (((upd w (104 + 8 * c + 1) ((w (104 + 8 * c + 1)) - x)) (104 + 8 * c + 6)) + x)) (20 + 7 * i + 4)) + x)
set_option maxHeartbeats 4000000 in
set_option maxRecDepth 100000 in
theorem mX7_pays (l : Launch) (E : EE) (B : Nat) (g : GS) (t : Nat) (c : Nat) (i : Nat) (x : Int32) (w : Row) (ht : t < 10) (hc : c < 8) (hi : i < 12) : CG l yX7_pays cX7_pays 5 none 1 21 E B [.ref (B + 459), .int (nI (360 * t)), .int (nI c), .int (nI i), .int x] (upS g t w) none (upS g t (sX7_pays w c i x)) := by
  refine mkV (own := RX7) rfl (by decide) rfl (Nat.le_of_ble_eq_true rfl) (fun P_ e_ s_ m_ a_ below meth cd Q X _ fin ls hl hJ => ?_)
  have hx := X.1
  have hb := X.2.1
  have hl : lv_has ls 5 [(0, .ref (B + 459)), (1, .int (nI (360 * t))), (2, .int (nI c)), (3, .int (nI i)), (4, .int x)] := hl
  refine lv_aload_n hx hb dX7_pays_0 rfl (lv_at hl 0 rfl) ?_
  refine gX7_7 X hJ (w := g.2.2.2) rfl dX7_pays_1 ?_
  refine lv_iload_n hx hb dX7_pays_4 rfl (lv_at hl 1 rfl) ?_
  refine lv_iload_n hx hb dX7_pays_5 rfl (lv_at hl 2 rfl) ?_
  refine kX7_40 X hJ (qX7_cartAt l E B _ t c) rfl hl.1 ⟨Nat.le_of_ble_eq_true rfl, Nat.le_of_ble_eq_true rfl⟩ ⟨Nat.le_refl _, Nat.le_refl _⟩ (rest := [.ref (B + 460)]) rfl (Nat.le_of_ble_eq_true rfl) dX7_pays_6 (fun H locs hJ => ?_)
  refine lv_iconst (v := 1) hx hb dX7_pays_9 (by decide) ?_
  refine xiadd (z := nI (360 * t + (104 + 8 * c + 1))) hx hb dX7_pays_10 (nI_a3 t (104 + 8 * c) 1) ?_
  refine lv_dup2_11 hx hb dX7_pays_11 rfl rfl ?_
  refine ld_s X hJ (t := t) (w := w) (by omega) upS_1 (j := 104 + 8 * c + 1) (rfl) (by omega) dX7_pays_12 ?_
  refine lv_iload hx hb dX7_pays_13 (lv_at hl 4 rfl) ?_
  refine lv_isub hx hb dX7_pays_15 ?_
  refine st_s X (t := t) hJ (by omega) (j := 104 + 8 * c + 1) (rfl) (by omega) dX7_pays_16 (fun H locs hJ => ?_)
  refine lv_aload_n hx hb dX7_pays_17 rfl (lv_at hl 0 rfl) ?_
  refine gX7_7 X hJ (w := g.2.2.2) rfl dX7_pays_18 ?_
  refine lv_iload_n hx hb dX7_pays_21 rfl (lv_at hl 1 rfl) ?_
  refine lv_iload_n hx hb dX7_pays_22 rfl (lv_at hl 2 rfl) ?_
  refine kX7_40 X hJ (qX7_cartAt l E B _ t c) rfl hl.1 ⟨Nat.le_of_ble_eq_true rfl, Nat.le_of_ble_eq_true rfl⟩ ⟨Nat.le_refl _, Nat.le_refl _⟩ (rest := [.ref (B + 460)]) rfl (Nat.le_of_ble_eq_true rfl) dX7_pays_23 (fun H locs hJ => ?_)
  refine lv_bipush (v := 6) hx hb dX7_pays_26 (by decide) ?_
  refine xiadd (z := nI (360 * t + (104 + 8 * c + 6))) hx hb dX7_pays_28 (nI_a3 t (104 + 8 * c) 6) ?_
  refine lv_dup2_11 hx hb dX7_pays_29 rfl rfl ?_
  refine ld_s X hJ (t := t) (w := upd w (104 + 8 * c + 1) ((w (104 + 8 * c + 1)) - x)) (by omega) upS_1 (j := 104 + 8 * c + 6) (rfl) (by omega) dX7_pays_30 ?_
  refine lv_iload hx hb dX7_pays_31 (lv_at hl 4 rfl) ?_
  refine lv_iadd hx hb dX7_pays_33 ?_
  refine st_s X (t := t) hJ (by omega) (j := 104 + 8 * c + 6) (rfl) (by omega) dX7_pays_34 (fun H locs hJ => ?_)
  refine lv_aload_n hx hb dX7_pays_35 rfl (lv_at hl 0 rfl) ?_
  refine gX7_7 X hJ (w := g.2.2.2) rfl dX7_pays_36 ?_
  refine lv_iload_n hx hb dX7_pays_39 rfl (lv_at hl 1 rfl) ?_
  refine lv_iload_n hx hb dX7_pays_40 rfl (lv_at hl 3 rfl) ?_
  refine kX7_31 X hJ (qX7_bridgeAt l E B _ t i) rfl hl.1 ⟨Nat.le_of_ble_eq_true rfl, Nat.le_of_ble_eq_true rfl⟩ ⟨Nat.le_refl _, Nat.le_refl _⟩ (rest := [.ref (B + 460)]) rfl (Nat.le_of_ble_eq_true rfl) dX7_pays_41 (fun H locs hJ => ?_)
  refine lv_iconst (v := 4) hx hb dX7_pays_44 (by decide) ?_
  refine xiadd (z := nI (360 * t + (20 + 7 * i + 4))) hx hb dX7_pays_45 (nI_a3 t (20 + 7 * i) 4) ?_
  refine lv_dup2_11 hx hb dX7_pays_46 rfl rfl ?_
  refine ld_s X hJ (t := t) (w := upd (upd w (104 + 8 * c + 1) ((w (104 + 8 * c + 1)) - x)) (104 + 8 * c + 6) (((upd w (104 + 8 * c + 1) ((w (104 + 8 * c + 1)) - x)) (104 + 8 * c + 6)) + x)) (by omega) upS_1 (j := 20 + 7 * i + 4) (rfl) (by omega) dX7_pays_47 ?_
  refine lv_iload hx hb dX7_pays_48 (lv_at hl 4 rfl) ?_
  refine lv_iadd hx hb dX7_pays_50 ?_
  refine st_s X (t := t) hJ (by omega) (j := 20 + 7 * i + 4) (rfl) (by omega) dX7_pays_51 (fun H locs hJ => ?_)
  have hs : sX7_pays w c i x = upd (upd (upd w (104 + 8 * c + 1) ((w (104 + 8 * c + 1)) - x)) (104 + 8 * c + 6) (((upd w (104 + 8 * c + 1) ((w (104 + 8 * c + 1)) - x)) (104 + 8 * c + 6)) + x)) (20 + 7 * i + 4) (((upd (upd w (104 + 8 * c + 1) ((w (104 + 8 * c + 1)) - x)) (104 + 8 * c + 6) (((upd w (104 + 8 * c + 1) ((w (104 + 8 * c + 1)) - x)) (104 + 8 * c + 6)) + x)) (20 + 7 * i + 4)) + x) := by unfold sX7_pays; rfl
  exact fin (by rw [hs]; exact hJ) dX7_pays_52

theorem Rn_pays {w : Row} {c i : Nat} {x : Int32} (hc : c < 8) (hi : i < 12) (h : Rn w) : Rn (sX7_pays w c i x) := by
  unfold sX7_pays
  exact Rn_upd (by unfold bad; omega) (Rn_upd (by unfold bad; omega) (Rn_upd (by unfold bad; omega) h))
theorem Nz_pays {w : Row} {i0 c i : Nat} {x : Int32} (hc : c < 8) (hi : i < 12) (hi0 : i0 < 12) (h : Nz i0 w) : Nz i0 (sX7_pays w c i x) := by
  unfold sX7_pays
  exact Nz_upd (by omega) (Nz_upd (by omega) (Nz_upd (by omega) h))
def bX7_stopsWaiting_41  (c : Nat) : Nat → Row → Nat → Nat → Row
  | 0, w41, _, _ => w41
  | n + 1, w41, z, p => if w41 (10) ≤ nI p then (upd w41 (10) (nI z)) else (if (upd w41 (12 + z) (w41 (12 + p))) (12 + p) = nI c then (bX7_stopsWaiting_41 c n (upd w41 (12 + z) (w41 (12 + p))) (z + 0) (p + 1)) else (bX7_stopsWaiting_41 c n (upd w41 (12 + z) (w41 (12 + p))) (z + 1) (p + 1)))
def sX7_stopsWaiting (w : Row) (c : Nat) : Row := bX7_stopsWaiting_41 c 9 (upd (upd (upd w (104 + 8 * c + 2) (-6)) (104 + 8 * c + 3) (-6)) (104 + 8 * c + 4) 0) 0 0
set_option maxHeartbeats 4000000 in
set_option maxRecDepth 100000 in
theorem mX7_stopsWaiting (l : Launch) (E : EE) (B : Nat) (g : GS) (t : Nat) (c : Nat) (w : Row) (ht : t < 10) (hc : c < 8) (hrn : Rn w) : CG l yX7_stopsWaiting cX7_stopsWaiting 6 none 1 21 E B [.ref (B + 459), .int (nI (360 * t)), .int (nI c)] (upS g t w) none (upS g t (sX7_stopsWaiting w c)) := by
  refine mkV (own := RX7) rfl (by decide) rfl (Nat.le_of_ble_eq_true rfl) (fun P_ e_ s_ m_ a_ below meth cd Q X _ fin ls hl hJ => ?_)
  have hx := X.1
  have hb := X.2.1
  have hl : lv_has ls 6 [(0, .ref (B + 459)), (1, .int (nI (360 * t))), (2, .int (nI c))] := hl
  have bk_41 : ∀ (n : Nat) (w41 : Row)  (z : Nat)  (p : Nat), 8 - p < n → (Rn w41) → (p ≤ 8 ∧ z ≤ p) → ∀ (H : Heap) (locs : List Loc) (ls : Array Slot), JG E B s_ (upS g t w41) H locs → lv_has ls 6 [(0, .ref (B + 459)), (1, .int (nI (360 * t))), (2, .int (nI c)), (4, .int (nI z)), (5, .int (nI p))] → sX7_stopsWaiting w c = bX7_stopsWaiting_41 c n w41 z p → W P_ l e_ (rmm 1 21 0 0) s_ m_ a_ below meth cd H locs 0 0 Q (F0 m_ 41 ls []) := by
    intro n
    induction n with
    | zero => intro w41 z p hm; exact absurd hm (Nat.not_lt_zero _)
    | succ n ih =>
      intro w41 z p hm hrn hp H locs ls hJ hl hs
      refine lv_iload hx hb dX7_stopsWaiting_41 (lv_at hl 4 rfl) ?_
      refine lv_aload_n hx hb dX7_stopsWaiting_43 rfl (lv_at hl 0 rfl) ?_
      refine gX7_7 X hJ (w := g.2.2.2) rfl dX7_stopsWaiting_44 ?_
      refine lv_iload_n hx hb dX7_stopsWaiting_47 rfl (lv_at hl 1 rfl) ?_
      refine lv_bipush (v := 10) hx hb dX7_stopsWaiting_48 (by decide) ?_
      refine xiadd (z := nI (360 * t + (10))) hx hb dX7_stopsWaiting_50 (nI_add (360 * t) 10) ?_
      refine ld_s X hJ (t := t) (w := w41) (by omega) upS_1 (j := 10) (rfl) (by omega) dX7_stopsWaiting_51 ?_
      refine lv_icmp_ge (tgt := 111) hx hb dX7_stopsWaiting_52 (by decide) (fun c_52 => ?_) (fun c_52 => ?_)
      · skip
        refine lv_aload_n hx hb dX7_stopsWaiting_111 rfl (lv_at hl 0 rfl) ?_
        refine gX7_7 X hJ (w := g.2.2.2) rfl dX7_stopsWaiting_112 ?_
        refine lv_iload_n hx hb dX7_stopsWaiting_115 rfl (lv_at hl 1 rfl) ?_
        refine lv_bipush (v := 10) hx hb dX7_stopsWaiting_116 (by decide) ?_
        refine xiadd (z := nI (360 * t + (10))) hx hb dX7_stopsWaiting_118 (nI_add (360 * t) 10) ?_
        refine lv_iload hx hb dX7_stopsWaiting_119 (lv_at hl 3 rfl) ?_
        refine st_s X (t := t) hJ (by omega) (j := 10) (rfl) (by omega) dX7_stopsWaiting_121 (fun H locs hJ => ?_)
        have hs : sX7_stopsWaiting w c = upd w41 (10) (nI z) := hs.trans (by rw [bX7_stopsWaiting_41, if_pos c_52])
        exact fin (by rw [hs]; exact hJ) dX7_stopsWaiting_122
      · skip
        have hp2 := hrn.1.lt10 (by omega) c_52
        refine lv_aload_n hx hb dX7_stopsWaiting_55 rfl (lv_at hl 0 rfl) ?_
        refine gX7_7 X hJ (w := g.2.2.2) rfl dX7_stopsWaiting_56 ?_
        refine lv_iload_n hx hb dX7_stopsWaiting_59 rfl (lv_at hl 1 rfl) ?_
        refine lv_bipush (v := 12) hx hb dX7_stopsWaiting_60 (by decide) ?_
        refine xiadd (z := nI (360 * t + (12))) hx hb dX7_stopsWaiting_62 (nI_add (360 * t) 12) ?_
        refine lv_iload hx hb dX7_stopsWaiting_63 (lv_at hl 3 rfl) ?_
        refine xiadd (z := nI (360 * t + (12 + z))) hx hb dX7_stopsWaiting_65 (nI_a3 t 12 z) ?_
        refine lv_aload_n hx hb dX7_stopsWaiting_66 rfl (lv_at hl 0 rfl) ?_
        refine gX7_7 X hJ (w := g.2.2.2) rfl dX7_stopsWaiting_67 ?_
        refine lv_iload_n hx hb dX7_stopsWaiting_70 rfl (lv_at hl 1 rfl) ?_
        refine lv_bipush (v := 12) hx hb dX7_stopsWaiting_71 (by decide) ?_
        refine xiadd (z := nI (360 * t + (12))) hx hb dX7_stopsWaiting_73 (nI_add (360 * t) 12) ?_
        refine lv_iload hx hb dX7_stopsWaiting_74 (lv_at hl 4 rfl) ?_
        refine xiadd (z := nI (360 * t + (12 + p))) hx hb dX7_stopsWaiting_76 (nI_a3 t 12 p) ?_
        refine ld_s X hJ (t := t) (w := w41) (by omega) upS_1 (j := 12 + p) (rfl) (by omega) dX7_stopsWaiting_77 ?_
        refine st_s X (t := t) hJ (by omega) (j := 12 + z) (rfl) (by omega) dX7_stopsWaiting_78 (fun H locs hJ => ?_)
        have hrn := Rn_q (show z < 8 by omega) (hrn.2.1 p (by omega)) hrn
        refine lv_iload hx hb dX7_stopsWaiting_79 (lv_at hl 3 rfl) ?_
        refine lv_aload_n hx hb dX7_stopsWaiting_81 rfl (lv_at hl 0 rfl) ?_
        refine gX7_7 X hJ (w := g.2.2.2) rfl dX7_stopsWaiting_82 ?_
        refine lv_iload_n hx hb dX7_stopsWaiting_85 rfl (lv_at hl 1 rfl) ?_
        refine lv_bipush (v := 12) hx hb dX7_stopsWaiting_86 (by decide) ?_
        refine xiadd (z := nI (360 * t + (12))) hx hb dX7_stopsWaiting_88 (nI_add (360 * t) 12) ?_
        refine lv_iload hx hb dX7_stopsWaiting_89 (lv_at hl 4 rfl) ?_
        refine xiadd (z := nI (360 * t + (12 + p))) hx hb dX7_stopsWaiting_91 (nI_a3 t 12 p) ?_
        refine ld_s X hJ (t := t) (w := upd w41 (12 + z) (w41 (12 + p))) (by omega) upS_1 (j := 12 + p) (rfl) (by omega) dX7_stopsWaiting_92 ?_
        refine lv_iload_n hx hb dX7_stopsWaiting_93 rfl (lv_at hl 2 rfl) ?_
        refine lv_icmp_ne (tgt := 101) hx hb dX7_stopsWaiting_94 (by decide) (fun c_94 => ?_) (fun c_94 => ?_)
        · skip
          refine lv_iconst (v := 1) hx hb dX7_stopsWaiting_101 (by decide) ?_
          refine xiadd (z := nI (z + 1)) hx hb dX7_stopsWaiting_102 (nI_add z 1) ?_
          refine lv_istore (lv' := [(4, .int (nI (z + 1))), (0, .ref (B + 459)), (1, .int (nI (360 * t))), (2, .int (nI c)), (5, .int (nI p))]) hx hb dX7_stopsWaiting_103 hl (by decide) rfl (fun ls hl => ?_)
          refine lv_iinc (v := nI (p + 1)) (lv' := [(5, .int (nI (p + 1))), (4, .int (nI (z + 1))), (0, .ref (B + 459)), (1, .int (nI (360 * t))), (2, .int (nI c))]) hx hb dX7_stopsWaiting_105 hl (k := 4) rfl (by first | exact nI_add _ _ | rfl) (by decide) rfl (fun ls hl => ?_)
          refine lv_goto (tgt := 41) hx hb dX7_stopsWaiting_108 (by decide) ?_
          have hs : sX7_stopsWaiting w c = bX7_stopsWaiting_41 c n (upd w41 (12 + z) (w41 (12 + p))) (z + 1) (p + 1) := hs.trans (by rw [bX7_stopsWaiting_41, if_neg c_52, if_neg c_94])
          exact ih (upd w41 (12 + z) (w41 (12 + p))) (z + 1) (p + 1) (by omega) (by assumption) (by omega) _ _ _ hJ (lv_sub hl [2, 3, 4, 1, 0] rfl) hs
        · skip
          refine lv_iconst (v := 0) hx hb dX7_stopsWaiting_97 (by decide) ?_
          refine lv_goto (tgt := 102) hx hb dX7_stopsWaiting_98 (by decide) ?_
          refine xiadd (z := nI (z + 0)) hx hb dX7_stopsWaiting_102 (nI_add z 0) ?_
          refine lv_istore (lv' := [(4, .int (nI (z + 0))), (0, .ref (B + 459)), (1, .int (nI (360 * t))), (2, .int (nI c)), (5, .int (nI p))]) hx hb dX7_stopsWaiting_103 hl (by decide) rfl (fun ls hl => ?_)
          refine lv_iinc (v := nI (p + 1)) (lv' := [(5, .int (nI (p + 1))), (4, .int (nI (z + 0))), (0, .ref (B + 459)), (1, .int (nI (360 * t))), (2, .int (nI c))]) hx hb dX7_stopsWaiting_105 hl (k := 4) rfl (by first | exact nI_add _ _ | rfl) (by decide) rfl (fun ls hl => ?_)
          refine lv_goto (tgt := 41) hx hb dX7_stopsWaiting_108 (by decide) ?_
          have hs : sX7_stopsWaiting w c = bX7_stopsWaiting_41 c n (upd w41 (12 + z) (w41 (12 + p))) (z + 0) (p + 1) := hs.trans (by rw [bX7_stopsWaiting_41, if_neg c_52, if_pos c_94])
          exact ih (upd w41 (12 + z) (w41 (12 + p))) (z + 0) (p + 1) (by omega) (by assumption) (by omega) _ _ _ hJ (lv_sub hl [2, 3, 4, 1, 0] rfl) hs
  refine lv_iload_n hx hb dX7_stopsWaiting_0 rfl (lv_at hl 1 rfl) ?_
  refine lv_iload_n hx hb dX7_stopsWaiting_1 rfl (lv_at hl 2 rfl) ?_
  refine kX7_40 X hJ (qX7_cartAt l E B _ t c) rfl hl.1 ⟨Nat.le_of_ble_eq_true rfl, Nat.le_of_ble_eq_true rfl⟩ ⟨Nat.le_refl _, Nat.le_refl _⟩ (rest := []) rfl (Nat.le_of_ble_eq_true rfl) dX7_stopsWaiting_2 (fun H locs hJ => ?_)
  refine lv_istore_n (lv' := [(3, .int (nI (360 * t + (104 + 8 * c)))), (0, .ref (B + 459)), (1, .int (nI (360 * t))), (2, .int (nI c))]) hx hb dX7_stopsWaiting_5 rfl hl (by decide) rfl (fun ls hl => ?_)
  refine lv_aload_n hx hb dX7_stopsWaiting_6 rfl (lv_at hl 1 rfl) ?_
  refine gX7_7 X hJ (w := g.2.2.2) rfl dX7_stopsWaiting_7 ?_
  refine lv_iload_n hx hb dX7_stopsWaiting_10 rfl (lv_at hl 0 rfl) ?_
  refine lv_iconst (v := 2) hx hb dX7_stopsWaiting_11 (by decide) ?_
  refine xiadd (z := nI (360 * t + (104 + 8 * c + 2))) hx hb dX7_stopsWaiting_12 (nI_a3 t (104 + 8 * c) 2) ?_
  refine lv_bipush (v := (-6)) hx hb dX7_stopsWaiting_13 (by decide) ?_
  refine st_s X (t := t) hJ (by omega) (j := 104 + 8 * c + 2) (rfl) (by omega) dX7_stopsWaiting_15 (fun H locs hJ => ?_)
  refine lv_aload_n hx hb dX7_stopsWaiting_16 rfl (lv_at hl 1 rfl) ?_
  refine gX7_7 X hJ (w := g.2.2.2) rfl dX7_stopsWaiting_17 ?_
  refine lv_iload_n hx hb dX7_stopsWaiting_20 rfl (lv_at hl 0 rfl) ?_
  refine lv_iconst (v := 3) hx hb dX7_stopsWaiting_21 (by decide) ?_
  refine xiadd (z := nI (360 * t + (104 + 8 * c + 3))) hx hb dX7_stopsWaiting_22 (nI_a3 t (104 + 8 * c) 3) ?_
  refine lv_bipush (v := (-6)) hx hb dX7_stopsWaiting_23 (by decide) ?_
  refine st_s X (t := t) hJ (by omega) (j := 104 + 8 * c + 3) (rfl) (by omega) dX7_stopsWaiting_25 (fun H locs hJ => ?_)
  refine lv_aload_n hx hb dX7_stopsWaiting_26 rfl (lv_at hl 1 rfl) ?_
  refine gX7_7 X hJ (w := g.2.2.2) rfl dX7_stopsWaiting_27 ?_
  refine lv_iload_n hx hb dX7_stopsWaiting_30 rfl (lv_at hl 0 rfl) ?_
  refine lv_iconst (v := 4) hx hb dX7_stopsWaiting_31 (by decide) ?_
  refine xiadd (z := nI (360 * t + (104 + 8 * c + 4))) hx hb dX7_stopsWaiting_32 (nI_a3 t (104 + 8 * c) 4) ?_
  refine lv_iconst (v := 0) hx hb dX7_stopsWaiting_33 (by decide) ?_
  refine st_s X (t := t) hJ (by omega) (j := 104 + 8 * c + 4) (rfl) (by omega) dX7_stopsWaiting_34 (fun H locs hJ => ?_)
  refine lv_iconst (v := 0) hx hb dX7_stopsWaiting_35 (by decide) ?_
  refine lv_istore (lv' := [(4, .int 0), (3, .int (nI (360 * t + (104 + 8 * c)))), (0, .ref (B + 459)), (1, .int (nI (360 * t))), (2, .int (nI c))]) hx hb dX7_stopsWaiting_36 hl (by decide) rfl (fun ls hl => ?_)
  refine lv_iconst (v := 0) hx hb dX7_stopsWaiting_38 (by decide) ?_
  refine lv_istore (lv' := [(5, .int 0), (4, .int 0), (3, .int (nI (360 * t + (104 + 8 * c)))), (0, .ref (B + 459)), (1, .int (nI (360 * t))), (2, .int (nI c))]) hx hb dX7_stopsWaiting_39 hl (by decide) rfl (fun ls hl => ?_)
  have hs : sX7_stopsWaiting w c = bX7_stopsWaiting_41 c 9 (upd (upd (upd w (104 + 8 * c + 2) (-6)) (104 + 8 * c + 3) (-6)) (104 + 8 * c + 4) 0) 0 0 := by unfold sX7_stopsWaiting; rfl
  exact bk_41 9 (upd (upd (upd w (104 + 8 * c + 2) (-6)) (104 + 8 * c + 3) (-6)) (104 + 8 * c + 4) 0) 0 0 (by omega) (Rn_upd (by unfold bad; omega) (Rn_upd (by unfold bad; omega) (Rn_upd (by unfold bad; omega) (hrn)))) (by omega) _ _ _ hJ (lv_sub hl [3, 4, 5, 1, 0] rfl) hs

