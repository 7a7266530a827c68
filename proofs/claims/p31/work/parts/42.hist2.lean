/-! the constructor of the history: seven worlds -/
def z3 : List Value := [.null, .int 0, .int 0]
def hN (B o : Nat) (E : EE) (p r : Nat) : va_E :=
  if r = 0 then .inr (2, [.ref (B + (o + 1)), .int 0, .int 0])
  else if r = 1 then .inl (E.2 4, 7, .inr (.inr (.inr (.inr (fun j => if j < p then some (B + (o + (2 + 41 * j))) else none)))))
  else wN B (o + (2 + 41 * ((r - 2) / 41))) E 12 8 ((r - 2) % 41)
def hP (f : Nat → va_E) (B o : Nat) (E : EE) (p j : Nat) : va_E := if j < o then f j else hN B o E p (j - o)
section H2
variable {f : Nat → va_E} {B o : Nat} {E : EE} {p : Nat}
theorem hP_0 : hP f B o E p o = .inr (2, [.ref (B + (o + 1)), .int 0, .int 0]) := by
  unfold hP hN
  rw [if_neg (by omega), if_pos (by omega)]
theorem hP_1 : hP f B o E p (o + 1) = .inl (E.2 4, 7, .inr (.inr (.inr (.inr (fun j => if j < p then some (B + (o + (2 + 41 * j))) else none))))) := by
  unfold hP hN
  rw [if_neg (by omega), show o + 1 - o = 1 by omega, if_neg (by omega), if_pos rfl]
theorem wP_lt {g : Nat → va_E} {x c j : Nat} (h : j < x) : wP g B x E p c j = g j := if_pos h
theorem wP_x {g : Nat → va_E} {x c : Nat} : wP g B x E p c x = .inr (5, [.ref (B + (x + 1)), .ref (B + (x + 2)), .ref (B + (x + 3)), .ref (B + (x + 4)), .int 0, .int 0, .int 0, .int 1, .int 0, .int 0, .int 0]) := wP_0
theorem step_H (hp : p < 7) : ∀ j, j < o + (2 + 41 * p) + 41 →
    va_up (wP (va_up (hP f B o E p) (o + (2 + 41 * p)) (.inr (5, z5))) B (o + (2 + 41 * p)) E 12 8) (o + 1) (.inl (E.2 4, 7, .inr (.inr (.inr (.inr (va_up (fun j => if j < p then some (B + (o + (2 + 41 * j))) else none) p (some (B + (o + (2 + 41 * p)))))))))) j = hP f B o E (p + 1) j := by
  intro j hj
  by_cases e1 : j = o + 1
  · subst e1
    rw [upf, rf_up (g := fun j => B + (o + (2 + 41 * j))), hP_1]
  · rw [upf_ne e1]
    by_cases c : j < o + (2 + 41 * p)
    · rw [wP_lt c, upf_ne (by omega)]
      unfold hP
      by_cases d : j < o
      · rw [if_pos d, if_pos d]
      · rw [if_neg d, if_neg d]
        unfold hN
        by_cases c0 : j - o = 0
        · rw [if_pos c0, if_pos c0]
        · rw [if_neg c0, if_neg c0, if_neg (show ¬ j - o = 1 by omega), if_neg (show ¬ j - o = 1 by omega)]
    · unfold wP hP
      rw [if_neg c, if_neg (show ¬ j < o by omega)]
      unfold hN
      rw [if_neg (show ¬ j - o = 0 by omega), if_neg (show ¬ j - o = 1 by omega), show (j - o - 2) / 41 = p by omega, show (j - o - 2) % 41 = j - (o + (2 + 41 * p)) by omega]
theorem h2_hP : ∀ j, j < o + 2 → va_up (va_up f (o + 1) (.inl (E.2 4, 7, .inr (.inr (.inr (.inr (fun _ => none))))))) o (.inr (2, z3.set 0 (.ref (B + (o + 1))))) j = hP f B o E 0 j := by
  intro j hj
  by_cases e0 : j = o
  · subst e0
    rw [upf, hP_0]
    rfl
  · rw [upf_ne e0]
    by_cases e1 : j = o + 1
    · subst e1
      rw [upf, hP_1, rf_0 (g := fun j => B + (o + (2 + 41 * j)))]
    · rw [upf_ne e1]
      unfold hP
      rw [if_pos (by omega)]
end H2
set_option maxHeartbeats 4000000 in
set_option maxRecDepth 100000 in
theorem mX2_init (l : Launch) (E : EE) (B : Nat) {o : Nat} {f : Nat → va_E} (hf : f o = .inr (2, z3)) : Ct l yX2_init cX2_init 2 none 3 90 288 3024 E B [.ref (B + o)] (o + 1) f none (o + 289) (hP f B o E 7) := by
  refine mkV (own := RX2) rfl (by decide) rfl (Nat.le_of_ble_eq_true rfl) (fun P_ e_ s_ m_ a_ below meth cd Q X hin2 fin ls hl hJ => ?_)
  have hx := X.1
  have hb := X.2.1
  have hl : lv_has ls 2 [(0, .ref (B + o))] := hl
  have loopH : ∀ (n p : Nat), 7 - p < n → p ≤ 7 → ∀ (H : Heap) (locs : List Loc) (ls : Array Slot) (cells slots : Nat), cells = 1 + 41 * p → slots = 7 + 431 * p → JL E B s_ (o + (2 + 41 * p)) (hP f B o E p) H locs → lv_has ls 2 [(0, .ref (B + o)), (1, .int (nI p))] → W P_ l e_ (rmm 3 90 288 3024) s_ m_ a_ below meth cd H locs cells slots Q (F0 m_ 15 ls []) := by
    intro n
    induction n with
    | zero => intro c hm; exact absurd hm (Nat.not_lt_zero _)
    | succ n ih =>
      intro p hm hp H locs ls cells slots e1 e2 hJ hl
      refine lv_iload_n hx hb dX2_init_15 rfl (lv_at hl 1 rfl) ?_
      refine lv_bipush (v := 7) hx hb dX2_init_16 (by decide) ?_
      refine lv_icmp_ge (tgt := 40) hx hb dX2_init_18 (by decide) (fun q => ?_) (fun q => ?_)
      · have hp7 : p = 7 := Nat.le_antisymm hp (ge_lit (n := 7) q (by omega) (by omega))
        subst hp7
        refine W.widen (k := 288) (n := 3024) (by omega) (by omega) ?_
        exact fin hJ dX2_init_40
      · have hp7 : p < 7 := lit_lt (n := 7) q (by omega) (by omega)
        have b1 : cells + 1 ≤ 288 := by omega
        have b2 : slots + 11 ≤ 3024 := by omega
        have b3 : cells + 1 + 40 ≤ 288 := by omega
        have b4 : slots + 11 + 420 ≤ 3024 := by omega
        refine lv_aload_n hx hb dX2_init_21 rfl (lv_at hl 0 rfl) ?_
        refine rget X hJ rfl inT2 0 (by decide) (tw (i := 181) (by decide +kernel) (by decide)) rfl (by omega) hP_0 rfl dX2_init_22 ?_
        refine lv_iload_n hx hb dX2_init_25 rfl (lv_at hl 1 rfl) ?_
        refine rnew X hJ (ci := 5) (fs := z5) rfl inT5 tyX5_ok (tw (i := 178) (by decide +kernel) (by decide)) (tw (i := 27) (by decide +kernel) (by decide)) (tw (i := 10) (by decide +kernel) (by decide)) z5_ok b1 b2 dX2_init_26 (fun H hJ => ?_)
        refine lv_dup hx hb dX2_init_29 rfl ?_
        refine kX2_17 X hJ (mX5_init l E B upf) rfl hl.1 ⟨Nat.le_of_ble_eq_true rfl, Nat.le_of_ble_eq_true rfl⟩ ⟨b3, b4⟩ (rest := [.ref (B + (o + (2 + 41 * p))), .int (nI p), .ref (B + (o + 1))]) rfl (Nat.le_of_ble_eq_true rfl) dX2_init_30 (fun H locs hJ => ?_)
        refine rastq X hJ (t0 := 4) (ci := 5) (N := 7) (j := p) rfl rfl (by omega) ((wP_lt (by omega)).trans ((upf_ne (by omega)).trans hP_1)) (by omega) wP_x rfl hp7 (by omega) dX2_init_33 (fun H locs hJ => ?_)
        refine lv_iinc (v := nI (p + 1)) (lv' := [(1, .int (nI (p + 1))), (0, .ref (B + o))]) hx hb dX2_init_34 hl (k := 1) rfl (nI_add _ _) (by decide) rfl (fun ls hl => ?_)
        refine lv_goto (tgt := 15) hx hb dX2_init_37 (by decide) ?_
        exact ih (p + 1) (by omega) (by omega) _ _ _ _ _ (by omega) (by omega) (by rw [show o + (2 + 41 * (p + 1)) = o + (2 + 41 * p) + 41 by omega]; exact JL_same (step_H hp7) hJ) (lv_sub hl [1, 0] rfl)
  have ne1 : ¬ o = o + 1 := by omega
  refine lv_aload_n hx hb dX2_init_0 rfl (lv_at hl 0 rfl) ?_
  refine kX2_3 X hl.1 ⟨Nat.le_of_ble_eq_true rfl, Nat.le_of_ble_eq_true rfl⟩ ⟨Nat.le_of_ble_eq_true rfl, Nat.le_of_ble_eq_true rfl⟩ (rest := []) dX2_init_1 ?_
  refine lv_aload_n hx hb dX2_init_4 rfl (lv_at hl 0 rfl) ?_
  refine lv_bipush (v := 7) hx hb dX2_init_5 (by decide) ?_
  refine ranew X hJ (t0 := 4) (N := 7) (tw (i := 178) (by decide +kernel) (by decide)) X.2.2.2.2.2.2.1.2.2.2.2.2.2.2 rfl rfl (by decide) (Nat.le_of_ble_eq_true rfl) (Nat.le_of_ble_eq_true rfl) dX2_init_7 (fun H hJ => ?_)
  refine rputF X hin2 hJ rfl inT2 tyX2_ok nmX2 0 (by decide) (tw (i := 181) (by decide +kernel) (by decide)) rfl rfl rfl rfl rfl (by omega) ((upf_ne ne1).trans hf) (Nat.le_of_ble_eq_true rfl) dX2_init_10 (fun H locs hJ => ?_)
  have hJ : JL E B s_ (o + 2) (hP f B o E 0) H locs := JL_same h2_hP hJ
  refine lv_iconst (v := 0) hx hb dX2_init_13 (by decide) ?_
  refine lv_istore_n (lv' := [(1, .int 0), (0, .ref (B + o))]) hx hb dX2_init_14 rfl hl (by decide) rfl (fun ls hl => ?_)
  exact loopH 8 0 (by omega) (by omega) _ _ _ _ _ rfl rfl hJ (lv_sub hl [1, 0] rfl)
