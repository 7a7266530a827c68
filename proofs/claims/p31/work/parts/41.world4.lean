/-! the constructor of a world -/
theorem ge_lit {p n : Nat} (h : nI n ≤ nI p) (hn : n < 2 ^ 31) (hp : p < 2 ^ 31) : n ≤ p := by
  rw [Int32.le_iff_toInt_le, nI_toInt hn, nI_toInt hp] at h
  omega
def z5 : List Value := [.null, .null, .null, .null, .int 0, .int 0, .int 0, .int 0, .int 0, .int 0, .int 0]
def w5a (f : Nat → va_E) (B o : Nat) (E : EE) : Nat → va_E := va_up (va_up f (o + 1) (.inl (E.2 0, 4, .inl (fun _ => 0)))) o (.inr (5, z5.set 0 (.ref (B + (o + 1)))))
def w5b (f : Nat → va_E) (B o : Nat) (E : EE) : Nat → va_E := va_up (va_up (w5a f B o E) (o + 2) (.inl (E.2 2, 12, .inr (.inr (.inr (.inr (fun _ => none))))))) o (.inr (5, (z5.set 0 (.ref (B + (o + 1)))).set 1 (.ref (B + (o + 2)))))
def w5c (f : Nat → va_E) (B o : Nat) (E : EE) : Nat → va_E := va_up (va_up (w5b f B o E) (o + 3) (.inl (E.2 3, 8, .inr (.inr (.inr (.inr (fun _ => none))))))) o (.inr (5, ((z5.set 0 (.ref (B + (o + 1)))).set 1 (.ref (B + (o + 2)))).set 2 (.ref (B + (o + 3)))))
def w5d (f : Nat → va_E) (B o : Nat) (E : EE) : Nat → va_E := va_up (va_up (w5c f B o E) (o + 4) (.inl (E.2 0, 8, .inl (fun _ => 0)))) o (.inr (5, (((z5.set 0 (.ref (B + (o + 1)))).set 1 (.ref (B + (o + 2)))).set 2 (.ref (B + (o + 3)))).set 3 (.ref (B + (o + 4)))))
def w5e (f : Nat → va_E) (B o : Nat) (E : EE) : Nat → va_E := va_up (w5d f B o E) o (.inr (5, ((((z5.set 0 (.ref (B + (o + 1)))).set 1 (.ref (B + (o + 2)))).set 2 (.ref (B + (o + 3)))).set 3 (.ref (B + (o + 4)))).set 7 (.int 1)))
def w5f (f : Nat → va_E) (B o : Nat) (E : EE) : Nat → va_E := va_up (w5e f B o E) (o + 1) (.inl (E.2 0, 4, .inl (va_cpy st_first (fun _ => 0) 0 0 4)))
section W5
variable {f : Nat → va_E} {B o : Nat} {E : EE} {p c : Nat}
theorem w5e_1 : w5e f B o E (o + 1) = .inl (E.2 0, 4, .inl (fun _ => 0)) := by
  unfold w5e w5d w5c w5b w5a
  rw [upf_ne (by omega), upf_ne (by omega), upf_ne (by omega), upf_ne (by omega), upf_ne (by omega), upf_ne (by omega), upf_ne (by omega), upf_ne (by omega), upf]
theorem w5_wP : ∀ j, j < o + 5 → w5f f B o E j = wP f B o E 0 0 j := by
  intro j hj
  unfold w5f
  by_cases e1 : j = o + 1
  · subst e1
    rw [upf, cpy4]
    unfold wP wN
    rw [if_neg (by omega), show o + 1 - o = 1 by omega, if_neg (by omega), if_pos rfl]
  rw [upf_ne e1]
  unfold w5e
  by_cases e0 : j = o
  · subst e0
    rw [upf]
    unfold wP wN
    rw [if_neg (by omega), if_pos (by omega)]
    rfl
  rw [upf_ne e0]
  unfold w5d
  rw [upf_ne e0]
  by_cases e4 : j = o + 4
  · subst e4
    rw [upf]
    unfold wP wN
    rw [if_neg (by omega), show o + 4 - o = 4 by omega, if_neg (by omega), if_neg (by omega), if_neg (by omega), if_neg (by omega), if_pos rfl]
  rw [upf_ne e4]
  unfold w5c
  rw [upf_ne e0]
  by_cases e3 : j = o + 3
  · subst e3
    rw [upf]
    unfold wP wN
    rw [if_neg (by omega), show o + 3 - o = 3 by omega, if_neg (by omega), if_neg (by omega), if_neg (by omega), if_pos rfl, rf_0 (g := fun j => B + (o + (17 + 3 * j)))]
  rw [upf_ne e3]
  unfold w5b
  rw [upf_ne e0]
  by_cases e2 : j = o + 2
  · subst e2
    rw [upf]
    unfold wP wN
    rw [if_neg (by omega), show o + 2 - o = 2 by omega, if_neg (by omega), if_neg (by omega), if_pos rfl, rf_0 (g := fun j => B + (o + (5 + j)))]
  rw [upf_ne e2]
  unfold w5a
  rw [upf_ne e0, upf_ne e1]
  unfold wP
  rw [if_pos (by omega)]
theorem wP_0 : wP f B o E p c o = .inr (5, [.ref (B + (o + 1)), .ref (B + (o + 2)), .ref (B + (o + 3)), .ref (B + (o + 4)), .int 0, .int 0, .int 0, .int 1, .int 0, .int 0, .int 0]) := by
  unfold wP wN
  rw [if_neg (by omega), if_pos (by omega)]
theorem wP_2 : wP f B o E p c (o + 2) = .inl (E.2 2, 12, .inr (.inr (.inr (.inr (fun j => if j < p then some (B + (o + (5 + j))) else none))))) := by
  unfold wP wN
  rw [if_neg (by omega), show o + 2 - o = 2 by omega, if_neg (by omega), if_neg (by omega), if_pos rfl]
theorem wP_3 : wP f B o E p c (o + 3) = .inl (E.2 3, 8, .inr (.inr (.inr (.inr (fun j => if j < c then some (B + (o + (17 + 3 * j))) else none))))) := by
  unfold wP wN
  rw [if_neg (by omega), show o + 3 - o = 3 by omega, if_neg (by omega), if_neg (by omega), if_neg (by omega), if_pos rfl]
theorem ctF_ne {n : Nat} {fs : List Value} {i : Int32} {j : Nat} (h0 : ¬ j = o) (h1 : ¬ j = n) (h2 : ¬ j = n + 1) : ctF f B n o E fs i j = f j := by
  unfold ctF
  rw [upf_ne h0, upf_ne h0, upf_ne h2, upf_ne h0, upf_ne h1, upf_ne h0, upf_ne h0]
end W5
theorem z9_ok : ∀ j, j < 9 → defaultValue (tyX0 j) = vp_V z9 j := fun j hj => by
  rcases (show j = 0 ∨ j = 1 ∨ j = 2 ∨ j = 3 ∨ j = 4 ∨ j = 5 ∨ j = 6 ∨ j = 7 ∨ j = 8 by omega) with rfl | rfl | rfl | rfl | rfl | rfl | rfl | rfl | rfl <;> rfl
theorem z11_ok : ∀ j, j < 11 → defaultValue (tyX1 j) = vp_V z11 j := fun j hj => by
  rcases (show j = 0 ∨ j = 1 ∨ j = 2 ∨ j = 3 ∨ j = 4 ∨ j = 5 ∨ j = 6 ∨ j = 7 ∨ j = 8 ∨ j = 9 ∨ j = 10 by omega) with rfl | rfl | rfl | rfl | rfl | rfl | rfl | rfl | rfl | rfl | rfl <;> rfl
theorem z5_ok : ∀ j, j < 11 → defaultValue (tyX5 j) = vp_V z5 j := fun j hj => by
  rcases (show j = 0 ∨ j = 1 ∨ j = 2 ∨ j = 3 ∨ j = 4 ∨ j = 5 ∨ j = 6 ∨ j = 7 ∨ j = 8 ∨ j = 9 ∨ j = 10 by omega) with rfl | rfl | rfl | rfl | rfl | rfl | rfl | rfl | rfl | rfl | rfl <;> rfl
set_option maxHeartbeats 4000000 in
set_option maxRecDepth 100000 in
theorem mX5_init (l : Launch) (E : EE) (B : Nat) {o : Nat} {f : Nat → va_E} (hf : f o = .inr (5, z5)) : Ct l yX5_init cX5_init 2 none 2 61 40 420 E B [.ref (B + o)] (o + 1) f none (o + 41) (wP f B o E 12 8) := by
  refine mkV (own := RX5) rfl (by decide) rfl (Nat.le_of_ble_eq_true rfl) (fun P_ e_ s_ m_ a_ below meth cd Q X hin2 fin ls hl hJ => ?_)
  have hx := X.1
  have hb := X.2.1
  have hl : lv_has ls 2 [(0, .ref (B + o))] := hl
  have loopC : ∀ (n c : Nat), 8 - c < n → c ≤ 8 → ∀ (H : Heap) (locs : List Loc) (ls : Array Slot) (cells slots : Nat), cells = 16 + 3 * c → slots = 140 + 35 * c → JL E B s_ (o + (17 + 3 * c)) (wP f B o E 12 c) H locs → lv_has ls 2 [(0, .ref (B + o)), (1, .int (nI c))] → W P_ l e_ (rmm 2 61 40 420) s_ m_ a_ below meth cd H locs cells slots Q (F0 m_ 85 ls []) := by
    intro n
    induction n with
    | zero => intro c hm; exact absurd hm (Nat.not_lt_zero _)
    | succ n ih =>
      intro c hm hc H locs ls cells slots e1 e2 hJ hl
      refine lv_iload_n hx hb dX5_init_85 rfl (lv_at hl 1 rfl) ?_
      refine lv_bipush (v := 8) hx hb dX5_init_86 (by decide) ?_
      refine lv_icmp_ge (tgt := 111) hx hb dX5_init_88 (by decide) (fun q => ?_) (fun q => ?_)
      · have hc8 : c = 8 := Nat.le_antisymm hc (ge_lit (n := 8) q (by omega) (by omega))
        subst hc8
        refine W.widen (k := 40) (n := 420) (by omega) (by omega) ?_
        exact fin hJ dX5_init_111
      · have hc8 : c < 8 := lit_lt (n := 8) q (by omega) (by omega)
        have b1 : cells + 1 ≤ 40 := by omega
        have b2 : slots + 11 ≤ 420 := by omega
        have b3 : cells + 1 + 2 ≤ 40 := by omega
        have b4 : slots + 11 + 24 ≤ 420 := by omega
        refine lv_aload_n hx hb dX5_init_91 rfl (lv_at hl 0 rfl) ?_
        refine rget X hJ rfl inT5 2 (by decide) (tw (i := 140) (by decide +kernel) (by decide)) rfl (by omega) wP_0 rfl dX5_init_92 ?_
        refine lv_iload_n hx hb dX5_init_95 rfl (lv_at hl 1 rfl) ?_
        refine rnew X hJ (ci := 1) (fs := z11) rfl inT1 tyX1_ok (tw (i := 34) (by decide +kernel) (by decide)) (tw (i := 89) (by decide +kernel) (by decide)) (tw (i := 13) (by decide +kernel) (by decide)) z11_ok b1 b2 dX5_init_96 (fun H hJ => ?_)
        refine lv_dup hx hb dX5_init_99 rfl ?_
        refine lv_iload_n hx hb dX5_init_100 rfl (lv_at hl 1 rfl) ?_
        refine kX5_46 X hJ (mX1_init l E B (nI c) (by omega) upf rfl) rfl hl.1 ⟨Nat.le_of_ble_eq_true rfl, Nat.le_of_ble_eq_true rfl⟩ ⟨b3, b4⟩ (rest := [.ref (B + (o + (17 + 3 * c))), .int (nI c), .ref (B + (o + 3))]) rfl (Nat.le_of_ble_eq_true rfl) dX5_init_101 (fun H locs hJ => ?_)
        refine rastq X hJ (t0 := 3) (ci := 1) (N := 8) (j := c) rfl rfl (by omega) ((ctF_ne (by omega) (by omega) (by omega)).trans ((upf_ne (by omega)).trans wP_3)) (by omega) (show ctF _ _ _ _ _ _ _ _ = _ from upf) rfl hc8 (by omega) dX5_init_104 (fun H locs hJ => ?_)
        refine lv_iinc (v := nI (c + 1)) (lv' := [(1, .int (nI (c + 1))), (0, .ref (B + o))]) hx hb dX5_init_105 hl (k := 1) rfl (nI_add _ _) (by decide) rfl (fun ls hl => ?_)
        refine lv_goto (tgt := 85) hx hb dX5_init_108 (by decide) ?_
        exact ih (c + 1) (by omega) (by omega) _ _ _ _ _ (by omega) (by omega) (by rw [show o + (17 + 3 * (c + 1)) = o + (17 + 3 * c) + 3 by omega]; exact JL_same (step_C hc8) hJ) (lv_sub hl [1, 0] rfl)
  have loopB : ∀ (n p : Nat), 12 - p < n → p ≤ 12 → ∀ (H : Heap) (locs : List Loc) (ls : Array Slot) (cells slots : Nat), cells = 4 + p → slots = 32 + 9 * p → JL E B s_ (o + (5 + p)) (wP f B o E p 0) H locs → lv_has ls 2 [(0, .ref (B + o)), (1, .int (nI p))] → W P_ l e_ (rmm 2 61 40 420) s_ m_ a_ below meth cd H locs cells slots Q (F0 m_ 57 ls []) := by
    intro n
    induction n with
    | zero => intro c hm; exact absurd hm (Nat.not_lt_zero _)
    | succ n ih =>
      intro p hm hp H locs ls cells slots e1 e2 hJ hl
      refine lv_iload_n hx hb dX5_init_57 rfl (lv_at hl 1 rfl) ?_
      refine lv_bipush (v := 12) hx hb dX5_init_58 (by decide) ?_
      refine lv_icmp_ge (tgt := 83) hx hb dX5_init_60 (by decide) (fun q => ?_) (fun q => ?_)
      · have hp12 : p = 12 := Nat.le_antisymm hp (ge_lit (n := 12) q (by omega) (by omega))
        subst hp12
        refine lv_iconst (v := 0) hx hb dX5_init_83 (by decide) ?_
        refine lv_istore_n (lv' := [(1, .int 0), (0, .ref (B + o))]) hx hb dX5_init_84 rfl hl (by decide) rfl (fun ls hl => ?_)
        exact loopC 9 0 (by omega) (by omega) _ _ _ _ _ (by omega) (by omega) hJ (lv_sub hl [1, 0] rfl)
      · have hp12 : p < 12 := lit_lt (n := 12) q (by omega) (by omega)
        have b1 : cells + 1 ≤ 40 := by omega
        have b2 : slots + 9 ≤ 420 := by omega
        have b3 : cells + 1 + 0 ≤ 40 := by omega
        have b4 : slots + 9 + 0 ≤ 420 := by omega
        refine lv_aload_n hx hb dX5_init_63 rfl (lv_at hl 0 rfl) ?_
        refine rget X hJ rfl inT5 1 (by decide) (tw (i := 139) (by decide +kernel) (by decide)) rfl (by omega) wP_0 rfl dX5_init_64 ?_
        refine lv_iload_n hx hb dX5_init_67 rfl (lv_at hl 1 rfl) ?_
        refine rnew X hJ (ci := 0) (fs := z9) rfl inT0 tyX0_ok (tw (i := 32) (by decide +kernel) (by decide)) (tw (i := 41) (by decide +kernel) (by decide)) (tw (i := 12) (by decide +kernel) (by decide)) z9_ok b1 b2 dX5_init_68 (fun H hJ => ?_)
        refine lv_dup hx hb dX5_init_71 rfl ?_
        refine lv_iload_n hx hb dX5_init_72 rfl (lv_at hl 1 rfl) ?_
        refine kX5_43 X hJ (mX0_init l E B (nI p) (by omega) upf (Nat.le_of_ble_eq_true rfl)) rfl hl.1 ⟨Nat.le_of_ble_eq_true rfl, Nat.le_of_ble_eq_true rfl⟩ ⟨b3, b4⟩ (rest := [.ref (B + (o + (5 + p))), .int (nI p), .ref (B + (o + 2))]) rfl (Nat.le_of_ble_eq_true rfl) dX5_init_73 (fun H locs hJ => ?_)
        refine rastq X hJ (t0 := 2) (ci := 0) (N := 12) (j := p) rfl rfl (by omega) ((upf_ne (by omega)).trans ((upf_ne (by omega)).trans wP_2)) (by omega) upf rfl hp12 (by omega) dX5_init_76 (fun H locs hJ => ?_)
        refine lv_iinc (v := nI (p + 1)) (lv' := [(1, .int (nI (p + 1))), (0, .ref (B + o))]) hx hb dX5_init_77 hl (k := 1) rfl (nI_add _ _) (by decide) rfl (fun ls hl => ?_)
        refine lv_goto (tgt := 57) hx hb dX5_init_80 (by decide) ?_
        exact ih (p + 1) (by omega) (by omega) _ _ _ _ _ (by omega) (by omega) (by rw [show o + (5 + (p + 1)) = o + (5 + p) + 1 by omega]; exact JL_same (step_B hp12) hJ) (lv_sub hl [1, 0] rfl)
  have ne1 : ¬ o = o + 1 := by omega
  have ne2 : ¬ o = o + 2 := by omega
  have ne3 : ¬ o = o + 3 := by omega
  have ne4 : ¬ o = o + 4 := by omega
  refine lv_aload_n hx hb dX5_init_0 rfl (lv_at hl 0 rfl) ?_
  refine kX5_3 X hl.1 ⟨Nat.le_of_ble_eq_true rfl, Nat.le_of_ble_eq_true rfl⟩ ⟨Nat.le_of_ble_eq_true rfl, Nat.le_of_ble_eq_true rfl⟩ (rest := []) dX5_init_1 ?_
  refine lv_aload_n hx hb dX5_init_4 rfl (lv_at hl 0 rfl) ?_
  refine lv_iconst (v := 4) hx hb dX5_init_5 (by decide) ?_
  refine rnewa X hJ (t0 := 0) (N := 4) tw_aI rfl rfl va_nm_int rfl rfl (by decide) (by decide) (Nat.le_of_ble_eq_true rfl) (Nat.le_of_ble_eq_true rfl) dX5_init_6 (fun H hJ => ?_)
  refine rputF X hin2 hJ rfl inT5 tyX5_ok nmX5 0 (by decide) (tw (i := 138) (by decide +kernel) (by decide)) rfl rfl rfl rfl rfl (by omega) ((upf_ne ne1).trans hf) (Nat.le_of_ble_eq_true rfl) dX5_init_8 (fun H locs hJ => ?_)
  have hJ : JL E B s_ (o + 2) (w5a f B o E) H locs := hJ
  refine lv_aload_n hx hb dX5_init_11 rfl (lv_at hl 0 rfl) ?_
  refine lv_bipush (v := 12) hx hb dX5_init_12 (by decide) ?_
  refine ranew X hJ (t0 := 2) (N := 12) (tw (i := 32) (by decide +kernel) (by decide)) X.2.2.2.2.2.2.1.2.2.2.2.2.1 rfl rfl (by decide) (Nat.le_of_ble_eq_true rfl) (Nat.le_of_ble_eq_true rfl) dX5_init_14 (fun H hJ => ?_)
  refine rputF X hin2 hJ rfl inT5 tyX5_ok nmX5 1 (by decide) (tw (i := 139) (by decide +kernel) (by decide)) rfl rfl rfl rfl rfl (by omega) ((upf_ne ne2).trans upf) (Nat.le_of_ble_eq_true rfl) dX5_init_17 (fun H locs hJ => ?_)
  have hJ : JL E B s_ (o + 3) (w5b f B o E) H locs := hJ
  refine lv_aload_n hx hb dX5_init_20 rfl (lv_at hl 0 rfl) ?_
  refine lv_bipush (v := 8) hx hb dX5_init_21 (by decide) ?_
  refine ranew X hJ (t0 := 3) (N := 8) (tw (i := 34) (by decide +kernel) (by decide)) X.2.2.2.2.2.2.1.2.2.2.2.2.2.1 rfl rfl (by decide) (Nat.le_of_ble_eq_true rfl) (Nat.le_of_ble_eq_true rfl) dX5_init_23 (fun H hJ => ?_)
  refine rputF X hin2 hJ rfl inT5 tyX5_ok nmX5 2 (by decide) (tw (i := 140) (by decide +kernel) (by decide)) rfl rfl rfl rfl rfl (by omega) ((upf_ne ne3).trans upf) (Nat.le_of_ble_eq_true rfl) dX5_init_26 (fun H locs hJ => ?_)
  have hJ : JL E B s_ (o + 4) (w5c f B o E) H locs := hJ
  refine lv_aload_n hx hb dX5_init_29 rfl (lv_at hl 0 rfl) ?_
  refine lv_bipush (v := 8) hx hb dX5_init_30 (by decide) ?_
  refine rnewa X hJ (t0 := 0) (N := 8) tw_aI rfl rfl va_nm_int rfl rfl (by decide) (by decide) (Nat.le_of_ble_eq_true rfl) (Nat.le_of_ble_eq_true rfl) dX5_init_32 (fun H hJ => ?_)
  refine rputF X hin2 hJ rfl inT5 tyX5_ok nmX5 3 (by decide) (tw (i := 141) (by decide +kernel) (by decide)) rfl rfl rfl rfl rfl (by omega) ((upf_ne ne4).trans upf) (Nat.le_of_ble_eq_true rfl) dX5_init_34 (fun H locs hJ => ?_)
  have hJ : JL E B s_ (o + 5) (w5d f B o E) H locs := hJ
  refine lv_aload_n hx hb dX5_init_37 rfl (lv_at hl 0 rfl) ?_
  refine lv_iconst (v := 1) hx hb dX5_init_38 (by decide) ?_
  refine rput X hJ rfl inT5 tyX5_ok nmX5 7 (by decide) (tw (i := 145) (by decide +kernel) (by decide)) rfl rfl rfl rfl (by omega) (show w5d _ _ _ _ _ = _ from upf) (Nat.le_of_ble_eq_true rfl) dX5_init_39 (fun H locs hJ => ?_)
  have hJ : JL E B s_ (o + 5) (w5e f B o E) H locs := hJ
  refine rgetsN X hJ X.2.2.2.2.2.2.2.1.1 X.2.2.2.2.2.2.1.1 dX5_init_42 (fun t1 ht1 => ?_)
  refine lv_iconst (v := 0) hx hb dX5_init_45 (by decide) ?_
  refine lv_aload_n hx hb dX5_init_46 rfl (lv_at hl 0 rfl) ?_
  refine rget X hJ rfl inT5 0 (by decide) (tw (i := 138) (by decide +kernel) (by decide)) rfl (by omega) (show w5e _ _ _ _ _ = _ from upf) rfl dX5_init_47 ?_
  refine lv_iconst (v := 0) hx hb dX5_init_50 (by decide) ?_
  refine lv_iconst (v := 4) hx hb dX5_init_51 (by decide) ?_
  refine rcopyS X hJ hl.1.symm ht1 tl_X5_37 tw_cpy_n tw_cpy_s tw_cpy_i (o1 := o + 1) (N1 := 4) (K := 4) (by omega) w5e_1 rfl rfl (by decide) (by decide) (by decide) (Nat.le_of_ble_eq_true rfl) (Nat.le_of_ble_eq_true rfl) dX5_init_52 (fun H locs hJ => ?_)
  have hJ : JL E B s_ (o + 5) (wP f B o E 0 0) H locs := JL_same w5_wP hJ
  refine lv_iconst (v := 0) hx hb dX5_init_55 (by decide) ?_
  refine lv_istore_n (lv' := [(1, .int 0), (0, .ref (B + o))]) hx hb dX5_init_56 rfl hl (by decide) rfl (fun ls hl => ?_)
  exact loopB 13 0 (by omega) (by omega) _ _ _ _ _ rfl rfl hJ (lv_sub hl [1, 0] rfl)
