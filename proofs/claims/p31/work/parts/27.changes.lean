theorem Gn_i2 {β : Type} {c : Prop} {i : Decidable c} {a b : β × GS} (h1 : Gn a.2) (h2 : Gn b.2) : Gn (@ite _ c i a b).2 := by cases i <;> assumption
theorem Gn_iv {c : Prop} {i : Decidable c} {a b : GS} (h1 : Gn a) (h2 : Gn b) : Gn (@ite _ c i a b) := by cases i <;> assumption
theorem Gn_p2 {β : Type} {v : β} {w : GS} (h : Gn w) : Gn (v, w).2 := h
theorem Gn_o2 {β : Type} {o : Option Nat} {a : β × GS} {f : Nat → β × GS} (h1 : Gn a.2) (h2 : ∀ q, Gn (f q).2) : Gn (oe o a f).2 := by
  cases o with
  | none => exact h1
  | some q => exact h2 q
theorem nlt_cnt {c : Int32} {p : Nat} (h : ¬ c ≤ nI p) (hp : p < 2 ^ 31) : p < nn c := by
  rw [Int32.le_iff_toInt_le, nI_toInt hp] at h
  have := nn_toInt (v := c) (by omega)
  omega
theorem nn_b {c : Int32} : nn c < 2 ^ 31 := by
  have h1 := c.toInt_lt
  show c.toInt.toNat < 2 ^ 31
  omega
theorem ngt_lit {p n : Nat} (h : ¬ nI n < nI p) (hn : n < 2 ^ 31) (hp : p < 2 ^ 31) : p ≤ n := by
  rcases Nat.lt_or_ge n p with q | q
  · exact absurd (nI_lt q hp) h
  · exact q
def bX6_bestGuess_65 (g : GS) (x : Int32) (y : Int32) (z : Int32) (v : Int32) : Nat → Nat → Nat → Int32 → Int32 → Nat → Int32
  | 0, _, _, _, _, _ => 0
  | n + 1, q, b, bs, mo, p => if (g.1 0) (20 + 7 * b + 2) ≤ nI p then (if v = 0 then (bs) else (mo)) else (if sX1_numbersNearer (g.1 0) q b (nI p) z ≤ mo then (bX6_bestGuess_65 g x y z v n q b bs mo (p + 1)) else (bX6_bestGuess_65 g x y z v n q b (nI p) (sX1_numbersNearer (g.1 0) q b (nI p) z) (p + 1)))
def sX6_bestGuess (g : GS) (x : Int32) (y : Int32) (z : Int32) (v : Int32) : Int32 := oe (sX5_cartOf (g.1 0) x) (oe (sX5_bridgeOf (g.1 0) y) ((-1)) (fun q2 => (-1))) (fun q1 => oe (sX5_bridgeOf (g.1 0) y) ((-1)) (fun q3 => if sX6_isBelow z ((g.1 0) (20 + 7 * q3 + 2)) = 0 then ((-2)) else (if sX6_isBelow v 2 = 0 then ((-2)) else (bX6_bestGuess_65 g x y z v (nn (g.1 0 (20 + 7 * q3 + 2)) + 1) q1 q3 0 0 0))))
set_option maxHeartbeats 4000000 in
set_option maxRecDepth 100000 in
theorem mX6_bestGuess (l : Launch) (E : EE) (B : Nat) (g : GS) (x : Int32) (y : Int32) (z : Int32) (v : Int32) (hgn : Gn g) : CG l yX6_bestGuess cX6_bestGuess 11 (some .int) 2 45 E B [.ref (B + 0), .int x, .int y, .int z, .int v] g (some (.int (sX6_bestGuess g x y z v))) g := by
  refine mkI (own := RX6) (ty := .int) rfl (by decide) rfl (rfl) (Nat.le_of_ble_eq_true rfl) (fun P_ e_ s_ m_ a_ below meth cd Q X fin ls hl hJ => ?_)
  have hx := X.1
  have hb := X.2.1
  have hl : lv_has ls 11 [(0, .ref (B + 0)), (1, .int x), (2, .int y), (3, .int z), (4, .int v)] := hl
  have bk_65 : ∀ (n : Nat) (q : Nat)  (b : Nat)  (bs : Int32)  (mo : Int32)  (p : Nat), nn (g.1 0 (20 + 7 * b + 2)) - p < n → (q < 8 ∧ b < 12) → (p ≤ nn (g.1 0 (20 + 7 * b + 2))) → ∀ (H : Heap) (locs : List Loc) (ls : Array Slot), JG E B s_ (g) H locs → lv_has ls 11 [(0, .ref (B + 0)), (3, .int z), (4, .int v), (5, .ref (B + (wo 0 + (17 + 3 * q)))), (6, .ref (B + (wo 0 + (5 + b)))), (7, .int bs), (8, .int mo), (9, .int (nI p))] → sX6_bestGuess g x y z v = bX6_bestGuess_65 g x y z v n q b bs mo p → W P_ l e_ (rmm 2 45 0 0) s_ m_ a_ below meth cd H locs 0 0 Q (F0 m_ 65 ls []) := by
    intro n
    induction n with
    | zero => intro q b bs mo p hm; exact absurd hm (Nat.not_lt_zero _)
    | succ n ih =>
      intro q b bs mo p hm hqb hp H locs ls hJ hl hs
      refine lv_iload hx hb dX6_bestGuess_65 (lv_at hl 7 rfl) ?_
      refine lv_aload hx hb dX6_bestGuess_67 (lv_at hl 4 rfl) ?_
      refine gX6_158 X hJ (k := 0) (w := g.1 0) (by omega) (i := b) (by omega)  rfl dX6_bestGuess_69 ?_
      refine lv_icmp_ge (tgt := 108) hx hb dX6_bestGuess_72 (by decide) (fun c_72 => ?_) (fun c_72 => ?_)
      · skip
        refine lv_iload hx hb dX6_bestGuess_108 (lv_at hl 2 rfl) ?_
        refine lv_if_ne (tgt := 118) hx hb dX6_bestGuess_110 (by decide) (fun c_110 => ?_) (fun c_110 => ?_)
        · skip
          refine lv_iload hx hb dX6_bestGuess_118 (lv_at hl 6 rfl) ?_
          have hs : sX6_bestGuess g x y z v = mo := hs.trans (by rw [bX6_bestGuess_65, if_pos c_72, if_neg c_110])
          exact fin hJ (by rw [hs]) dX6_bestGuess_120
        · skip
          refine lv_iload hx hb dX6_bestGuess_113 (lv_at hl 5 rfl) ?_
          refine lv_goto (tgt := 120) hx hb dX6_bestGuess_115 (by decide) ?_
          have hs : sX6_bestGuess g x y z v = bs := hs.trans (by rw [bX6_bestGuess_65, if_pos c_72, if_pos c_110])
          exact fin hJ (by rw [hs]) dX6_bestGuess_120
      · skip
        have hp2 := nlt_cnt c_72 (by have := nn_b (c := g.1 0 (20 + 7 * b + 2)); omega)
        refine lv_aload hx hb dX6_bestGuess_75 (lv_at hl 3 rfl) ?_
        refine lv_aload hx hb dX6_bestGuess_77 (lv_at hl 4 rfl) ?_
        refine lv_iload hx hb dX6_bestGuess_79 (lv_at hl 7 rfl) ?_
        refine lv_iload_n hx hb dX6_bestGuess_81 rfl (lv_at hl 1 rfl) ?_
        refine kX6_161 X hJ (mX1_numbersNearer l E B _ 0 q b (nI p) z (g.1 0) (by omega) (by omega) (by omega) rfl) rfl (lt_W (by omega) (by omega)) (at_C (by omega) (by omega) rfl) hl.1 ⟨Nat.le_of_ble_eq_true rfl, Nat.le_of_ble_eq_true rfl⟩ ⟨Nat.le_refl _, Nat.le_refl _⟩ (rest := []) rfl (Nat.le_of_ble_eq_true rfl) dX6_bestGuess_82 (fun H locs hJ => ?_)
        refine lv_istore (lv' := [(10, .int (sX1_numbersNearer (g.1 0) q b (nI p) z)), (0, .ref (B + 0)), (3, .int z), (4, .int v), (5, .ref (B + (wo 0 + (17 + 3 * q)))), (6, .ref (B + (wo 0 + (5 + b)))), (7, .int bs), (8, .int mo), (9, .int (nI p))]) hx hb dX6_bestGuess_85 hl (by decide) rfl (fun ls hl => ?_)
        refine lv_iload hx hb dX6_bestGuess_87 (lv_at hl 0 rfl) ?_
        refine lv_iload hx hb dX6_bestGuess_89 (lv_at hl 7 rfl) ?_
        refine lv_icmp_le (tgt := 102) hx hb dX6_bestGuess_91 (by decide) (fun c_91 => ?_) (fun c_91 => ?_)
        · skip
          refine lv_iinc (v := nI (p + 1)) (lv' := [(9, .int (nI (p + 1))), (10, .int (sX1_numbersNearer (g.1 0) q b (nI p) z)), (0, .ref (B + 0)), (3, .int z), (4, .int v), (5, .ref (B + (wo 0 + (17 + 3 * q)))), (6, .ref (B + (wo 0 + (5 + b)))), (7, .int bs), (8, .int mo)]) hx hb dX6_bestGuess_102 hl (k := 8) rfl (by first | exact nI_add _ _ | rfl) (by decide) rfl (fun ls hl => ?_)
          refine lv_goto (tgt := 65) hx hb dX6_bestGuess_105 (by decide) ?_
          have hs : sX6_bestGuess g x y z v = bX6_bestGuess_65 g x y z v n q b bs mo (p + 1) := hs.trans (by rw [bX6_bestGuess_65, if_neg c_72, if_pos c_91])
          exact ih q b bs mo (p + 1) (by omega) (hqb) (by omega) _ _ _ hJ (lv_sub hl [2, 3, 4, 5, 6, 7, 8, 0] rfl) hs
        · skip
          refine lv_iload hx hb dX6_bestGuess_94 (lv_at hl 8 rfl) ?_
          refine lv_istore (lv' := [(7, .int (nI p)), (10, .int (sX1_numbersNearer (g.1 0) q b (nI p) z)), (0, .ref (B + 0)), (3, .int z), (4, .int v), (5, .ref (B + (wo 0 + (17 + 3 * q)))), (6, .ref (B + (wo 0 + (5 + b)))), (8, .int mo), (9, .int (nI p))]) hx hb dX6_bestGuess_96 hl (by decide) rfl (fun ls hl => ?_)
          refine lv_iload hx hb dX6_bestGuess_98 (lv_at hl 1 rfl) ?_
          refine lv_istore (lv' := [(8, .int (sX1_numbersNearer (g.1 0) q b (nI p) z)), (7, .int (nI p)), (10, .int (sX1_numbersNearer (g.1 0) q b (nI p) z)), (0, .ref (B + 0)), (3, .int z), (4, .int v), (5, .ref (B + (wo 0 + (17 + 3 * q)))), (6, .ref (B + (wo 0 + (5 + b)))), (9, .int (nI p))]) hx hb dX6_bestGuess_100 hl (by decide) rfl (fun ls hl => ?_)
          refine lv_iinc (v := nI (p + 1)) (lv' := [(9, .int (nI (p + 1))), (8, .int (sX1_numbersNearer (g.1 0) q b (nI p) z)), (7, .int (nI p)), (10, .int (sX1_numbersNearer (g.1 0) q b (nI p) z)), (0, .ref (B + 0)), (3, .int z), (4, .int v), (5, .ref (B + (wo 0 + (17 + 3 * q)))), (6, .ref (B + (wo 0 + (5 + b))))]) hx hb dX6_bestGuess_102 hl (k := 8) rfl (by first | exact nI_add _ _ | rfl) (by decide) rfl (fun ls hl => ?_)
          refine lv_goto (tgt := 65) hx hb dX6_bestGuess_105 (by decide) ?_
          have hs : sX6_bestGuess g x y z v = bX6_bestGuess_65 g x y z v n q b (nI p) (sX1_numbersNearer (g.1 0) q b (nI p) z) (p + 1) := hs.trans (by rw [bX6_bestGuess_65, if_neg c_72, if_neg c_91])
          exact ih q b (nI p) (sX1_numbersNearer (g.1 0) q b (nI p) z) (p + 1) (by omega) (hqb) (by omega) _ _ _ hJ (lv_sub hl [4, 5, 6, 7, 8, 2, 1, 0] rfl) hs
  refine lv_aload_n hx hb dX6_bestGuess_0 rfl (lv_at hl 0 rfl) ?_
  refine gX6_10 X hJ  dX6_bestGuess_1 ?_
  refine lv_iload_n hx hb dX6_bestGuess_4 rfl (lv_at hl 1 rfl) ?_
  refine kX6_81 X hJ (mX5_cartOf l E B _ 0 x (g.1 0) (by omega) rfl ((hgn).1 0 (by omega))) rfl (lt_W0 (by omega)) (at_W (by omega) rfl) hl.1 ⟨Nat.le_of_ble_eq_true rfl, Nat.le_of_ble_eq_true rfl⟩ ⟨Nat.le_refl _, Nat.le_refl _⟩ (rest := []) rfl (Nat.le_of_ble_eq_true rfl) dX6_bestGuess_5 (fun H locs hJ => ?_)
  rcases o_5 : sX5_cartOf (g.1 0) x with _ | q1
  · skip
    refine lv_astoreN (lv' := [(5, .null), (0, .ref (B + 0)), (1, .int x), (2, .int y), (3, .int z), (4, .int v)]) hx hb dX6_bestGuess_8 hl (by decide) rfl (fun ls hl => ?_)
    refine lv_aload_n hx hb dX6_bestGuess_10 rfl (lv_at hl 1 rfl) ?_
    refine gX6_10 X hJ  dX6_bestGuess_11 ?_
    refine lv_iload_n hx hb dX6_bestGuess_14 rfl (lv_at hl 3 rfl) ?_
    refine kX6_96 X hJ (mX5_bridgeOf l E B _ 0 y (g.1 0) (by omega) rfl ((hgn).1 0 (by omega))) rfl (lt_W0 (by omega)) (at_W (by omega) rfl) hl.1 ⟨Nat.le_of_ble_eq_true rfl, Nat.le_of_ble_eq_true rfl⟩ ⟨Nat.le_refl _, Nat.le_refl _⟩ (rest := []) rfl (Nat.le_of_ble_eq_true rfl) dX6_bestGuess_15 (fun H locs hJ => ?_)
    rcases o_15 : sX5_bridgeOf (g.1 0) y with _ | q2
    · skip
      refine lv_astoreN (lv' := [(6, .null), (5, .null), (0, .ref (B + 0)), (1, .int x), (2, .int y), (3, .int z), (4, .int v)]) hx hb dX6_bestGuess_18 hl (by decide) rfl (fun ls hl => ?_)
      refine lv_aloadN hx hb dX6_bestGuess_20 (lv_at hl 1 rfl) ?_
      refine lv_ifnullN (tgt := 30) hx hb dX6_bestGuess_22 (by decide) ?_
      refine lv_iconst (v := (-1)) hx hb dX6_bestGuess_30 (by decide) ?_
      have hs : sX6_bestGuess g x y z v = (-1) := by unfold sX6_bestGuess; rw [oe_none o_5, oe_none o_15]
      exact fin hJ (by rw [hs]) dX6_bestGuess_31
    · skip
      obtain ⟨hq2, xq2, yq2⟩ := bridgeOf_some ((hgn).1 0 (by omega)) o_15
      refine lv_astore (lv' := [(6, .ref (B + (wo 0 + (5 + q2)))), (5, .null), (0, .ref (B + 0)), (1, .int x), (2, .int y), (3, .int z), (4, .int v)]) hx hb dX6_bestGuess_18 hl (by decide) rfl (fun ls hl => ?_)
      refine lv_aloadN hx hb dX6_bestGuess_20 (lv_at hl 1 rfl) ?_
      refine lv_ifnullN (tgt := 30) hx hb dX6_bestGuess_22 (by decide) ?_
      refine lv_iconst (v := (-1)) hx hb dX6_bestGuess_30 (by decide) ?_
      have hs : sX6_bestGuess g x y z v = (-1) := by unfold sX6_bestGuess; rw [oe_none o_5, oe_some o_15]
      exact fin hJ (by rw [hs]) dX6_bestGuess_31
  · skip
    obtain ⟨hq1, xq1, yq1⟩ := cartOf_some ((hgn).1 0 (by omega)) o_5
    refine lv_astore (lv' := [(5, .ref (B + (wo 0 + (17 + 3 * q1)))), (0, .ref (B + 0)), (1, .int x), (2, .int y), (3, .int z), (4, .int v)]) hx hb dX6_bestGuess_8 hl (by decide) rfl (fun ls hl => ?_)
    refine lv_aload_n hx hb dX6_bestGuess_10 rfl (lv_at hl 1 rfl) ?_
    refine gX6_10 X hJ  dX6_bestGuess_11 ?_
    refine lv_iload_n hx hb dX6_bestGuess_14 rfl (lv_at hl 3 rfl) ?_
    refine kX6_96 X hJ (mX5_bridgeOf l E B _ 0 y (g.1 0) (by omega) rfl ((hgn).1 0 (by omega))) rfl (lt_W0 (by omega)) (at_W (by omega) rfl) hl.1 ⟨Nat.le_of_ble_eq_true rfl, Nat.le_of_ble_eq_true rfl⟩ ⟨Nat.le_refl _, Nat.le_refl _⟩ (rest := []) rfl (Nat.le_of_ble_eq_true rfl) dX6_bestGuess_15 (fun H locs hJ => ?_)
    rcases o_15 : sX5_bridgeOf (g.1 0) y with _ | q3
    · skip
      refine lv_astoreN (lv' := [(6, .null), (5, .ref (B + (wo 0 + (17 + 3 * q1)))), (0, .ref (B + 0)), (1, .int x), (2, .int y), (3, .int z), (4, .int v)]) hx hb dX6_bestGuess_18 hl (by decide) rfl (fun ls hl => ?_)
      refine lv_aload hx hb dX6_bestGuess_20 (lv_at hl 1 rfl) ?_
      refine lv_ifnull hx hb dX6_bestGuess_22 ?_
      refine lv_aloadN hx hb dX6_bestGuess_25 (lv_at hl 0 rfl) ?_
      refine lv_ifnonnullN hx hb dX6_bestGuess_27 ?_
      refine lv_iconst (v := (-1)) hx hb dX6_bestGuess_30 (by decide) ?_
      have hs : sX6_bestGuess g x y z v = (-1) := by unfold sX6_bestGuess; rw [oe_some o_5, oe_none o_15]
      exact fin hJ (by rw [hs]) dX6_bestGuess_31
    · skip
      obtain ⟨hq3, xq3, yq3⟩ := bridgeOf_some ((hgn).1 0 (by omega)) o_15
      refine lv_astore (lv' := [(6, .ref (B + (wo 0 + (5 + q3)))), (5, .ref (B + (wo 0 + (17 + 3 * q1)))), (0, .ref (B + 0)), (1, .int x), (2, .int y), (3, .int z), (4, .int v)]) hx hb dX6_bestGuess_18 hl (by decide) rfl (fun ls hl => ?_)
      refine lv_aload hx hb dX6_bestGuess_20 (lv_at hl 1 rfl) ?_
      refine lv_ifnull hx hb dX6_bestGuess_22 ?_
      refine lv_aload hx hb dX6_bestGuess_25 (lv_at hl 0 rfl) ?_
      refine lv_ifnonnull (tgt := 32) hx hb dX6_bestGuess_27 (by decide) ?_
      refine lv_iload_n hx hb dX6_bestGuess_32 rfl (lv_at hl 5 rfl) ?_
      refine lv_aload hx hb dX6_bestGuess_33 (lv_at hl 0 rfl) ?_
      refine gX6_158 X hJ (k := 0) (w := g.1 0) (by omega) (i := q3) (by omega)  rfl dX6_bestGuess_35 ?_
      refine kX6_100 X hJ (mX6_isBelow l E B _ z ((g.1 0) (20 + 7 * q3 + 2))) rfl hl.1 ⟨Nat.le_of_ble_eq_true rfl, Nat.le_of_ble_eq_true rfl⟩ ⟨Nat.le_refl _, Nat.le_refl _⟩ (rest := []) rfl (Nat.le_of_ble_eq_true rfl) dX6_bestGuess_38 (fun H locs hJ => ?_)
      refine lv_if_eq (tgt := 53) hx hb dX6_bestGuess_41 (by decide) (fun c_41 => ?_) (fun c_41 => ?_)
      · skip
        refine lv_bipush (v := (-2)) hx hb dX6_bestGuess_53 (by decide) ?_
        have hs : sX6_bestGuess g x y z v = (-2) := by unfold sX6_bestGuess; rw [oe_some o_5, oe_some o_15, if_pos c_41]
        exact fin hJ (by rw [hs]) dX6_bestGuess_55
      · skip
        refine lv_iload hx hb dX6_bestGuess_44 (lv_at hl 6 rfl) ?_
        refine lv_iconst (v := 2) hx hb dX6_bestGuess_46 (by decide) ?_
        refine kX6_100 X hJ (mX6_isBelow l E B _ v 2) rfl hl.1 ⟨Nat.le_of_ble_eq_true rfl, Nat.le_of_ble_eq_true rfl⟩ ⟨Nat.le_refl _, Nat.le_refl _⟩ (rest := []) rfl (Nat.le_of_ble_eq_true rfl) dX6_bestGuess_47 (fun H locs hJ => ?_)
        refine lv_if_ne (tgt := 56) hx hb dX6_bestGuess_50 (by decide) (fun c_50 => ?_) (fun c_50 => ?_)
        · skip
          refine lv_iconst (v := 0) hx hb dX6_bestGuess_56 (by decide) ?_
          refine lv_istore (lv' := [(7, .int 0), (6, .ref (B + (wo 0 + (5 + q3)))), (5, .ref (B + (wo 0 + (17 + 3 * q1)))), (0, .ref (B + 0)), (1, .int x), (2, .int y), (3, .int z), (4, .int v)]) hx hb dX6_bestGuess_57 hl (by decide) rfl (fun ls hl => ?_)
          refine lv_iconst (v := 0) hx hb dX6_bestGuess_59 (by decide) ?_
          refine lv_istore (lv' := [(8, .int 0), (7, .int 0), (6, .ref (B + (wo 0 + (5 + q3)))), (5, .ref (B + (wo 0 + (17 + 3 * q1)))), (0, .ref (B + 0)), (1, .int x), (2, .int y), (3, .int z), (4, .int v)]) hx hb dX6_bestGuess_60 hl (by decide) rfl (fun ls hl => ?_)
          refine lv_iconst (v := 0) hx hb dX6_bestGuess_62 (by decide) ?_
          refine lv_istore (lv' := [(9, .int 0), (8, .int 0), (7, .int 0), (6, .ref (B + (wo 0 + (5 + q3)))), (5, .ref (B + (wo 0 + (17 + 3 * q1)))), (0, .ref (B + 0)), (1, .int x), (2, .int y), (3, .int z), (4, .int v)]) hx hb dX6_bestGuess_63 hl (by decide) rfl (fun ls hl => ?_)
          have hs : sX6_bestGuess g x y z v = bX6_bestGuess_65 g x y z v (nn (g.1 0 (20 + 7 * q3 + 2)) + 1) q1 q3 0 0 0 := by unfold sX6_bestGuess; rw [oe_some o_5, oe_some o_15, if_neg c_41, if_neg c_50]
          exact bk_65 (nn (g.1 0 (20 + 7 * q3 + 2)) + 1) q1 q3 0 0 0 (by omega) (by omega) (by omega) _ _ _ hJ (lv_sub hl [5, 8, 9, 4, 3, 2, 1, 0] rfl) hs
        · skip
          refine lv_bipush (v := (-2)) hx hb dX6_bestGuess_53 (by decide) ?_
          have hs : sX6_bestGuess g x y z v = (-2) := by unfold sX6_bestGuess; rw [oe_some o_5, oe_some o_15, if_neg c_41, if_pos c_50]
          exact fin hJ (by rw [hs]) dX6_bestGuess_55

def sX6_set (g : GS) (x : Int32) (y : Int32) : Int32 × GS := ((sX6_recorded (upW (sX2_note g) 0 (sX5_changeSetting ((sX2_note g).1 0) x y).2) ((sX5_changeSetting ((sX2_note g).1 0) x y).1)).1, (sX6_recorded (upW (sX2_note g) 0 (sX5_changeSetting ((sX2_note g).1 0) x y).2) ((sX5_changeSetting ((sX2_note g).1 0) x y).1)).2)
set_option maxHeartbeats 4000000 in
set_option maxRecDepth 100000 in
theorem mX6_set (l : Launch) (E : EE) (B : Nat) (g : GS) (x : Int32) (y : Int32) (hgn : Gn g) : CG l yX6_set cX6_set 3 (some .int) 4 104 E B [.ref (B + 0), .int x, .int y] g (some (.int (sX6_set g x y).1)) ((sX6_set g x y).2) := by
  refine mkI (own := RX6) (ty := .int) rfl (by decide) rfl (rfl) (Nat.le_of_ble_eq_true rfl) (fun P_ e_ s_ m_ a_ below meth cd Q X fin ls hl hJ => ?_)
  have hx := X.1
  have hb := X.2.1
  have hl : lv_has ls 3 [(0, .ref (B + 0)), (1, .int x), (2, .int y)] := hl
  refine lv_aload_n hx hb dX6_set_0 rfl (lv_at hl 0 rfl) ?_
  refine gX6_22 X hJ  dX6_set_1 ?_
  refine lv_aload_n hx hb dX6_set_4 rfl (lv_at hl 0 rfl) ?_
  refine gX6_10 X hJ  dX6_set_5 ?_
  refine kX6_50 X hJ (mX2_note l E B g (hgn)) rfl (by omega) (at_H rfl) hl.1 ⟨Nat.le_of_ble_eq_true rfl, Nat.le_of_ble_eq_true rfl⟩ ⟨Nat.le_refl _, Nat.le_refl _⟩ (rest := []) rfl (Nat.le_of_ble_eq_true rfl) dX6_set_8 (fun H locs hJ => ?_)
  refine lv_aload_n hx hb dX6_set_11 rfl (lv_at hl 0 rfl) ?_
  refine lv_aload_n hx hb dX6_set_12 rfl (lv_at hl 0 rfl) ?_
  refine gX6_10 X hJ  dX6_set_13 ?_
  refine lv_iload_n hx hb dX6_set_16 rfl (lv_at hl 1 rfl) ?_
  refine lv_iload_n hx hb dX6_set_17 rfl (lv_at hl 2 rfl) ?_
  refine kX6_54 X hJ (by have h := mX5_changeSetting l E B (sX2_note g) 0 x y ((sX2_note g).1 0) (by omega) ; rw [upW_self] at h; exact h) rfl (lt_W0 (by omega)) (at_W (by omega) rfl) hl.1 ⟨Nat.le_of_ble_eq_true rfl, Nat.le_of_ble_eq_true rfl⟩ ⟨Nat.le_refl _, Nat.le_refl _⟩ (rest := [.ref (B + 0)]) rfl (Nat.le_of_ble_eq_true rfl) dX6_set_18 (fun H locs hJ => ?_)
  refine kX6_58 X hJ (mX6_recorded l E B (upW (sX2_note g) 0 (sX5_changeSetting ((sX2_note g).1 0) x y).2) ((sX5_changeSetting ((sX2_note g).1 0) x y).1)) rfl (by omega) at_X hl.1 ⟨Nat.le_of_ble_eq_true rfl, Nat.le_of_ble_eq_true rfl⟩ ⟨Nat.le_refl _, Nat.le_refl _⟩ (rest := []) rfl (Nat.le_of_ble_eq_true rfl) dX6_set_21 (fun H locs hJ => ?_)
  have hs : sX6_set g x y = ((sX6_recorded (upW (sX2_note g) 0 (sX5_changeSetting ((sX2_note g).1 0) x y).2) ((sX5_changeSetting ((sX2_note g).1 0) x y).1)).1, (sX6_recorded (upW (sX2_note g) 0 (sX5_changeSetting ((sX2_note g).1 0) x y).2) ((sX5_changeSetting ((sX2_note g).1 0) x y).1)).2) := by unfold sX6_set; rfl
  exact fin (by rw [hs]; dsimp only; exact hJ) (by rw [hs]) dX6_set_24

def sX6_bridge (g : GS) (x : Int32) (y : Int32) (z : Int32) : Int32 × GS := ((sX6_recorded (upW (sX2_note g) 0 (sX5_addBridge ((sX2_note g).1 0) x y z).2) ((sX5_addBridge ((sX2_note g).1 0) x y z).1)).1, (sX6_recorded (upW (sX2_note g) 0 (sX5_addBridge ((sX2_note g).1 0) x y z).2) ((sX5_addBridge ((sX2_note g).1 0) x y z).1)).2)
set_option maxHeartbeats 4000000 in
set_option maxRecDepth 100000 in
theorem mX6_bridge (l : Launch) (E : EE) (B : Nat) (g : GS) (x : Int32) (y : Int32) (z : Int32) (hgn : Gn g) : CG l yX6_bridge cX6_bridge 4 (some .int) 4 104 E B [.ref (B + 0), .int x, .int y, .int z] g (some (.int (sX6_bridge g x y z).1)) ((sX6_bridge g x y z).2) := by
  refine mkI (own := RX6) (ty := .int) rfl (by decide) rfl (rfl) (Nat.le_of_ble_eq_true rfl) (fun P_ e_ s_ m_ a_ below meth cd Q X fin ls hl hJ => ?_)
  have hx := X.1
  have hb := X.2.1
  have hl : lv_has ls 4 [(0, .ref (B + 0)), (1, .int x), (2, .int y), (3, .int z)] := hl
  refine lv_aload_n hx hb dX6_bridge_0 rfl (lv_at hl 0 rfl) ?_
  refine gX6_22 X hJ  dX6_bridge_1 ?_
  refine lv_aload_n hx hb dX6_bridge_4 rfl (lv_at hl 0 rfl) ?_
  refine gX6_10 X hJ  dX6_bridge_5 ?_
  refine kX6_50 X hJ (mX2_note l E B g (hgn)) rfl (by omega) (at_H rfl) hl.1 ⟨Nat.le_of_ble_eq_true rfl, Nat.le_of_ble_eq_true rfl⟩ ⟨Nat.le_refl _, Nat.le_refl _⟩ (rest := []) rfl (Nat.le_of_ble_eq_true rfl) dX6_bridge_8 (fun H locs hJ => ?_)
  refine lv_aload_n hx hb dX6_bridge_11 rfl (lv_at hl 0 rfl) ?_
  refine lv_aload_n hx hb dX6_bridge_12 rfl (lv_at hl 0 rfl) ?_
  refine gX6_10 X hJ  dX6_bridge_13 ?_
  refine lv_iload_n hx hb dX6_bridge_16 rfl (lv_at hl 1 rfl) ?_
  refine lv_iload_n hx hb dX6_bridge_17 rfl (lv_at hl 2 rfl) ?_
  refine lv_iload_n hx hb dX6_bridge_18 rfl (lv_at hl 3 rfl) ?_
  refine kX6_62 X hJ (by have h := mX5_addBridge l E B (sX2_note g) 0 x y z ((sX2_note g).1 0) (by omega) ((Gn_note (hgn)).1 0 (by omega)); rw [upW_self] at h; exact h) rfl (lt_W0 (by omega)) (at_W (by omega) rfl) hl.1 ⟨Nat.le_of_ble_eq_true rfl, Nat.le_of_ble_eq_true rfl⟩ ⟨Nat.le_refl _, Nat.le_refl _⟩ (rest := [.ref (B + 0)]) rfl (Nat.le_of_ble_eq_true rfl) dX6_bridge_19 (fun H locs hJ => ?_)
  refine kX6_58 X hJ (mX6_recorded l E B (upW (sX2_note g) 0 (sX5_addBridge ((sX2_note g).1 0) x y z).2) ((sX5_addBridge ((sX2_note g).1 0) x y z).1)) rfl (by omega) at_X hl.1 ⟨Nat.le_of_ble_eq_true rfl, Nat.le_of_ble_eq_true rfl⟩ ⟨Nat.le_refl _, Nat.le_refl _⟩ (rest := []) rfl (Nat.le_of_ble_eq_true rfl) dX6_bridge_22 (fun H locs hJ => ?_)
  have hs : sX6_bridge g x y z = ((sX6_recorded (upW (sX2_note g) 0 (sX5_addBridge ((sX2_note g).1 0) x y z).2) ((sX5_addBridge ((sX2_note g).1 0) x y z).1)).1, (sX6_recorded (upW (sX2_note g) 0 (sX5_addBridge ((sX2_note g).1 0) x y z).2) ((sX5_addBridge ((sX2_note g).1 0) x y z).1)).2) := by unfold sX6_bridge; rfl
  exact fin (by rw [hs]; dsimp only; exact hJ) (by rw [hs]) dX6_bridge_25

def sX6_cart (g : GS) (x : Int32) (y : Int32) : Int32 × GS := ((sX6_recorded (upW (sX2_note g) 0 (sX5_addCart ((sX2_note g).1 0) x y).2) ((sX5_addCart ((sX2_note g).1 0) x y).1)).1, (sX6_recorded (upW (sX2_note g) 0 (sX5_addCart ((sX2_note g).1 0) x y).2) ((sX5_addCart ((sX2_note g).1 0) x y).1)).2)
set_option maxHeartbeats 4000000 in
set_option maxRecDepth 100000 in
theorem mX6_cart (l : Launch) (E : EE) (B : Nat) (g : GS) (x : Int32) (y : Int32) (hgn : Gn g) : CG l yX6_cart cX6_cart 3 (some .int) 4 104 E B [.ref (B + 0), .int x, .int y] g (some (.int (sX6_cart g x y).1)) ((sX6_cart g x y).2) := by
  refine mkI (own := RX6) (ty := .int) rfl (by decide) rfl (rfl) (Nat.le_of_ble_eq_true rfl) (fun P_ e_ s_ m_ a_ below meth cd Q X fin ls hl hJ => ?_)
  have hx := X.1
  have hb := X.2.1
  have hl : lv_has ls 3 [(0, .ref (B + 0)), (1, .int x), (2, .int y)] := hl
  refine lv_aload_n hx hb dX6_cart_0 rfl (lv_at hl 0 rfl) ?_
  refine gX6_22 X hJ  dX6_cart_1 ?_
  refine lv_aload_n hx hb dX6_cart_4 rfl (lv_at hl 0 rfl) ?_
  refine gX6_10 X hJ  dX6_cart_5 ?_
  refine kX6_50 X hJ (mX2_note l E B g (hgn)) rfl (by omega) (at_H rfl) hl.1 ⟨Nat.le_of_ble_eq_true rfl, Nat.le_of_ble_eq_true rfl⟩ ⟨Nat.le_refl _, Nat.le_refl _⟩ (rest := []) rfl (Nat.le_of_ble_eq_true rfl) dX6_cart_8 (fun H locs hJ => ?_)
  refine lv_aload_n hx hb dX6_cart_11 rfl (lv_at hl 0 rfl) ?_
  refine lv_aload_n hx hb dX6_cart_12 rfl (lv_at hl 0 rfl) ?_
  refine gX6_10 X hJ  dX6_cart_13 ?_
  refine lv_iload_n hx hb dX6_cart_16 rfl (lv_at hl 1 rfl) ?_
  refine lv_iload_n hx hb dX6_cart_17 rfl (lv_at hl 2 rfl) ?_
  refine kX6_66 X hJ (by have h := mX5_addCart l E B (sX2_note g) 0 x y ((sX2_note g).1 0) (by omega) ((Gn_note (hgn)).1 0 (by omega)); rw [upW_self] at h; exact h) rfl (lt_W0 (by omega)) (at_W (by omega) rfl) hl.1 ⟨Nat.le_of_ble_eq_true rfl, Nat.le_of_ble_eq_true rfl⟩ ⟨Nat.le_refl _, Nat.le_refl _⟩ (rest := [.ref (B + 0)]) rfl (Nat.le_of_ble_eq_true rfl) dX6_cart_18 (fun H locs hJ => ?_)
  refine kX6_58 X hJ (mX6_recorded l E B (upW (sX2_note g) 0 (sX5_addCart ((sX2_note g).1 0) x y).2) ((sX5_addCart ((sX2_note g).1 0) x y).1)) rfl (by omega) at_X hl.1 ⟨Nat.le_of_ble_eq_true rfl, Nat.le_of_ble_eq_true rfl⟩ ⟨Nat.le_refl _, Nat.le_refl _⟩ (rest := []) rfl (Nat.le_of_ble_eq_true rfl) dX6_cart_21 (fun H locs hJ => ?_)
  have hs : sX6_cart g x y = ((sX6_recorded (upW (sX2_note g) 0 (sX5_addCart ((sX2_note g).1 0) x y).2) ((sX5_addCart ((sX2_note g).1 0) x y).1)).1, (sX6_recorded (upW (sX2_note g) 0 (sX5_addCart ((sX2_note g).1 0) x y).2) ((sX5_addCart ((sX2_note g).1 0) x y).1)).2) := by unfold sX6_cart; rfl
  exact fin (by rw [hs]; dsimp only; exact hJ) (by rw [hs]) dX6_cart_24

def sX6_guess (g : GS) (x : Int32) (y : Int32) (z : Int32) : Int32 × GS := ((sX6_recorded (upW (sX2_note g) 0 (sX5_comeToWait ((sX2_note g).1 0) x y z).2) ((sX5_comeToWait ((sX2_note g).1 0) x y z).1)).1, (sX6_recorded (upW (sX2_note g) 0 (sX5_comeToWait ((sX2_note g).1 0) x y z).2) ((sX5_comeToWait ((sX2_note g).1 0) x y z).1)).2)
set_option maxHeartbeats 4000000 in
set_option maxRecDepth 100000 in
theorem mX6_guess (l : Launch) (E : EE) (B : Nat) (g : GS) (x : Int32) (y : Int32) (z : Int32) (hgn : Gn g) : CG l yX6_guess cX6_guess 4 (some .int) 4 104 E B [.ref (B + 0), .int x, .int y, .int z] g (some (.int (sX6_guess g x y z).1)) ((sX6_guess g x y z).2) := by
  refine mkI (own := RX6) (ty := .int) rfl (by decide) rfl (rfl) (Nat.le_of_ble_eq_true rfl) (fun P_ e_ s_ m_ a_ below meth cd Q X fin ls hl hJ => ?_)
  have hx := X.1
  have hb := X.2.1
  have hl : lv_has ls 4 [(0, .ref (B + 0)), (1, .int x), (2, .int y), (3, .int z)] := hl
  refine lv_aload_n hx hb dX6_guess_0 rfl (lv_at hl 0 rfl) ?_
  refine gX6_22 X hJ  dX6_guess_1 ?_
  refine lv_aload_n hx hb dX6_guess_4 rfl (lv_at hl 0 rfl) ?_
  refine gX6_10 X hJ  dX6_guess_5 ?_
  refine kX6_50 X hJ (mX2_note l E B g (hgn)) rfl (by omega) (at_H rfl) hl.1 ⟨Nat.le_of_ble_eq_true rfl, Nat.le_of_ble_eq_true rfl⟩ ⟨Nat.le_refl _, Nat.le_refl _⟩ (rest := []) rfl (Nat.le_of_ble_eq_true rfl) dX6_guess_8 (fun H locs hJ => ?_)
  refine lv_aload_n hx hb dX6_guess_11 rfl (lv_at hl 0 rfl) ?_
  refine lv_aload_n hx hb dX6_guess_12 rfl (lv_at hl 0 rfl) ?_
  refine gX6_10 X hJ  dX6_guess_13 ?_
  refine lv_iload_n hx hb dX6_guess_16 rfl (lv_at hl 1 rfl) ?_
  refine lv_iload_n hx hb dX6_guess_17 rfl (lv_at hl 2 rfl) ?_
  refine lv_iload_n hx hb dX6_guess_18 rfl (lv_at hl 3 rfl) ?_
  refine kX6_69 X hJ (by have h := mX5_comeToWait l E B (sX2_note g) 0 x y z ((sX2_note g).1 0) (by omega) ((Gn_note (hgn)).1 0 (by omega)); rw [upW_self] at h; exact h) rfl (lt_W0 (by omega)) (at_W (by omega) rfl) hl.1 ⟨Nat.le_of_ble_eq_true rfl, Nat.le_of_ble_eq_true rfl⟩ ⟨Nat.le_refl _, Nat.le_refl _⟩ (rest := [.ref (B + 0)]) rfl (Nat.le_of_ble_eq_true rfl) dX6_guess_19 (fun H locs hJ => ?_)
  refine kX6_58 X hJ (mX6_recorded l E B (upW (sX2_note g) 0 (sX5_comeToWait ((sX2_note g).1 0) x y z).2) ((sX5_comeToWait ((sX2_note g).1 0) x y z).1)) rfl (by omega) at_X hl.1 ⟨Nat.le_of_ble_eq_true rfl, Nat.le_of_ble_eq_true rfl⟩ ⟨Nat.le_refl _, Nat.le_refl _⟩ (rest := []) rfl (Nat.le_of_ble_eq_true rfl) dX6_guess_22 (fun H locs hJ => ?_)
  have hs : sX6_guess g x y z = ((sX6_recorded (upW (sX2_note g) 0 (sX5_comeToWait ((sX2_note g).1 0) x y z).2) ((sX5_comeToWait ((sX2_note g).1 0) x y z).1)).1, (sX6_recorded (upW (sX2_note g) 0 (sX5_comeToWait ((sX2_note g).1 0) x y z).2) ((sX5_comeToWait ((sX2_note g).1 0) x y z).1)).2) := by unfold sX6_guess; rfl
  exact fin (by rw [hs]; dsimp only; exact hJ) (by rw [hs]) dX6_guess_25

def sX6_leave (g : GS) (x : Int32) : Int32 × GS := ((sX6_recorded (upW (sX2_note g) 0 (sX5_stopWaiting ((sX2_note g).1 0) x).2) ((sX5_stopWaiting ((sX2_note g).1 0) x).1)).1, (sX6_recorded (upW (sX2_note g) 0 (sX5_stopWaiting ((sX2_note g).1 0) x).2) ((sX5_stopWaiting ((sX2_note g).1 0) x).1)).2)
set_option maxHeartbeats 4000000 in
set_option maxRecDepth 100000 in
theorem mX6_leave (l : Launch) (E : EE) (B : Nat) (g : GS) (x : Int32) (hgn : Gn g) : CG l yX6_leave cX6_leave 2 (some .int) 4 104 E B [.ref (B + 0), .int x] g (some (.int (sX6_leave g x).1)) ((sX6_leave g x).2) := by
  refine mkI (own := RX6) (ty := .int) rfl (by decide) rfl (rfl) (Nat.le_of_ble_eq_true rfl) (fun P_ e_ s_ m_ a_ below meth cd Q X fin ls hl hJ => ?_)
  have hx := X.1
  have hb := X.2.1
  have hl : lv_has ls 2 [(0, .ref (B + 0)), (1, .int x)] := hl
  refine lv_aload_n hx hb dX6_leave_0 rfl (lv_at hl 0 rfl) ?_
  refine gX6_22 X hJ  dX6_leave_1 ?_
  refine lv_aload_n hx hb dX6_leave_4 rfl (lv_at hl 0 rfl) ?_
  refine gX6_10 X hJ  dX6_leave_5 ?_
  refine kX6_50 X hJ (mX2_note l E B g (hgn)) rfl (by omega) (at_H rfl) hl.1 ⟨Nat.le_of_ble_eq_true rfl, Nat.le_of_ble_eq_true rfl⟩ ⟨Nat.le_refl _, Nat.le_refl _⟩ (rest := []) rfl (Nat.le_of_ble_eq_true rfl) dX6_leave_8 (fun H locs hJ => ?_)
  refine lv_aload_n hx hb dX6_leave_11 rfl (lv_at hl 0 rfl) ?_
  refine lv_aload_n hx hb dX6_leave_12 rfl (lv_at hl 0 rfl) ?_
  refine gX6_10 X hJ  dX6_leave_13 ?_
  refine lv_iload_n hx hb dX6_leave_16 rfl (lv_at hl 1 rfl) ?_
  refine kX6_72 X hJ (by have h := mX5_stopWaiting l E B (sX2_note g) 0 x ((sX2_note g).1 0) (by omega) ((Gn_note (hgn)).1 0 (by omega)); rw [upW_self] at h; exact h) rfl (lt_W0 (by omega)) (at_W (by omega) rfl) hl.1 ⟨Nat.le_of_ble_eq_true rfl, Nat.le_of_ble_eq_true rfl⟩ ⟨Nat.le_refl _, Nat.le_refl _⟩ (rest := [.ref (B + 0)]) rfl (Nat.le_of_ble_eq_true rfl) dX6_leave_17 (fun H locs hJ => ?_)
  refine kX6_58 X hJ (mX6_recorded l E B (upW (sX2_note g) 0 (sX5_stopWaiting ((sX2_note g).1 0) x).2) ((sX5_stopWaiting ((sX2_note g).1 0) x).1)) rfl (by omega) at_X hl.1 ⟨Nat.le_of_ble_eq_true rfl, Nat.le_of_ble_eq_true rfl⟩ ⟨Nat.le_refl _, Nat.le_refl _⟩ (rest := []) rfl (Nat.le_of_ble_eq_true rfl) dX6_leave_20 (fun H locs hJ => ?_)
  have hs : sX6_leave g x = ((sX6_recorded (upW (sX2_note g) 0 (sX5_stopWaiting ((sX2_note g).1 0) x).2) ((sX5_stopWaiting ((sX2_note g).1 0) x).1)).1, (sX6_recorded (upW (sX2_note g) 0 (sX5_stopWaiting ((sX2_note g).1 0) x).2) ((sX5_stopWaiting ((sX2_note g).1 0) x).1)).2) := by unfold sX6_leave; rfl
  exact fin (by rw [hs]; dsimp only; exact hJ) (by rw [hs]) dX6_leave_23

def sX6_hint (g : GS) (x : Int32) (y : Int32) : Int32 × GS := ((sX6_recorded (upW (sX2_note g) 0 (sX5_buyHint ((sX2_note g).1 0) x y).2) ((sX5_buyHint ((sX2_note g).1 0) x y).1)).1, (sX6_recorded (upW (sX2_note g) 0 (sX5_buyHint ((sX2_note g).1 0) x y).2) ((sX5_buyHint ((sX2_note g).1 0) x y).1)).2)
set_option maxHeartbeats 4000000 in
set_option maxRecDepth 100000 in
theorem mX6_hint (l : Launch) (E : EE) (B : Nat) (g : GS) (x : Int32) (y : Int32) (hgn : Gn g) : CG l yX6_hint cX6_hint 3 (some .int) 4 104 E B [.ref (B + 0), .int x, .int y] g (some (.int (sX6_hint g x y).1)) ((sX6_hint g x y).2) := by
  refine mkI (own := RX6) (ty := .int) rfl (by decide) rfl (rfl) (Nat.le_of_ble_eq_true rfl) (fun P_ e_ s_ m_ a_ below meth cd Q X fin ls hl hJ => ?_)
  have hx := X.1
  have hb := X.2.1
  have hl : lv_has ls 3 [(0, .ref (B + 0)), (1, .int x), (2, .int y)] := hl
  refine lv_aload_n hx hb dX6_hint_0 rfl (lv_at hl 0 rfl) ?_
  refine gX6_22 X hJ  dX6_hint_1 ?_
  refine lv_aload_n hx hb dX6_hint_4 rfl (lv_at hl 0 rfl) ?_
  refine gX6_10 X hJ  dX6_hint_5 ?_
  refine kX6_50 X hJ (mX2_note l E B g (hgn)) rfl (by omega) (at_H rfl) hl.1 ⟨Nat.le_of_ble_eq_true rfl, Nat.le_of_ble_eq_true rfl⟩ ⟨Nat.le_refl _, Nat.le_refl _⟩ (rest := []) rfl (Nat.le_of_ble_eq_true rfl) dX6_hint_8 (fun H locs hJ => ?_)
  refine lv_aload_n hx hb dX6_hint_11 rfl (lv_at hl 0 rfl) ?_
  refine lv_aload_n hx hb dX6_hint_12 rfl (lv_at hl 0 rfl) ?_
  refine gX6_10 X hJ  dX6_hint_13 ?_
  refine lv_iload_n hx hb dX6_hint_16 rfl (lv_at hl 1 rfl) ?_
  refine lv_iload_n hx hb dX6_hint_17 rfl (lv_at hl 2 rfl) ?_
  refine kX6_75 X hJ (by have h := mX5_buyHint l E B (sX2_note g) 0 x y ((sX2_note g).1 0) (by omega) ((Gn_note (hgn)).1 0 (by omega)); rw [upW_self] at h; exact h) rfl (lt_W0 (by omega)) (at_W (by omega) rfl) hl.1 ⟨Nat.le_of_ble_eq_true rfl, Nat.le_of_ble_eq_true rfl⟩ ⟨Nat.le_refl _, Nat.le_refl _⟩ (rest := [.ref (B + 0)]) rfl (Nat.le_of_ble_eq_true rfl) dX6_hint_18 (fun H locs hJ => ?_)
  refine kX6_58 X hJ (mX6_recorded l E B (upW (sX2_note g) 0 (sX5_buyHint ((sX2_note g).1 0) x y).2) ((sX5_buyHint ((sX2_note g).1 0) x y).1)) rfl (by omega) at_X hl.1 ⟨Nat.le_of_ble_eq_true rfl, Nat.le_of_ble_eq_true rfl⟩ ⟨Nat.le_refl _, Nat.le_refl _⟩ (rest := []) rfl (Nat.le_of_ble_eq_true rfl) dX6_hint_21 (fun H locs hJ => ?_)
  have hs : sX6_hint g x y = ((sX6_recorded (upW (sX2_note g) 0 (sX5_buyHint ((sX2_note g).1 0) x y).2) ((sX5_buyHint ((sX2_note g).1 0) x y).1)).1, (sX6_recorded (upW (sX2_note g) 0 (sX5_buyHint ((sX2_note g).1 0) x y).2) ((sX5_buyHint ((sX2_note g).1 0) x y).1)).2) := by unfold sX6_hint; rfl
  exact fin (by rw [hs]; dsimp only; exact hJ) (by rw [hs]) dX6_hint_24

def sX6_pass (g : GS) (x : Int32) : Int32 × GS := ((sX6_recorded (upW (sX2_note g) 0 (sX5_passHours ((sX2_note g).1 0) x).2) ((sX5_passHours ((sX2_note g).1 0) x).1)).1, (sX6_recorded (upW (sX2_note g) 0 (sX5_passHours ((sX2_note g).1 0) x).2) ((sX5_passHours ((sX2_note g).1 0) x).1)).2)
set_option maxHeartbeats 4000000 in
set_option maxRecDepth 100000 in
theorem mX6_pass (l : Launch) (E : EE) (B : Nat) (g : GS) (x : Int32) (hgn : Gn g) : CG l yX6_pass cX6_pass 2 (some .int) 6 138 E B [.ref (B + 0), .int x] g (some (.int (sX6_pass g x).1)) ((sX6_pass g x).2) := by
  refine mkI (own := RX6) (ty := .int) rfl (by decide) rfl (rfl) (Nat.le_of_ble_eq_true rfl) (fun P_ e_ s_ m_ a_ below meth cd Q X fin ls hl hJ => ?_)
  have hx := X.1
  have hb := X.2.1
  have hl : lv_has ls 2 [(0, .ref (B + 0)), (1, .int x)] := hl
  refine lv_aload_n hx hb dX6_pass_0 rfl (lv_at hl 0 rfl) ?_
  refine gX6_22 X hJ  dX6_pass_1 ?_
  refine lv_aload_n hx hb dX6_pass_4 rfl (lv_at hl 0 rfl) ?_
  refine gX6_10 X hJ  dX6_pass_5 ?_
  refine kX6_50 X hJ (mX2_note l E B g (hgn)) rfl (by omega) (at_H rfl) hl.1 ⟨Nat.le_of_ble_eq_true rfl, Nat.le_of_ble_eq_true rfl⟩ ⟨Nat.le_refl _, Nat.le_refl _⟩ (rest := []) rfl (Nat.le_of_ble_eq_true rfl) dX6_pass_8 (fun H locs hJ => ?_)
  refine lv_aload_n hx hb dX6_pass_11 rfl (lv_at hl 0 rfl) ?_
  refine lv_aload_n hx hb dX6_pass_12 rfl (lv_at hl 0 rfl) ?_
  refine gX6_10 X hJ  dX6_pass_13 ?_
  refine lv_iload_n hx hb dX6_pass_16 rfl (lv_at hl 1 rfl) ?_
  refine kX6_78 X hJ (by have h := mX5_passHours l E B (sX2_note g) 0 x ((sX2_note g).1 0) (by omega) ((Gn_note (hgn)).1 0 (by omega)); rw [upW_self] at h; exact h) rfl (lt_W0 (by omega)) (at_W (by omega) rfl) hl.1 ⟨Nat.le_of_ble_eq_true rfl, Nat.le_of_ble_eq_true rfl⟩ ⟨Nat.le_refl _, Nat.le_refl _⟩ (rest := [.ref (B + 0)]) rfl (Nat.le_of_ble_eq_true rfl) dX6_pass_17 (fun H locs hJ => ?_)
  refine kX6_58 X hJ (mX6_recorded l E B (upW (sX2_note g) 0 (sX5_passHours ((sX2_note g).1 0) x).2) ((sX5_passHours ((sX2_note g).1 0) x).1)) rfl (by omega) at_X hl.1 ⟨Nat.le_of_ble_eq_true rfl, Nat.le_of_ble_eq_true rfl⟩ ⟨Nat.le_refl _, Nat.le_refl _⟩ (rest := []) rfl (Nat.le_of_ble_eq_true rfl) dX6_pass_20 (fun H locs hJ => ?_)
  have hs : sX6_pass g x = ((sX6_recorded (upW (sX2_note g) 0 (sX5_passHours ((sX2_note g).1 0) x).2) ((sX5_passHours ((sX2_note g).1 0) x).1)).1, (sX6_recorded (upW (sX2_note g) 0 (sX5_passHours ((sX2_note g).1 0) x).2) ((sX5_passHours ((sX2_note g).1 0) x).1)).2) := by unfold sX6_pass; rfl
  exact fin (by rw [hs]; dsimp only; exact hJ) (by rw [hs]) dX6_pass_23

