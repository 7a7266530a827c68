theorem b01_i2 {β : Type} {c : Prop} {i : Decidable c} {a b : Int32 × β} (h1 : b01 a.1) (h2 : b01 b.1) : b01 (@ite _ c i a b).1 := by cases i <;> assumption
theorem b01_r2 {c : Prop} {i : Decidable c} {a b : Int32} (h1 : b01 a) (h2 : b01 b) : b01 (@ite _ c i a b) := by cases i <;> assumption
def bL_hangs_626 (K402 : GS → Int32 → Int32 → Int32 → Int32 → Int32 → Int32 → Int32 → Int32 → Int32 → Nat → Int32 × GS) : Nat → GS → Int32 → Int32 → Int32 → Int32 → Int32 → Int32 → Int32 → Int32 → Int32 → Nat → Nat → Int32 × GS
  | 0, gg, _, _, _, _, _, _, _, _, _, _, _ => (0, gg)
  | n + 1, gg, v1, v2, v3, v4, v5, v6, v7, v8, v9, v10, v14 => if v2 ≤ nI v14 then (K402 gg v1 v2 v3 v4 v5 v6 v7 v8 v9 (v10 + 1)) else (if sX6_ofBridge gg (nI v10) 3 < sX6_knows gg (nI v14) (nI v10) 0 then ((0, gg)) else (if sX6_ofBridge gg (nI v10) 3 ≤ sX6_knows gg (nI v14) (nI v10) 1 then (bL_hangs_626 K402 n gg v1 v2 v3 v4 v5 v6 v7 v8 v9 v10 (v14 + 1)) else ((0, gg))))
def bL_hangs_594 (K402 : GS → Int32 → Int32 → Int32 → Int32 → Int32 → Int32 → Int32 → Int32 → Int32 → Nat → Int32 × GS) (gg : GS) (v1 : Int32) (v2 : Int32) (v3 : Int32) (v4 : Int32) (v5 : Int32) (v6 : Int32) (v7 : Int32) (v8 : Int32) (v9 : Int32) (v10 : Nat) : Int32 × GS := if sX6_ofBridge gg (nI v10) 3 < 0 then ((0, gg)) else (if sX6_ofBridge gg (nI v10) 3 < sX6_ofBridge gg (nI v10) 2 then (bL_hangs_626 K402 (nn v2 + 1) gg v1 v2 v3 v4 v5 v6 v7 v8 v9 v10 0) else ((0, gg)))
def bL_hangs_450 (K402 : GS → Int32 → Int32 → Int32 → Int32 → Int32 → Int32 → Int32 → Int32 → Int32 → Nat → Int32 × GS) : Nat → GS → Int32 → Int32 → Int32 → Int32 → Int32 → Int32 → Int32 → Int32 → Int32 → Nat → Int32 → Int32 → Nat → Int32 × GS
  | 0, gg, _, _, _, _, _, _, _, _, _, _, _, _, _ => (0, gg)
  | n + 1, gg, v1, v2, v3, v4, v5, v6, v7, v8, v9, v10, v11, v12, v13 => if v11 ≤ nI v13 then (if sX6_waits gg (nI v10) v11 = (-1) then (if sX6_ofBridge gg (nI v10) 5 < 0 then ((0, gg)) else (if sX6_next gg (nI v10) = (-6) then (bL_hangs_594 K402 gg v1 v2 v3 v4 v5 v6 v7 v8 v9 v10) else (if sX6_next gg (nI v10) = sX6_waits gg (nI v10) 0 then (bL_hangs_594 K402 gg v1 v2 v3 v4 v5 v6 v7 v8 v9 v10) else (if sX6_next gg (nI v10) = sX6_waits gg (nI v10) 1 then (bL_hangs_594 K402 gg v1 v2 v3 v4 v5 v6 v7 v8 v9 v10) else ((0, gg)))))) else ((0, gg))) else (if sX6_waits gg (nI v10) (nI v13) < 0 then ((0, gg)) else (if (v9 >>> ((sX6_waits gg (nI v10) (nI v13)) &&& 31)) &&& 1 = 1 then ((0, gg)) else (if sX6_ofCart gg (sX6_waits gg (nI v10) (nI v13)) 2 = nI v10 then (if sX6_ofCart gg (sX6_waits gg (nI v10) (nI v13)) 4 ≤ v12 then (bL_hangs_450 K402 n gg v1 v2 v3 v4 v5 v6 v7 v8 (v9 ||| (1 <<< ((sX6_waits gg (nI v10) (nI v13)) &&& 31))) v10 v11 (sX6_ofCart gg (sX6_waits gg (nI v10) (nI v13)) 4) (v13 + 1)) else ((0, gg))) else ((0, gg)))))
def bL_hangs_402 : Nat → GS → Int32 → Int32 → Int32 → Int32 → Int32 → Int32 → Int32 → Int32 → Int32 → Nat → Int32 × GS
  | 0, gg, _, _, _, _, _, _, _, _, _, _ => (0, gg)
  | n + 1, gg, v1, v2, v3, v4, v5, v6, v7, v8, v9, v10 => if v1 ≤ nI v10 then (if v9 = v7 then (if v7 = sX6_count gg 3 then (if v5 = v6 then (if v5 = sX6_count gg 4 then (if v3 = sX6_count gg 5 then (if v4 = sX6_count gg 6 then (if v3 + v4 = sX6_count gg 7 then (if v8 = v4 then ((1, gg)) else ((0, gg))) else ((0, gg))) else ((0, gg))) else ((0, gg))) else ((0, gg))) else ((0, gg))) else ((0, gg))) else ((0, gg))) else (bL_hangs_450 (bL_hangs_402 n) (nn (sX6_ofBridge gg (nI v10) 4) + 1) gg v1 v2 v3 (v4 + (sX6_ofBridge gg (nI v10) 5)) v5 (v6 + (sX6_ofBridge gg (nI v10) 6)) v7 v8 v9 v10 (sX6_ofBridge gg (nI v10) 4) 9999 0)
def bL_hangs_361 (K32 : GS → Int32 → Int32 → Int32 → Int32 → Int32 → Int32 → Int32 → Int32 → Nat → Int32 × GS) (gg : GS) (v1 : Int32) (v2 : Int32) (v3 : Int32) (v4 : Int32) (v5 : Int32) (v6 : Int32) (v7 : Int32) (v8 : Int32) (v9 : Nat) (v10 : Int32) : Int32 × GS := if sX6_ofCart gg (nI v9) 3 < 0 then ((0, gg)) else (if sX6_ofCart gg (nI v9) 3 < sX6_ofBridge gg v10 2 then (K32 gg v1 v2 v3 v4 v5 v6 v7 v8 (v9 + 1)) else ((0, gg)))
def bL_hangs_329 (K32 : GS → Int32 → Int32 → Int32 → Int32 → Int32 → Int32 → Int32 → Int32 → Nat → Int32 × GS) (gg : GS) (v1 : Int32) (v2 : Int32) (v3 : Int32) (v4 : Int32) (v5 : Int32) (v6 : Int32) (v7 : Int32) (v8 : Int32) (v9 : Nat) (v10 : Int32) : Int32 × GS := if sX6_why gg (nI v9) = 0 then (if (sX6_overIn gg (nI v9)).1 = 1 then (bL_hangs_361 K32 ((sX6_overIn gg (nI v9)).2) v1 v2 v3 v4 v5 v6 v7 v8 v9 v10) else ((0, (sX6_overIn gg (nI v9)).2))) else (if (sX6_overIn gg (nI v9)).1 = 1 then ((0, (sX6_overIn gg (nI v9)).2)) else (bL_hangs_361 K32 ((sX6_overIn gg (nI v9)).2) v1 v2 v3 v4 v5 v6 v7 v8 v9 v10))
def bL_hangs_296 (K32 : GS → Int32 → Int32 → Int32 → Int32 → Int32 → Int32 → Int32 → Int32 → Nat → Int32 × GS) (gg : GS) (v1 : Int32) (v2 : Int32) (v3 : Int32) (v4 : Int32) (v5 : Int32) (v6 : Int32) (v7 : Int32) (v8 : Int32) (v9 : Nat) (v10 : Int32) : Int32 × GS := if sX6_next gg v10 = nI v9 then (if sX6_why gg (nI v9) = 0 then (bL_hangs_329 K32 gg v1 v2 v3 v4 v5 v6 v7 v8 v9 v10) else ((0, gg))) else (if sX6_why gg (nI v9) = 0 then ((0, gg)) else (bL_hangs_329 K32 gg v1 v2 v3 v4 v5 v6 v7 v8 v9 v10))
def bL_hangs_255 (K32 : GS → Int32 → Int32 → Int32 → Int32 → Int32 → Int32 → Int32 → Int32 → Nat → Int32 × GS) (gg : GS) (v1 : Int32) (v2 : Int32) (v3 : Int32) (v4 : Int32) (v5 : Int32) (v6 : Int32) (v7 : Int32) (v8 : Int32) (v9 : Nat) (v10 : Int32) : Int32 × GS := if v10 = (-6) then (K32 gg v1 v2 v3 v4 v5 v6 v7 v8 (v9 + 1)) else (if sX6_ofBridge gg v10 0 = sX6_ofCart gg (nI v9) 0 then (bL_hangs_296 K32 gg v1 v2 v3 v4 v5 v6 v7 v8 v9 v10) else (if sX6_ofBridge gg v10 1 = sX6_ofCart gg (nI v9) 0 then (bL_hangs_296 K32 gg v1 v2 v3 v4 v5 v6 v7 v8 v9 v10) else ((0, gg))))
def bL_hangs_222 (K32 : GS → Int32 → Int32 → Int32 → Int32 → Int32 → Int32 → Int32 → Int32 → Nat → Int32 × GS) (gg : GS) (v1 : Int32) (v2 : Int32) (v3 : Int32) (v4 : Int32) (v5 : Int32) (v6 : Int32) (v7 : Int32) (v8 : Int32) (v9 : Nat) (v10 : Int32) : Int32 × GS := if v10 = (-6) then (if (sX6_overIn gg (nI v9)).1 = (-5) then (bL_hangs_255 K32 ((sX6_overIn gg (nI v9)).2) v1 v2 v3 v4 v5 v6 v7 v8 v9 v10) else ((0, (sX6_overIn gg (nI v9)).2))) else (if (sX6_overIn gg (nI v9)).1 = (-5) then ((0, (sX6_overIn gg (nI v9)).2)) else (bL_hangs_255 K32 ((sX6_overIn gg (nI v9)).2) v1 v2 v3 v4 v5 v6 v7 v8 v9 v10))
def bL_hangs_192 (K32 : GS → Int32 → Int32 → Int32 → Int32 → Int32 → Int32 → Int32 → Int32 → Nat → Int32 × GS) (gg : GS) (v1 : Int32) (v2 : Int32) (v3 : Int32) (v4 : Int32) (v5 : Int32) (v6 : Int32) (v7 : Int32) (v8 : Int32) (v9 : Nat) (v10 : Int32) : Int32 × GS := if v10 = (-6) then (if sX6_why gg (nI v9) = 1 then (bL_hangs_222 K32 gg v1 v2 v3 v4 v5 v6 v7 v8 v9 v10) else ((0, gg))) else (if sX6_why gg (nI v9) = 1 then ((0, gg)) else (bL_hangs_222 K32 gg v1 v2 v3 v4 v5 v6 v7 v8 v9 v10))
def bL_hangs_175 (K32 : GS → Int32 → Int32 → Int32 → Int32 → Int32 → Int32 → Int32 → Int32 → Nat → Int32 × GS) (gg : GS) (v1 : Int32) (v2 : Int32) (v3 : Int32) (v4 : Int32) (v5 : Int32) (v6 : Int32) (v7 : Int32) (v8 : Int32) (v9 : Nat) (v10 : Int32) : Int32 × GS := if v10 = (-6) then (if sX6_ofCart gg (nI v9) 4 = 0 then (bL_hangs_192 K32 gg v1 v2 v3 v4 v5 v6 v7 v8 v9 v10) else ((0, gg))) else (bL_hangs_192 K32 gg v1 v2 v3 v4 v5 v6 v7 v8 v9 v10)
def bL_hangs_111 (K32 : GS → Int32 → Int32 → Int32 → Int32 → Int32 → Int32 → Int32 → Int32 → Nat → Int32 × GS) (gg : GS) (v1 : Int32) (v2 : Int32) (v3 : Int32) (v4 : Int32) (v5 : Int32) (v6 : Int32) (v7 : Int32) (v8 : Int32) (v9 : Nat) (v10 : Int32) : Int32 × GS := if sX6_ofCart gg (nI v9) 1 < 0 then ((0, gg)) else (if sX6_ofCart gg (nI v9) 0 < 0 then ((0, gg)) else (if 7 < sX6_ofCart gg (nI v9) 0 then ((0, gg)) else (if v10 = (-6) then (if sX6_ofCart gg (nI v9) 3 = (-6) then (bL_hangs_175 K32 gg v1 v2 v3 v4 v5 v6 v7 v8 v9 v10) else ((0, gg))) else (if sX6_ofCart gg (nI v9) 3 = (-6) then ((0, gg)) else (bL_hangs_175 K32 gg v1 v2 v3 v4 v5 v6 v7 v8 v9 v10)))))
def bL_hangs_32 : Nat → GS → Int32 → Int32 → Int32 → Int32 → Int32 → Int32 → Int32 → Int32 → Nat → Int32 × GS
  | 0, gg, _, _, _, _, _, _, _, _, _ => (0, gg)
  | n + 1, gg, v1, v2, v3, v4, v5, v6, v7, v8, v9 => if v2 ≤ nI v9 then (bL_hangs_402 (nn v1 + 1) gg v1 v2 v3 v4 v5 v6 v7 v8 0 0) else (if sX6_ofCart gg (nI v9) 2 = (-6) then (bL_hangs_111 (bL_hangs_32 n) gg v1 v2 (v3 + (sX6_ofCart gg (nI v9) 1)) v4 (v5 + (sX6_ofCart gg (nI v9) 5)) v6 (v7 ||| 0) (v8 + ((sX6_ofCart gg (nI v9) 6) - (sX6_ofCart gg (nI v9) 7))) v9 (sX6_ofCart gg (nI v9) 2)) else (bL_hangs_111 (bL_hangs_32 n) gg v1 v2 (v3 + (sX6_ofCart gg (nI v9) 1)) v4 (v5 + (sX6_ofCart gg (nI v9) 5)) v6 (v7 ||| (1 <<< ((nI v9) &&& 31))) (v8 + ((sX6_ofCart gg (nI v9) 6) - (sX6_ofCart gg (nI v9) 7))) v9 (sX6_ofCart gg (nI v9) 2)))
def sL_hangs (g : GS) : Int32 × GS := bL_hangs_32 (nn (sX6_count g 2) + 1) g (sX6_count g 1) (sX6_count g 2) 0 0 0 0 0 0 0
theorem b01_bL_hangs_626 {K402 : GS → Int32 → Int32 → Int32 → Int32 → Int32 → Int32 → Int32 → Int32 → Int32 → Nat → Int32 × GS} (hK402 : ∀ (x0 : GS) (x1 : Int32) (x2 : Int32) (x3 : Int32) (x4 : Int32) (x5 : Int32) (x6 : Int32) (x7 : Int32) (x8 : Int32) (x9 : Int32) (x10 : Nat), b01 (K402 x0 x1 x2 x3 x4 x5 x6 x7 x8 x9 x10).1) : ∀ (n : Nat) (gg : GS) (v1 : Int32) (v2 : Int32) (v3 : Int32) (v4 : Int32) (v5 : Int32) (v6 : Int32) (v7 : Int32) (v8 : Int32) (v9 : Int32) (v10 : Nat) (v14 : Nat), b01 (bL_hangs_626 K402 n gg v1 v2 v3 v4 v5 v6 v7 v8 v9 v10 v14).1 := by
  intro n
  induction n with
  | zero => intro gg v1 v2 v3 v4 v5 v6 v7 v8 v9 v10 v14; exact Or.inl rfl
  | succ n ih =>
    intro gg v1 v2 v3 v4 v5 v6 v7 v8 v9 v10 v14
    rw [bL_hangs_626]
    exact b01_i2 (hK402 _ _ _ _ _ _ _ _ _ _ _) (b01_i2 (Or.inl rfl) (b01_i2 (ih _ _ _ _ _ _ _ _ _ _ _ _) (Or.inl rfl)))
theorem b01_bL_hangs_594 {K402 : GS → Int32 → Int32 → Int32 → Int32 → Int32 → Int32 → Int32 → Int32 → Int32 → Nat → Int32 × GS} (hK402 : ∀ (x0 : GS) (x1 : Int32) (x2 : Int32) (x3 : Int32) (x4 : Int32) (x5 : Int32) (x6 : Int32) (x7 : Int32) (x8 : Int32) (x9 : Int32) (x10 : Nat), b01 (K402 x0 x1 x2 x3 x4 x5 x6 x7 x8 x9 x10).1) {gg : GS} {v1 : Int32} {v2 : Int32} {v3 : Int32} {v4 : Int32} {v5 : Int32} {v6 : Int32} {v7 : Int32} {v8 : Int32} {v9 : Int32} {v10 : Nat} : b01 (bL_hangs_594 K402 gg v1 v2 v3 v4 v5 v6 v7 v8 v9 v10).1 := by
  unfold bL_hangs_594
  exact b01_i2 (Or.inl rfl) (b01_i2 (b01_bL_hangs_626 hK402 _ _ _ _ _ _ _ _ _ _ _ _ _) (Or.inl rfl))
theorem b01_bL_hangs_450 {K402 : GS → Int32 → Int32 → Int32 → Int32 → Int32 → Int32 → Int32 → Int32 → Int32 → Nat → Int32 × GS} (hK402 : ∀ (x0 : GS) (x1 : Int32) (x2 : Int32) (x3 : Int32) (x4 : Int32) (x5 : Int32) (x6 : Int32) (x7 : Int32) (x8 : Int32) (x9 : Int32) (x10 : Nat), b01 (K402 x0 x1 x2 x3 x4 x5 x6 x7 x8 x9 x10).1) : ∀ (n : Nat) (gg : GS) (v1 : Int32) (v2 : Int32) (v3 : Int32) (v4 : Int32) (v5 : Int32) (v6 : Int32) (v7 : Int32) (v8 : Int32) (v9 : Int32) (v10 : Nat) (v11 : Int32) (v12 : Int32) (v13 : Nat), b01 (bL_hangs_450 K402 n gg v1 v2 v3 v4 v5 v6 v7 v8 v9 v10 v11 v12 v13).1 := by
  intro n
  induction n with
  | zero => intro gg v1 v2 v3 v4 v5 v6 v7 v8 v9 v10 v11 v12 v13; exact Or.inl rfl
  | succ n ih =>
    intro gg v1 v2 v3 v4 v5 v6 v7 v8 v9 v10 v11 v12 v13
    rw [bL_hangs_450]
    exact b01_i2 (b01_i2 (b01_i2 (Or.inl rfl) (b01_i2 (b01_bL_hangs_594 hK402) (b01_i2 (b01_bL_hangs_594 hK402) (b01_i2 (b01_bL_hangs_594 hK402) (Or.inl rfl))))) (Or.inl rfl)) (b01_i2 (Or.inl rfl) (b01_i2 (Or.inl rfl) (b01_i2 (b01_i2 (ih _ _ _ _ _ _ _ _ _ _ _ _ _ _) (Or.inl rfl)) (Or.inl rfl))))
theorem b01_bL_hangs_402 : ∀ (n : Nat) (gg : GS) (v1 : Int32) (v2 : Int32) (v3 : Int32) (v4 : Int32) (v5 : Int32) (v6 : Int32) (v7 : Int32) (v8 : Int32) (v9 : Int32) (v10 : Nat), b01 (bL_hangs_402 n gg v1 v2 v3 v4 v5 v6 v7 v8 v9 v10).1 := by
  intro n
  induction n with
  | zero => intro gg v1 v2 v3 v4 v5 v6 v7 v8 v9 v10; exact Or.inl rfl
  | succ n ih =>
    intro gg v1 v2 v3 v4 v5 v6 v7 v8 v9 v10
    rw [bL_hangs_402]
    exact b01_i2 (b01_i2 (b01_i2 (b01_i2 (b01_i2 (b01_i2 (b01_i2 (b01_i2 (b01_i2 (Or.inr rfl) (Or.inl rfl)) (Or.inl rfl)) (Or.inl rfl)) (Or.inl rfl)) (Or.inl rfl)) (Or.inl rfl)) (Or.inl rfl)) (Or.inl rfl)) (b01_bL_hangs_450 ih _ _ _ _ _ _ _ _ _ _ _ _ _ _ _)
theorem b01_bL_hangs_361 {K32 : GS → Int32 → Int32 → Int32 → Int32 → Int32 → Int32 → Int32 → Int32 → Nat → Int32 × GS} (hK32 : ∀ (x0 : GS) (x1 : Int32) (x2 : Int32) (x3 : Int32) (x4 : Int32) (x5 : Int32) (x6 : Int32) (x7 : Int32) (x8 : Int32) (x9 : Nat), b01 (K32 x0 x1 x2 x3 x4 x5 x6 x7 x8 x9).1) {gg : GS} {v1 : Int32} {v2 : Int32} {v3 : Int32} {v4 : Int32} {v5 : Int32} {v6 : Int32} {v7 : Int32} {v8 : Int32} {v9 : Nat} {v10 : Int32} : b01 (bL_hangs_361 K32 gg v1 v2 v3 v4 v5 v6 v7 v8 v9 v10).1 := by
  unfold bL_hangs_361
  exact b01_i2 (Or.inl rfl) (b01_i2 (hK32 _ _ _ _ _ _ _ _ _ _) (Or.inl rfl))
theorem b01_bL_hangs_329 {K32 : GS → Int32 → Int32 → Int32 → Int32 → Int32 → Int32 → Int32 → Int32 → Nat → Int32 × GS} (hK32 : ∀ (x0 : GS) (x1 : Int32) (x2 : Int32) (x3 : Int32) (x4 : Int32) (x5 : Int32) (x6 : Int32) (x7 : Int32) (x8 : Int32) (x9 : Nat), b01 (K32 x0 x1 x2 x3 x4 x5 x6 x7 x8 x9).1) {gg : GS} {v1 : Int32} {v2 : Int32} {v3 : Int32} {v4 : Int32} {v5 : Int32} {v6 : Int32} {v7 : Int32} {v8 : Int32} {v9 : Nat} {v10 : Int32} : b01 (bL_hangs_329 K32 gg v1 v2 v3 v4 v5 v6 v7 v8 v9 v10).1 := by
  unfold bL_hangs_329
  exact b01_i2 (b01_i2 (b01_bL_hangs_361 hK32) (Or.inl rfl)) (b01_i2 (Or.inl rfl) (b01_bL_hangs_361 hK32))
theorem b01_bL_hangs_296 {K32 : GS → Int32 → Int32 → Int32 → Int32 → Int32 → Int32 → Int32 → Int32 → Nat → Int32 × GS} (hK32 : ∀ (x0 : GS) (x1 : Int32) (x2 : Int32) (x3 : Int32) (x4 : Int32) (x5 : Int32) (x6 : Int32) (x7 : Int32) (x8 : Int32) (x9 : Nat), b01 (K32 x0 x1 x2 x3 x4 x5 x6 x7 x8 x9).1) {gg : GS} {v1 : Int32} {v2 : Int32} {v3 : Int32} {v4 : Int32} {v5 : Int32} {v6 : Int32} {v7 : Int32} {v8 : Int32} {v9 : Nat} {v10 : Int32} : b01 (bL_hangs_296 K32 gg v1 v2 v3 v4 v5 v6 v7 v8 v9 v10).1 := by
  unfold bL_hangs_296
  exact b01_i2 (b01_i2 (b01_bL_hangs_329 hK32) (Or.inl rfl)) (b01_i2 (Or.inl rfl) (b01_bL_hangs_329 hK32))
theorem b01_bL_hangs_255 {K32 : GS → Int32 → Int32 → Int32 → Int32 → Int32 → Int32 → Int32 → Int32 → Nat → Int32 × GS} (hK32 : ∀ (x0 : GS) (x1 : Int32) (x2 : Int32) (x3 : Int32) (x4 : Int32) (x5 : Int32) (x6 : Int32) (x7 : Int32) (x8 : Int32) (x9 : Nat), b01 (K32 x0 x1 x2 x3 x4 x5 x6 x7 x8 x9).1) {gg : GS} {v1 : Int32} {v2 : Int32} {v3 : Int32} {v4 : Int32} {v5 : Int32} {v6 : Int32} {v7 : Int32} {v8 : Int32} {v9 : Nat} {v10 : Int32} : b01 (bL_hangs_255 K32 gg v1 v2 v3 v4 v5 v6 v7 v8 v9 v10).1 := by
  unfold bL_hangs_255
  exact b01_i2 (hK32 _ _ _ _ _ _ _ _ _ _) (b01_i2 (b01_bL_hangs_296 hK32) (b01_i2 (b01_bL_hangs_296 hK32) (Or.inl rfl)))
theorem b01_bL_hangs_222 {K32 : GS → Int32 → Int32 → Int32 → Int32 → Int32 → Int32 → Int32 → Int32 → Nat → Int32 × GS} (hK32 : ∀ (x0 : GS) (x1 : Int32) (x2 : Int32) (x3 : Int32) (x4 : Int32) (x5 : Int32) (x6 : Int32) (x7 : Int32) (x8 : Int32) (x9 : Nat), b01 (K32 x0 x1 x2 x3 x4 x5 x6 x7 x8 x9).1) {gg : GS} {v1 : Int32} {v2 : Int32} {v3 : Int32} {v4 : Int32} {v5 : Int32} {v6 : Int32} {v7 : Int32} {v8 : Int32} {v9 : Nat} {v10 : Int32} : b01 (bL_hangs_222 K32 gg v1 v2 v3 v4 v5 v6 v7 v8 v9 v10).1 := by
  unfold bL_hangs_222
  exact b01_i2 (b01_i2 (b01_bL_hangs_255 hK32) (Or.inl rfl)) (b01_i2 (Or.inl rfl) (b01_bL_hangs_255 hK32))
theorem b01_bL_hangs_192 {K32 : GS → Int32 → Int32 → Int32 → Int32 → Int32 → Int32 → Int32 → Int32 → Nat → Int32 × GS} (hK32 : ∀ (x0 : GS) (x1 : Int32) (x2 : Int32) (x3 : Int32) (x4 : Int32) (x5 : Int32) (x6 : Int32) (x7 : Int32) (x8 : Int32) (x9 : Nat), b01 (K32 x0 x1 x2 x3 x4 x5 x6 x7 x8 x9).1) {gg : GS} {v1 : Int32} {v2 : Int32} {v3 : Int32} {v4 : Int32} {v5 : Int32} {v6 : Int32} {v7 : Int32} {v8 : Int32} {v9 : Nat} {v10 : Int32} : b01 (bL_hangs_192 K32 gg v1 v2 v3 v4 v5 v6 v7 v8 v9 v10).1 := by
  unfold bL_hangs_192
  exact b01_i2 (b01_i2 (b01_bL_hangs_222 hK32) (Or.inl rfl)) (b01_i2 (Or.inl rfl) (b01_bL_hangs_222 hK32))
theorem b01_bL_hangs_175 {K32 : GS → Int32 → Int32 → Int32 → Int32 → Int32 → Int32 → Int32 → Int32 → Nat → Int32 × GS} (hK32 : ∀ (x0 : GS) (x1 : Int32) (x2 : Int32) (x3 : Int32) (x4 : Int32) (x5 : Int32) (x6 : Int32) (x7 : Int32) (x8 : Int32) (x9 : Nat), b01 (K32 x0 x1 x2 x3 x4 x5 x6 x7 x8 x9).1) {gg : GS} {v1 : Int32} {v2 : Int32} {v3 : Int32} {v4 : Int32} {v5 : Int32} {v6 : Int32} {v7 : Int32} {v8 : Int32} {v9 : Nat} {v10 : Int32} : b01 (bL_hangs_175 K32 gg v1 v2 v3 v4 v5 v6 v7 v8 v9 v10).1 := by
  unfold bL_hangs_175
  exact b01_i2 (b01_i2 (b01_bL_hangs_192 hK32) (Or.inl rfl)) (b01_bL_hangs_192 hK32)
theorem b01_bL_hangs_111 {K32 : GS → Int32 → Int32 → Int32 → Int32 → Int32 → Int32 → Int32 → Int32 → Nat → Int32 × GS} (hK32 : ∀ (x0 : GS) (x1 : Int32) (x2 : Int32) (x3 : Int32) (x4 : Int32) (x5 : Int32) (x6 : Int32) (x7 : Int32) (x8 : Int32) (x9 : Nat), b01 (K32 x0 x1 x2 x3 x4 x5 x6 x7 x8 x9).1) {gg : GS} {v1 : Int32} {v2 : Int32} {v3 : Int32} {v4 : Int32} {v5 : Int32} {v6 : Int32} {v7 : Int32} {v8 : Int32} {v9 : Nat} {v10 : Int32} : b01 (bL_hangs_111 K32 gg v1 v2 v3 v4 v5 v6 v7 v8 v9 v10).1 := by
  unfold bL_hangs_111
  exact b01_i2 (Or.inl rfl) (b01_i2 (Or.inl rfl) (b01_i2 (Or.inl rfl) (b01_i2 (b01_i2 (b01_bL_hangs_175 hK32) (Or.inl rfl)) (b01_i2 (Or.inl rfl) (b01_bL_hangs_175 hK32)))))
theorem b01_bL_hangs_32 : ∀ (n : Nat) (gg : GS) (v1 : Int32) (v2 : Int32) (v3 : Int32) (v4 : Int32) (v5 : Int32) (v6 : Int32) (v7 : Int32) (v8 : Int32) (v9 : Nat), b01 (bL_hangs_32 n gg v1 v2 v3 v4 v5 v6 v7 v8 v9).1 := by
  intro n
  induction n with
  | zero => intro gg v1 v2 v3 v4 v5 v6 v7 v8 v9; exact Or.inl rfl
  | succ n ih =>
    intro gg v1 v2 v3 v4 v5 v6 v7 v8 v9
    rw [bL_hangs_32]
    exact b01_i2 (b01_bL_hangs_402 _ _ _ _ _ _ _ _ _ _ _ _) (b01_i2 (b01_bL_hangs_111 ih) (b01_bL_hangs_111 ih))
theorem b01_sL_hangs {g : GS} : b01 (sL_hangs g).1 := by
  unfold sL_hangs
  exact b01_bL_hangs_32 _ _ _ _ _ _ _ _ _ _ _
theorem Gn_bL_hangs_626 {K402 : GS → Int32 → Int32 → Int32 → Int32 → Int32 → Int32 → Int32 → Int32 → Int32 → Nat → Int32 × GS} (hK402 : ∀ (x0 : GS) (x1 : Int32) (x2 : Int32) (x3 : Int32) (x4 : Int32) (x5 : Int32) (x6 : Int32) (x7 : Int32) (x8 : Int32) (x9 : Int32) (x10 : Nat), Gn x0 → Gn (K402 x0 x1 x2 x3 x4 x5 x6 x7 x8 x9 x10).2) : ∀ (n : Nat) (gg : GS) (v1 : Int32) (v2 : Int32) (v3 : Int32) (v4 : Int32) (v5 : Int32) (v6 : Int32) (v7 : Int32) (v8 : Int32) (v9 : Int32) (v10 : Nat) (v14 : Nat), Gn gg → Gn (bL_hangs_626 K402 n gg v1 v2 v3 v4 v5 v6 v7 v8 v9 v10 v14).2 := by
  intro n
  induction n with
  | zero => intro gg v1 v2 v3 v4 v5 v6 v7 v8 v9 v10 v14 h; exact h
  | succ n ih =>
    intro gg v1 v2 v3 v4 v5 v6 v7 v8 v9 v10 v14 h
    rw [bL_hangs_626]
    exact Gn_i2 (hK402 _ _ _ _ _ _ _ _ _ _ _ (h)) (Gn_i2 (Gn_p2 (h)) (Gn_i2 (ih _ _ _ _ _ _ _ _ _ _ _ _ (h)) (Gn_p2 (h))))
theorem Gn_bL_hangs_594 {K402 : GS → Int32 → Int32 → Int32 → Int32 → Int32 → Int32 → Int32 → Int32 → Int32 → Nat → Int32 × GS} (hK402 : ∀ (x0 : GS) (x1 : Int32) (x2 : Int32) (x3 : Int32) (x4 : Int32) (x5 : Int32) (x6 : Int32) (x7 : Int32) (x8 : Int32) (x9 : Int32) (x10 : Nat), Gn x0 → Gn (K402 x0 x1 x2 x3 x4 x5 x6 x7 x8 x9 x10).2) {gg : GS} {v1 : Int32} {v2 : Int32} {v3 : Int32} {v4 : Int32} {v5 : Int32} {v6 : Int32} {v7 : Int32} {v8 : Int32} {v9 : Int32} {v10 : Nat} (h : Gn gg) : Gn (bL_hangs_594 K402 gg v1 v2 v3 v4 v5 v6 v7 v8 v9 v10).2 := by
  unfold bL_hangs_594
  exact Gn_i2 (Gn_p2 (h)) (Gn_i2 (Gn_bL_hangs_626 hK402 _ _ _ _ _ _ _ _ _ _ _ _ _ (h)) (Gn_p2 (h)))
theorem Gn_bL_hangs_450 {K402 : GS → Int32 → Int32 → Int32 → Int32 → Int32 → Int32 → Int32 → Int32 → Int32 → Nat → Int32 × GS} (hK402 : ∀ (x0 : GS) (x1 : Int32) (x2 : Int32) (x3 : Int32) (x4 : Int32) (x5 : Int32) (x6 : Int32) (x7 : Int32) (x8 : Int32) (x9 : Int32) (x10 : Nat), Gn x0 → Gn (K402 x0 x1 x2 x3 x4 x5 x6 x7 x8 x9 x10).2) : ∀ (n : Nat) (gg : GS) (v1 : Int32) (v2 : Int32) (v3 : Int32) (v4 : Int32) (v5 : Int32) (v6 : Int32) (v7 : Int32) (v8 : Int32) (v9 : Int32) (v10 : Nat) (v11 : Int32) (v12 : Int32) (v13 : Nat), Gn gg → Gn (bL_hangs_450 K402 n gg v1 v2 v3 v4 v5 v6 v7 v8 v9 v10 v11 v12 v13).2 := by
  intro n
  induction n with
  | zero => intro gg v1 v2 v3 v4 v5 v6 v7 v8 v9 v10 v11 v12 v13 h; exact h
  | succ n ih =>
    intro gg v1 v2 v3 v4 v5 v6 v7 v8 v9 v10 v11 v12 v13 h
    rw [bL_hangs_450]
    exact Gn_i2 (Gn_i2 (Gn_i2 (Gn_p2 (h)) (Gn_i2 (Gn_bL_hangs_594 hK402 (h)) (Gn_i2 (Gn_bL_hangs_594 hK402 (h)) (Gn_i2 (Gn_bL_hangs_594 hK402 (h)) (Gn_p2 (h)))))) (Gn_p2 (h))) (Gn_i2 (Gn_p2 (h)) (Gn_i2 (Gn_p2 (h)) (Gn_i2 (Gn_i2 (ih _ _ _ _ _ _ _ _ _ _ _ _ _ _ (h)) (Gn_p2 (h))) (Gn_p2 (h)))))
theorem Gn_bL_hangs_402 : ∀ (n : Nat) (gg : GS) (v1 : Int32) (v2 : Int32) (v3 : Int32) (v4 : Int32) (v5 : Int32) (v6 : Int32) (v7 : Int32) (v8 : Int32) (v9 : Int32) (v10 : Nat), Gn gg → Gn (bL_hangs_402 n gg v1 v2 v3 v4 v5 v6 v7 v8 v9 v10).2 := by
  intro n
  induction n with
  | zero => intro gg v1 v2 v3 v4 v5 v6 v7 v8 v9 v10 h; exact h
  | succ n ih =>
    intro gg v1 v2 v3 v4 v5 v6 v7 v8 v9 v10 h
    rw [bL_hangs_402]
    exact Gn_i2 (Gn_i2 (Gn_i2 (Gn_i2 (Gn_i2 (Gn_i2 (Gn_i2 (Gn_i2 (Gn_i2 (Gn_p2 (h)) (Gn_p2 (h))) (Gn_p2 (h))) (Gn_p2 (h))) (Gn_p2 (h))) (Gn_p2 (h))) (Gn_p2 (h))) (Gn_p2 (h))) (Gn_p2 (h))) (Gn_bL_hangs_450 ih _ _ _ _ _ _ _ _ _ _ _ _ _ _ _ (h))
theorem Gn_bL_hangs_361 {K32 : GS → Int32 → Int32 → Int32 → Int32 → Int32 → Int32 → Int32 → Int32 → Nat → Int32 × GS} (hK32 : ∀ (x0 : GS) (x1 : Int32) (x2 : Int32) (x3 : Int32) (x4 : Int32) (x5 : Int32) (x6 : Int32) (x7 : Int32) (x8 : Int32) (x9 : Nat), Gn x0 → Gn (K32 x0 x1 x2 x3 x4 x5 x6 x7 x8 x9).2) {gg : GS} {v1 : Int32} {v2 : Int32} {v3 : Int32} {v4 : Int32} {v5 : Int32} {v6 : Int32} {v7 : Int32} {v8 : Int32} {v9 : Nat} {v10 : Int32} (h : Gn gg) : Gn (bL_hangs_361 K32 gg v1 v2 v3 v4 v5 v6 v7 v8 v9 v10).2 := by
  unfold bL_hangs_361
  exact Gn_i2 (Gn_p2 (h)) (Gn_i2 (hK32 _ _ _ _ _ _ _ _ _ _ (h)) (Gn_p2 (h)))
theorem Gn_bL_hangs_329 {K32 : GS → Int32 → Int32 → Int32 → Int32 → Int32 → Int32 → Int32 → Int32 → Nat → Int32 × GS} (hK32 : ∀ (x0 : GS) (x1 : Int32) (x2 : Int32) (x3 : Int32) (x4 : Int32) (x5 : Int32) (x6 : Int32) (x7 : Int32) (x8 : Int32) (x9 : Nat), Gn x0 → Gn (K32 x0 x1 x2 x3 x4 x5 x6 x7 x8 x9).2) {gg : GS} {v1 : Int32} {v2 : Int32} {v3 : Int32} {v4 : Int32} {v5 : Int32} {v6 : Int32} {v7 : Int32} {v8 : Int32} {v9 : Nat} {v10 : Int32} (h : Gn gg) : Gn (bL_hangs_329 K32 gg v1 v2 v3 v4 v5 v6 v7 v8 v9 v10).2 := by
  unfold bL_hangs_329
  exact Gn_i2 (Gn_i2 (Gn_bL_hangs_361 hK32 (Gn_sX6_overIn (h))) (Gn_p2 (Gn_sX6_overIn (h)))) (Gn_i2 (Gn_p2 (Gn_sX6_overIn (h))) (Gn_bL_hangs_361 hK32 (Gn_sX6_overIn (h))))
theorem Gn_bL_hangs_296 {K32 : GS → Int32 → Int32 → Int32 → Int32 → Int32 → Int32 → Int32 → Int32 → Nat → Int32 × GS} (hK32 : ∀ (x0 : GS) (x1 : Int32) (x2 : Int32) (x3 : Int32) (x4 : Int32) (x5 : Int32) (x6 : Int32) (x7 : Int32) (x8 : Int32) (x9 : Nat), Gn x0 → Gn (K32 x0 x1 x2 x3 x4 x5 x6 x7 x8 x9).2) {gg : GS} {v1 : Int32} {v2 : Int32} {v3 : Int32} {v4 : Int32} {v5 : Int32} {v6 : Int32} {v7 : Int32} {v8 : Int32} {v9 : Nat} {v10 : Int32} (h : Gn gg) : Gn (bL_hangs_296 K32 gg v1 v2 v3 v4 v5 v6 v7 v8 v9 v10).2 := by
  unfold bL_hangs_296
  exact Gn_i2 (Gn_i2 (Gn_bL_hangs_329 hK32 (h)) (Gn_p2 (h))) (Gn_i2 (Gn_p2 (h)) (Gn_bL_hangs_329 hK32 (h)))
theorem Gn_bL_hangs_255 {K32 : GS → Int32 → Int32 → Int32 → Int32 → Int32 → Int32 → Int32 → Int32 → Nat → Int32 × GS} (hK32 : ∀ (x0 : GS) (x1 : Int32) (x2 : Int32) (x3 : Int32) (x4 : Int32) (x5 : Int32) (x6 : Int32) (x7 : Int32) (x8 : Int32) (x9 : Nat), Gn x0 → Gn (K32 x0 x1 x2 x3 x4 x5 x6 x7 x8 x9).2) {gg : GS} {v1 : Int32} {v2 : Int32} {v3 : Int32} {v4 : Int32} {v5 : Int32} {v6 : Int32} {v7 : Int32} {v8 : Int32} {v9 : Nat} {v10 : Int32} (h : Gn gg) : Gn (bL_hangs_255 K32 gg v1 v2 v3 v4 v5 v6 v7 v8 v9 v10).2 := by
  unfold bL_hangs_255
  exact Gn_i2 (hK32 _ _ _ _ _ _ _ _ _ _ (h)) (Gn_i2 (Gn_bL_hangs_296 hK32 (h)) (Gn_i2 (Gn_bL_hangs_296 hK32 (h)) (Gn_p2 (h))))
theorem Gn_bL_hangs_222 {K32 : GS → Int32 → Int32 → Int32 → Int32 → Int32 → Int32 → Int32 → Int32 → Nat → Int32 × GS} (hK32 : ∀ (x0 : GS) (x1 : Int32) (x2 : Int32) (x3 : Int32) (x4 : Int32) (x5 : Int32) (x6 : Int32) (x7 : Int32) (x8 : Int32) (x9 : Nat), Gn x0 → Gn (K32 x0 x1 x2 x3 x4 x5 x6 x7 x8 x9).2) {gg : GS} {v1 : Int32} {v2 : Int32} {v3 : Int32} {v4 : Int32} {v5 : Int32} {v6 : Int32} {v7 : Int32} {v8 : Int32} {v9 : Nat} {v10 : Int32} (h : Gn gg) : Gn (bL_hangs_222 K32 gg v1 v2 v3 v4 v5 v6 v7 v8 v9 v10).2 := by
  unfold bL_hangs_222
  exact Gn_i2 (Gn_i2 (Gn_bL_hangs_255 hK32 (Gn_sX6_overIn (h))) (Gn_p2 (Gn_sX6_overIn (h)))) (Gn_i2 (Gn_p2 (Gn_sX6_overIn (h))) (Gn_bL_hangs_255 hK32 (Gn_sX6_overIn (h))))
theorem Gn_bL_hangs_192 {K32 : GS → Int32 → Int32 → Int32 → Int32 → Int32 → Int32 → Int32 → Int32 → Nat → Int32 × GS} (hK32 : ∀ (x0 : GS) (x1 : Int32) (x2 : Int32) (x3 : Int32) (x4 : Int32) (x5 : Int32) (x6 : Int32) (x7 : Int32) (x8 : Int32) (x9 : Nat), Gn x0 → Gn (K32 x0 x1 x2 x3 x4 x5 x6 x7 x8 x9).2) {gg : GS} {v1 : Int32} {v2 : Int32} {v3 : Int32} {v4 : Int32} {v5 : Int32} {v6 : Int32} {v7 : Int32} {v8 : Int32} {v9 : Nat} {v10 : Int32} (h : Gn gg) : Gn (bL_hangs_192 K32 gg v1 v2 v3 v4 v5 v6 v7 v8 v9 v10).2 := by
  unfold bL_hangs_192
  exact Gn_i2 (Gn_i2 (Gn_bL_hangs_222 hK32 (h)) (Gn_p2 (h))) (Gn_i2 (Gn_p2 (h)) (Gn_bL_hangs_222 hK32 (h)))
theorem Gn_bL_hangs_175 {K32 : GS → Int32 → Int32 → Int32 → Int32 → Int32 → Int32 → Int32 → Int32 → Nat → Int32 × GS} (hK32 : ∀ (x0 : GS) (x1 : Int32) (x2 : Int32) (x3 : Int32) (x4 : Int32) (x5 : Int32) (x6 : Int32) (x7 : Int32) (x8 : Int32) (x9 : Nat), Gn x0 → Gn (K32 x0 x1 x2 x3 x4 x5 x6 x7 x8 x9).2) {gg : GS} {v1 : Int32} {v2 : Int32} {v3 : Int32} {v4 : Int32} {v5 : Int32} {v6 : Int32} {v7 : Int32} {v8 : Int32} {v9 : Nat} {v10 : Int32} (h : Gn gg) : Gn (bL_hangs_175 K32 gg v1 v2 v3 v4 v5 v6 v7 v8 v9 v10).2 := by
  unfold bL_hangs_175
  exact Gn_i2 (Gn_i2 (Gn_bL_hangs_192 hK32 (h)) (Gn_p2 (h))) (Gn_bL_hangs_192 hK32 (h))
theorem Gn_bL_hangs_111 {K32 : GS → Int32 → Int32 → Int32 → Int32 → Int32 → Int32 → Int32 → Int32 → Nat → Int32 × GS} (hK32 : ∀ (x0 : GS) (x1 : Int32) (x2 : Int32) (x3 : Int32) (x4 : Int32) (x5 : Int32) (x6 : Int32) (x7 : Int32) (x8 : Int32) (x9 : Nat), Gn x0 → Gn (K32 x0 x1 x2 x3 x4 x5 x6 x7 x8 x9).2) {gg : GS} {v1 : Int32} {v2 : Int32} {v3 : Int32} {v4 : Int32} {v5 : Int32} {v6 : Int32} {v7 : Int32} {v8 : Int32} {v9 : Nat} {v10 : Int32} (h : Gn gg) : Gn (bL_hangs_111 K32 gg v1 v2 v3 v4 v5 v6 v7 v8 v9 v10).2 := by
  unfold bL_hangs_111
  exact Gn_i2 (Gn_p2 (h)) (Gn_i2 (Gn_p2 (h)) (Gn_i2 (Gn_p2 (h)) (Gn_i2 (Gn_i2 (Gn_bL_hangs_175 hK32 (h)) (Gn_p2 (h))) (Gn_i2 (Gn_p2 (h)) (Gn_bL_hangs_175 hK32 (h))))))
theorem Gn_bL_hangs_32 : ∀ (n : Nat) (gg : GS) (v1 : Int32) (v2 : Int32) (v3 : Int32) (v4 : Int32) (v5 : Int32) (v6 : Int32) (v7 : Int32) (v8 : Int32) (v9 : Nat), Gn gg → Gn (bL_hangs_32 n gg v1 v2 v3 v4 v5 v6 v7 v8 v9).2 := by
  intro n
  induction n with
  | zero => intro gg v1 v2 v3 v4 v5 v6 v7 v8 v9 h; exact h
  | succ n ih =>
    intro gg v1 v2 v3 v4 v5 v6 v7 v8 v9 h
    rw [bL_hangs_32]
    exact Gn_i2 (Gn_bL_hangs_402 _ _ _ _ _ _ _ _ _ _ _ _ (h)) (Gn_i2 (Gn_bL_hangs_111 ih (h)) (Gn_bL_hangs_111 ih (h)))
theorem Gn_sL_hangs {g : GS} (h : Gn g) : Gn (sL_hangs g).2 := by
  unfold sL_hangs
  exact Gn_bL_hangs_32 _ _ _ _ _ _ _ _ _ _ _ (h)
set_option maxHeartbeats 4000000 in
set_option maxRecDepth 100000 in
theorem mL_hangs (l : Launch) (E : EE) (B : Nat) (g : GS)  (hgn : Gn g) : CG l yL_hangs cL_hangs 15 (some .boolean) 6 138 E B [.ref (B + 0)] g (some (.int (sL_hangs g).1)) ((sL_hangs g).2) := by
  refine mkI (own := RL) (ty := .boolean) rfl (by decide) rfl ((b01_sL_hangs).nar) (Nat.le_of_ble_eq_true rfl) (fun P_ e_ s_ m_ a_ below meth cd Q X fin ls hl hJ => ?_)
  have hx := X.1
  have hb := X.2.1
  have hl : lv_has ls 15 [(0, .ref (B + 0))] := hl
  have bk_402 : ∀ (n : Nat) (gg : GS) (v1 : Int32) (v2 : Int32) (v3 : Int32) (v4 : Int32) (v5 : Int32) (v6 : Int32) (v7 : Int32) (v8 : Int32) (v9 : Int32) (v10 : Nat), nn v1 - v10 < n → (Gn gg) → (v10 ≤ nn v1) → ∀ (H : Heap) (locs : List Loc) (ls : Array Slot), JG E B s_ gg H locs → lv_has ls 15 [(0, .ref (B + 0)), (1, .int v1), (2, .int v2), (3, .int v3), (4, .int v4), (5, .int v5), (6, .int v6), (7, .int v7), (8, .int v8), (9, .int v9), (10, .int (nI v10))] → sL_hangs g = bL_hangs_402 n gg v1 v2 v3 v4 v5 v6 v7 v8 v9 v10 → W P_ l e_ (rmm 6 138 0 0) s_ m_ a_ below meth cd H locs 0 0 Q (F0 m_ 402 ls []) := by
    intro n
    induction n with
    | zero => intro gg v1 v2 v3 v4 v5 v6 v7 v8 v9 v10 hm; exact absurd hm (Nat.not_lt_zero _)
    | succ n_402 ih_402 =>
      intro gg v1 v2 v3 v4 v5 v6 v7 v8 v9 v10 hm hgn hp_402 H locs ls hJ hl hs
      have bk_626 : ∀ (n : Nat) (gg : GS) (v4 : Int32) (v6 : Int32) (v9 : Int32) (v14 : Nat), nn v2 - v14 < n → (Gn gg) → (v14 ≤ nn v2) → (v10 < nn v1) → ∀ (H : Heap) (locs : List Loc) (ls : Array Slot), JG E B s_ gg H locs → lv_has ls 15 [(0, .ref (B + 0)), (1, .int v1), (2, .int v2), (3, .int v3), (4, .int v4), (5, .int v5), (6, .int v6), (7, .int v7), (8, .int v8), (9, .int v9), (10, .int (nI v10)), (14, .int (nI v14))] → sL_hangs g = bL_hangs_626 (bL_hangs_402 n_402) n gg v1 v2 v3 v4 v5 v6 v7 v8 v9 v10 v14 → W P_ l e_ (rmm 6 138 0 0) s_ m_ a_ below meth cd H locs 0 0 Q (F0 m_ 626 ls []) := by
        intro n
        induction n with
        | zero => intro gg v4 v6 v9 v14 hm; exact absurd hm (Nat.not_lt_zero _)
        | succ n_626 ih_626 =>
          intro gg v4 v6 v9 v14 hm hgn hp_626 hp2_402 H locs ls hJ hl hs
          refine lv_iload hx hb dL_hangs_626 (lv_at hl 11 rfl) ?_
          refine lv_iload_n hx hb dL_hangs_628 rfl (lv_at hl 2 rfl) ?_
          refine lv_icmp_ge (tgt := 678) hx hb dL_hangs_629 (by decide) (fun c_629 => ?_) (fun c_629 => ?_)
          · skip
            refine lv_iinc (v := nI (v10 + 1)) (lv' := [(10, .int (nI (v10 + 1))), (0, .ref (B + 0)), (1, .int v1), (2, .int v2), (3, .int v3), (4, .int v4), (5, .int v5), (6, .int v6), (7, .int v7), (8, .int v8), (9, .int v9), (14, .int (nI v14))]) hx hb dL_hangs_678 hl (k := 10) rfl (by first | exact nI_add _ _ | rfl) (by decide) rfl (fun ls hl => ?_)
            refine lv_goto (tgt := 402) hx hb dL_hangs_681 (by decide) ?_
            have hs : sL_hangs g = bL_hangs_402 n_402 gg v1 v2 v3 v4 v5 v6 v7 v8 v9 (v10 + 1) := hs.trans (by rw [bL_hangs_626, if_pos c_629])
            exact ih_402 gg v1 v2 v3 v4 v5 v6 v7 v8 v9 (v10 + 1) (by omega) (hgn) (by omega) _ _ _ hJ (lv_sub hl [1, 2, 3, 4, 5, 6, 7, 8, 9, 10, 0] rfl) hs
          · skip
            have hp2_626 : v14 < nn v2 := nlt_cnt c_629 (by have := nn_b (c := v2); omega)
            refine lv_aload_n hx hb dL_hangs_632 rfl (lv_at hl 0 rfl) ?_
            refine lv_iload hx hb dL_hangs_633 (lv_at hl 11 rfl) ?_
            refine lv_iload hx hb dL_hangs_635 (lv_at hl 10 rfl) ?_
            refine lv_iconst (v := 0) hx hb dL_hangs_637 (by decide) ?_
            refine kL_35 X hJ (mX6_knows l E B gg (nI v14) (nI v10) 0 (hgn)) rfl (by omega) at_X hl.1 ⟨Nat.le_of_ble_eq_true rfl, Nat.le_of_ble_eq_true rfl⟩ ⟨Nat.le_refl _, Nat.le_refl _⟩ (rest := []) rfl (Nat.le_of_ble_eq_true rfl) dL_hangs_638 (fun H locs hJ => ?_)
            refine lv_aload_n hx hb dL_hangs_641 rfl (lv_at hl 0 rfl) ?_
            refine lv_iload hx hb dL_hangs_642 (lv_at hl 10 rfl) ?_
            refine lv_iconst (v := 3) hx hb dL_hangs_644 (by decide) ?_
            refine kL_26 X hJ (mX6_ofBridge l E B gg (nI v10) 3 (hgn)) rfl (by omega) at_X hl.1 ⟨Nat.le_of_ble_eq_true rfl, Nat.le_of_ble_eq_true rfl⟩ ⟨Nat.le_refl _, Nat.le_refl _⟩ (rest := [.int (sX6_knows gg (nI v14) (nI v10) 0)]) rfl (Nat.le_of_ble_eq_true rfl) dL_hangs_645 (fun H locs hJ => ?_)
            refine lv_icmp_gt (tgt := 670) hx hb dL_hangs_648 (by decide) (fun c_648 => ?_) (fun c_648 => ?_)
            · skip
              refine lv_iconst (v := 0) hx hb dL_hangs_670 (by decide) ?_
              have hs : sL_hangs g = (0, gg) := hs.trans (by rw [bL_hangs_626, if_neg c_629, if_pos c_648])
              exact fin (by rw [hs]; dsimp only; exact hJ) (by rw [hs]) dL_hangs_671
            · skip
              refine lv_aload_n hx hb dL_hangs_651 rfl (lv_at hl 0 rfl) ?_
              refine lv_iload hx hb dL_hangs_652 (lv_at hl 11 rfl) ?_
              refine lv_iload hx hb dL_hangs_654 (lv_at hl 10 rfl) ?_
              refine lv_iconst (v := 1) hx hb dL_hangs_656 (by decide) ?_
              refine kL_35 X hJ (mX6_knows l E B gg (nI v14) (nI v10) 1 (hgn)) rfl (by omega) at_X hl.1 ⟨Nat.le_of_ble_eq_true rfl, Nat.le_of_ble_eq_true rfl⟩ ⟨Nat.le_refl _, Nat.le_refl _⟩ (rest := []) rfl (Nat.le_of_ble_eq_true rfl) dL_hangs_657 (fun H locs hJ => ?_)
              refine lv_aload_n hx hb dL_hangs_660 rfl (lv_at hl 0 rfl) ?_
              refine lv_iload hx hb dL_hangs_661 (lv_at hl 10 rfl) ?_
              refine lv_iconst (v := 3) hx hb dL_hangs_663 (by decide) ?_
              refine kL_26 X hJ (mX6_ofBridge l E B gg (nI v10) 3 (hgn)) rfl (by omega) at_X hl.1 ⟨Nat.le_of_ble_eq_true rfl, Nat.le_of_ble_eq_true rfl⟩ ⟨Nat.le_refl _, Nat.le_refl _⟩ (rest := [.int (sX6_knows gg (nI v14) (nI v10) 1)]) rfl (Nat.le_of_ble_eq_true rfl) dL_hangs_664 (fun H locs hJ => ?_)
              refine lv_icmp_ge (tgt := 672) hx hb dL_hangs_667 (by decide) (fun c_667 => ?_) (fun c_667 => ?_)
              · skip
                refine lv_iinc (v := nI (v14 + 1)) (lv' := [(14, .int (nI (v14 + 1))), (0, .ref (B + 0)), (1, .int v1), (2, .int v2), (3, .int v3), (4, .int v4), (5, .int v5), (6, .int v6), (7, .int v7), (8, .int v8), (9, .int v9), (10, .int (nI v10))]) hx hb dL_hangs_672 hl (k := 11) rfl (by first | exact nI_add _ _ | rfl) (by decide) rfl (fun ls hl => ?_)
                refine lv_goto (tgt := 626) hx hb dL_hangs_675 (by decide) ?_
                have hs : sL_hangs g = bL_hangs_626 (bL_hangs_402 n_402) n_626 gg v1 v2 v3 v4 v5 v6 v7 v8 v9 v10 (v14 + 1) := hs.trans (by rw [bL_hangs_626, if_neg c_629, if_neg c_648, if_pos c_667])
                exact ih_626 gg v4 v6 v9 (v14 + 1) (by omega) (hgn) (by omega) (hp2_402) _ _ _ hJ (lv_sub hl [1, 2, 3, 4, 5, 6, 7, 8, 9, 10, 11, 0] rfl) hs
              · skip
                refine lv_iconst (v := 0) hx hb dL_hangs_670 (by decide) ?_
                have hs : sL_hangs g = (0, gg) := hs.trans (by rw [bL_hangs_626, if_neg c_629, if_neg c_648, if_neg c_667])
                exact fin (by rw [hs]; dsimp only; exact hJ) (by rw [hs]) dL_hangs_671
      have bk_594 : ∀ (gg : GS) (v4 : Int32) (v6 : Int32) (v9 : Int32), (Gn gg) → (v10 < nn v1) → ∀ (H : Heap) (locs : List Loc) (ls : Array Slot), JG E B s_ gg H locs → lv_has ls 15 [(0, .ref (B + 0)), (1, .int v1), (2, .int v2), (3, .int v3), (4, .int v4), (5, .int v5), (6, .int v6), (7, .int v7), (8, .int v8), (9, .int v9), (10, .int (nI v10))] → sL_hangs g = bL_hangs_594 (bL_hangs_402 n_402) gg v1 v2 v3 v4 v5 v6 v7 v8 v9 v10 → W P_ l e_ (rmm 6 138 0 0) s_ m_ a_ below meth cd H locs 0 0 Q (F0 m_ 594 ls []) := by
        intro gg v4 v6 v9 hgn hp2_402 H locs ls hJ hl hs
        refine lv_aload_n hx hb dL_hangs_594 rfl (lv_at hl 0 rfl) ?_
        refine lv_iload hx hb dL_hangs_595 (lv_at hl 10 rfl) ?_
        refine lv_iconst (v := 3) hx hb dL_hangs_597 (by decide) ?_
        refine kL_26 X hJ (mX6_ofBridge l E B gg (nI v10) 3 (hgn)) rfl (by omega) at_X hl.1 ⟨Nat.le_of_ble_eq_true rfl, Nat.le_of_ble_eq_true rfl⟩ ⟨Nat.le_refl _, Nat.le_refl _⟩ (rest := []) rfl (Nat.le_of_ble_eq_true rfl) dL_hangs_598 (fun H locs hJ => ?_)
        refine lv_if_lt (tgt := 621) hx hb dL_hangs_601 (by decide) (fun c_601 => ?_) (fun c_601 => ?_)
        · skip
          refine lv_iconst (v := 0) hx hb dL_hangs_621 (by decide) ?_
          have hs : sL_hangs g = (0, gg) := hs.trans (by unfold bL_hangs_594; rw [if_pos c_601])
          exact fin (by rw [hs]; dsimp only; exact hJ) (by rw [hs]) dL_hangs_622
        · skip
          refine lv_aload_n hx hb dL_hangs_604 rfl (lv_at hl 0 rfl) ?_
          refine lv_iload hx hb dL_hangs_605 (lv_at hl 10 rfl) ?_
          refine lv_iconst (v := 3) hx hb dL_hangs_607 (by decide) ?_
          refine kL_26 X hJ (mX6_ofBridge l E B gg (nI v10) 3 (hgn)) rfl (by omega) at_X hl.1 ⟨Nat.le_of_ble_eq_true rfl, Nat.le_of_ble_eq_true rfl⟩ ⟨Nat.le_refl _, Nat.le_refl _⟩ (rest := []) rfl (Nat.le_of_ble_eq_true rfl) dL_hangs_608 (fun H locs hJ => ?_)
          refine lv_aload_n hx hb dL_hangs_611 rfl (lv_at hl 0 rfl) ?_
          refine lv_iload hx hb dL_hangs_612 (lv_at hl 10 rfl) ?_
          refine lv_iconst (v := 2) hx hb dL_hangs_614 (by decide) ?_
          refine kL_26 X hJ (mX6_ofBridge l E B gg (nI v10) 2 (hgn)) rfl (by omega) at_X hl.1 ⟨Nat.le_of_ble_eq_true rfl, Nat.le_of_ble_eq_true rfl⟩ ⟨Nat.le_refl _, Nat.le_refl _⟩ (rest := [.int (sX6_ofBridge gg (nI v10) 3)]) rfl (Nat.le_of_ble_eq_true rfl) dL_hangs_615 (fun H locs hJ => ?_)
          refine lv_icmp_lt (tgt := 623) hx hb dL_hangs_618 (by decide) (fun c_618 => ?_) (fun c_618 => ?_)
          · skip
            refine lv_iconst (v := 0) hx hb dL_hangs_623 (by decide) ?_
            refine lv_istore (lv' := [(14, .int 0), (0, .ref (B + 0)), (1, .int v1), (2, .int v2), (3, .int v3), (4, .int v4), (5, .int v5), (6, .int v6), (7, .int v7), (8, .int v8), (9, .int v9), (10, .int (nI v10))]) hx hb dL_hangs_624 hl (by decide) rfl (fun ls hl => ?_)
            have hs : sL_hangs g = bL_hangs_626 (bL_hangs_402 n_402) (nn v2 + 1) gg v1 v2 v3 v4 v5 v6 v7 v8 v9 v10 0 := hs.trans (by unfold bL_hangs_594; rw [if_neg c_601, if_pos c_618])
            exact bk_626 (nn v2 + 1) gg v4 v6 v9 0 (by omega) (hgn) (by omega) (hp2_402) _ _ _ hJ (lv_sub hl [1, 2, 3, 4, 5, 6, 7, 8, 9, 10, 11, 0] rfl) hs
          · skip
            refine lv_iconst (v := 0) hx hb dL_hangs_621 (by decide) ?_
            have hs : sL_hangs g = (0, gg) := hs.trans (by unfold bL_hangs_594; rw [if_neg c_601, if_neg c_618])
            exact fin (by rw [hs]; dsimp only; exact hJ) (by rw [hs]) dL_hangs_622
      have bk_450 : ∀ (n : Nat) (gg : GS) (v4 : Int32) (v6 : Int32) (v9 : Int32) (v11 : Int32) (v12 : Int32) (v13 : Nat), nn v11 - v13 < n → (Gn gg) → (v13 ≤ nn v11) → (v10 < nn v1) → ∀ (H : Heap) (locs : List Loc) (ls : Array Slot), JG E B s_ gg H locs → lv_has ls 15 [(0, .ref (B + 0)), (1, .int v1), (2, .int v2), (3, .int v3), (4, .int v4), (5, .int v5), (6, .int v6), (7, .int v7), (8, .int v8), (9, .int v9), (10, .int (nI v10)), (11, .int v11), (12, .int v12), (13, .int (nI v13))] → sL_hangs g = bL_hangs_450 (bL_hangs_402 n_402) n gg v1 v2 v3 v4 v5 v6 v7 v8 v9 v10 v11 v12 v13 → W P_ l e_ (rmm 6 138 0 0) s_ m_ a_ below meth cd H locs 0 0 Q (F0 m_ 450 ls []) := by
        intro n
        induction n with
        | zero => intro gg v4 v6 v9 v11 v12 v13 hm; exact absurd hm (Nat.not_lt_zero _)
        | succ n_450 ih_450 =>
          intro gg v4 v6 v9 v11 v12 v13 hm hgn hp_450 hp2_402 H locs ls hJ hl hs
          refine lv_iload hx hb dL_hangs_450 (lv_at hl 13 rfl) ?_
          refine lv_iload hx hb dL_hangs_452 (lv_at hl 11 rfl) ?_
          refine lv_icmp_ge (tgt := 533) hx hb dL_hangs_454 (by decide) (fun c_454 => ?_) (fun c_454 => ?_)
          · skip
            refine lv_aload_n hx hb dL_hangs_533 rfl (lv_at hl 0 rfl) ?_
            refine lv_iload hx hb dL_hangs_534 (lv_at hl 10 rfl) ?_
            refine kL_29 X hJ (mX6_next l E B gg (nI v10) (hgn)) rfl (by omega) at_X hl.1 ⟨Nat.le_of_ble_eq_true rfl, Nat.le_of_ble_eq_true rfl⟩ ⟨Nat.le_refl _, Nat.le_refl _⟩ (rest := []) rfl (Nat.le_of_ble_eq_true rfl) dL_hangs_536 (fun H locs hJ => ?_)
            refine lv_istore (lv' := [(13, .int (sX6_next gg (nI v10))), (0, .ref (B + 0)), (1, .int v1), (2, .int v2), (3, .int v3), (4, .int v4), (5, .int v5), (6, .int v6), (7, .int v7), (8, .int v8), (9, .int v9), (10, .int (nI v10)), (11, .int v11), (12, .int v12)]) hx hb dL_hangs_539 hl (by decide) rfl (fun ls hl => ?_)
            refine lv_aload_n hx hb dL_hangs_541 rfl (lv_at hl 1 rfl) ?_
            refine lv_iload hx hb dL_hangs_542 (lv_at hl 11 rfl) ?_
            refine lv_iload hx hb dL_hangs_544 (lv_at hl 12 rfl) ?_
            refine kL_32 X hJ (mX6_waits l E B gg (nI v10) v11 (hgn)) rfl (by omega) at_X hl.1 ⟨Nat.le_of_ble_eq_true rfl, Nat.le_of_ble_eq_true rfl⟩ ⟨Nat.le_refl _, Nat.le_refl _⟩ (rest := []) rfl (Nat.le_of_ble_eq_true rfl) dL_hangs_546 (fun H locs hJ => ?_)
            refine lv_iconst (v := (-1)) hx hb dL_hangs_549 (by decide) ?_
            refine lv_icmp_ne (tgt := 621) hx hb dL_hangs_550 (by decide) (fun c_550 => ?_) (fun c_550 => ?_)
            · skip
              refine lv_iconst (v := 0) hx hb dL_hangs_621 (by decide) ?_
              have hs : sL_hangs g = (0, gg) := hs.trans (by rw [bL_hangs_450, if_pos c_454, if_neg c_550])
              exact fin (by rw [hs]; dsimp only; exact hJ) (by rw [hs]) dL_hangs_622
            · skip
              refine lv_aload_n hx hb dL_hangs_553 rfl (lv_at hl 1 rfl) ?_
              refine lv_iload hx hb dL_hangs_554 (lv_at hl 11 rfl) ?_
              refine lv_iconst (v := 5) hx hb dL_hangs_556 (by decide) ?_
              refine kL_26 X hJ (mX6_ofBridge l E B gg (nI v10) 5 (hgn)) rfl (by omega) at_X hl.1 ⟨Nat.le_of_ble_eq_true rfl, Nat.le_of_ble_eq_true rfl⟩ ⟨Nat.le_refl _, Nat.le_refl _⟩ (rest := []) rfl (Nat.le_of_ble_eq_true rfl) dL_hangs_557 (fun H locs hJ => ?_)
              refine lv_if_lt (tgt := 621) hx hb dL_hangs_560 (by decide) (fun c_560 => ?_) (fun c_560 => ?_)
              · skip
                refine lv_iconst (v := 0) hx hb dL_hangs_621 (by decide) ?_
                have hs : sL_hangs g = (0, gg) := hs.trans (by rw [bL_hangs_450, if_pos c_454, if_pos c_550, if_pos c_560])
                exact fin (by rw [hs]; dsimp only; exact hJ) (by rw [hs]) dL_hangs_622
              · skip
                refine lv_iload hx hb dL_hangs_563 (lv_at hl 0 rfl) ?_
                refine lv_bipush (v := (-6)) hx hb dL_hangs_565 (by decide) ?_
                refine lv_icmp_eq (tgt := 594) hx hb dL_hangs_567 (by decide) (fun c_567 => ?_) (fun c_567 => ?_)
                · skip
                  have hs : sL_hangs g = bL_hangs_594 (bL_hangs_402 n_402) gg v1 v2 v3 v4 v5 v6 v7 v8 v9 v10 := hs.trans (by rw [bL_hangs_450, if_pos c_454, if_pos c_550, if_neg c_560, if_pos c_567])
                  exact bk_594 gg v4 v6 v9 (hgn) (hp2_402) _ _ _ hJ (lv_sub hl [1, 2, 3, 4, 5, 6, 7, 8, 9, 10, 11] rfl) hs
                · skip
                  refine lv_iload hx hb dL_hangs_570 (lv_at hl 0 rfl) ?_
                  refine lv_aload_n hx hb dL_hangs_572 rfl (lv_at hl 1 rfl) ?_
                  refine lv_iload hx hb dL_hangs_573 (lv_at hl 11 rfl) ?_
                  refine lv_iconst (v := 0) hx hb dL_hangs_575 (by decide) ?_
                  refine kL_32 X hJ (mX6_waits l E B gg (nI v10) 0 (hgn)) rfl (by omega) at_X hl.1 ⟨Nat.le_of_ble_eq_true rfl, Nat.le_of_ble_eq_true rfl⟩ ⟨Nat.le_refl _, Nat.le_refl _⟩ (rest := [.int (sX6_next gg (nI v10))]) rfl (Nat.le_of_ble_eq_true rfl) dL_hangs_576 (fun H locs hJ => ?_)
                  refine lv_icmp_eq (tgt := 594) hx hb dL_hangs_579 (by decide) (fun c_579 => ?_) (fun c_579 => ?_)
                  · skip
                    have hs : sL_hangs g = bL_hangs_594 (bL_hangs_402 n_402) gg v1 v2 v3 v4 v5 v6 v7 v8 v9 v10 := hs.trans (by rw [bL_hangs_450, if_pos c_454, if_pos c_550, if_neg c_560, if_neg c_567, if_pos c_579])
                    exact bk_594 gg v4 v6 v9 (hgn) (hp2_402) _ _ _ hJ (lv_sub hl [1, 2, 3, 4, 5, 6, 7, 8, 9, 10, 11] rfl) hs
                  · skip
                    refine lv_iload hx hb dL_hangs_582 (lv_at hl 0 rfl) ?_
                    refine lv_aload_n hx hb dL_hangs_584 rfl (lv_at hl 1 rfl) ?_
                    refine lv_iload hx hb dL_hangs_585 (lv_at hl 11 rfl) ?_
                    refine lv_iconst (v := 1) hx hb dL_hangs_587 (by decide) ?_
                    refine kL_32 X hJ (mX6_waits l E B gg (nI v10) 1 (hgn)) rfl (by omega) at_X hl.1 ⟨Nat.le_of_ble_eq_true rfl, Nat.le_of_ble_eq_true rfl⟩ ⟨Nat.le_refl _, Nat.le_refl _⟩ (rest := [.int (sX6_next gg (nI v10))]) rfl (Nat.le_of_ble_eq_true rfl) dL_hangs_588 (fun H locs hJ => ?_)
                    refine lv_icmp_ne (tgt := 621) hx hb dL_hangs_591 (by decide) (fun c_591 => ?_) (fun c_591 => ?_)
                    · skip
                      refine lv_iconst (v := 0) hx hb dL_hangs_621 (by decide) ?_
                      have hs : sL_hangs g = (0, gg) := hs.trans (by rw [bL_hangs_450, if_pos c_454, if_pos c_550, if_neg c_560, if_neg c_567, if_neg c_579, if_neg c_591])
                      exact fin (by rw [hs]; dsimp only; exact hJ) (by rw [hs]) dL_hangs_622
                    · skip
                      have hs : sL_hangs g = bL_hangs_594 (bL_hangs_402 n_402) gg v1 v2 v3 v4 v5 v6 v7 v8 v9 v10 := hs.trans (by rw [bL_hangs_450, if_pos c_454, if_pos c_550, if_neg c_560, if_neg c_567, if_neg c_579, if_pos c_591])
                      exact bk_594 gg v4 v6 v9 (hgn) (hp2_402) _ _ _ hJ (lv_sub hl [1, 2, 3, 4, 5, 6, 7, 8, 9, 10, 11] rfl) hs
          · skip
            have hp2_450 : v13 < nn v11 := nlt_cnt c_454 (by have := nn_b (c := v11); omega)
            refine lv_aload_n hx hb dL_hangs_457 rfl (lv_at hl 0 rfl) ?_
            refine lv_iload hx hb dL_hangs_458 (lv_at hl 10 rfl) ?_
            refine lv_iload hx hb dL_hangs_460 (lv_at hl 13 rfl) ?_
            refine kL_32 X hJ (mX6_waits l E B gg (nI v10) (nI v13) (hgn)) rfl (by omega) at_X hl.1 ⟨Nat.le_of_ble_eq_true rfl, Nat.le_of_ble_eq_true rfl⟩ ⟨Nat.le_refl _, Nat.le_refl _⟩ (rest := []) rfl (Nat.le_of_ble_eq_true rfl) dL_hangs_462 (fun H locs hJ => ?_)
            refine lv_istore (lv' := [(14, .int (sX6_waits gg (nI v10) (nI v13))), (0, .ref (B + 0)), (1, .int v1), (2, .int v2), (3, .int v3), (4, .int v4), (5, .int v5), (6, .int v6), (7, .int v7), (8, .int v8), (9, .int v9), (10, .int (nI v10)), (11, .int v11), (12, .int v12), (13, .int (nI v13))]) hx hb dL_hangs_465 hl (by decide) rfl (fun ls hl => ?_)
            refine lv_iload hx hb dL_hangs_467 (lv_at hl 0 rfl) ?_
            refine lv_if_lt (tgt := 507) hx hb dL_hangs_469 (by decide) (fun c_469 => ?_) (fun c_469 => ?_)
            · skip
              refine lv_iconst (v := 0) hx hb dL_hangs_507 (by decide) ?_
              have hs : sL_hangs g = (0, gg) := hs.trans (by rw [bL_hangs_450, if_neg c_454, if_pos c_469])
              exact fin (by rw [hs]; dsimp only; exact hJ) (by rw [hs]) dL_hangs_508
            · skip
              refine lv_iload hx hb dL_hangs_472 (lv_at hl 10 rfl) ?_
              refine lv_iload hx hb dL_hangs_474 (lv_at hl 0 rfl) ?_
              refine lv_ishr hx hb dL_hangs_476 ?_
              refine lv_iconst (v := 1) hx hb dL_hangs_477 (by decide) ?_
              refine lv_iand hx hb dL_hangs_478 ?_
              refine lv_iconst (v := 1) hx hb dL_hangs_479 (by decide) ?_
              refine lv_icmp_eq (tgt := 507) hx hb dL_hangs_480 (by decide) (fun c_480 => ?_) (fun c_480 => ?_)
              · skip
                refine lv_iconst (v := 0) hx hb dL_hangs_507 (by decide) ?_
                have hs : sL_hangs g = (0, gg) := hs.trans (by rw [bL_hangs_450, if_neg c_454, if_neg c_469, if_pos c_480])
                exact fin (by rw [hs]; dsimp only; exact hJ) (by rw [hs]) dL_hangs_508
              · skip
                refine lv_aload_n hx hb dL_hangs_483 rfl (lv_at hl 1 rfl) ?_
                refine lv_iload hx hb dL_hangs_484 (lv_at hl 0 rfl) ?_
                refine lv_iconst (v := 2) hx hb dL_hangs_486 (by decide) ?_
                refine kL_16 X hJ (mX6_ofCart l E B gg (sX6_waits gg (nI v10) (nI v13)) 2 (hgn)) rfl (by omega) at_X hl.1 ⟨Nat.le_of_ble_eq_true rfl, Nat.le_of_ble_eq_true rfl⟩ ⟨Nat.le_refl _, Nat.le_refl _⟩ (rest := []) rfl (Nat.le_of_ble_eq_true rfl) dL_hangs_487 (fun H locs hJ => ?_)
                refine lv_iload hx hb dL_hangs_490 (lv_at hl 11 rfl) ?_
                refine lv_icmp_ne (tgt := 507) hx hb dL_hangs_492 (by decide) (fun c_492 => ?_) (fun c_492 => ?_)
                · skip
                  refine lv_iconst (v := 0) hx hb dL_hangs_507 (by decide) ?_
                  have hs : sL_hangs g = (0, gg) := hs.trans (by rw [bL_hangs_450, if_neg c_454, if_neg c_469, if_neg c_480, if_neg c_492])
                  exact fin (by rw [hs]; dsimp only; exact hJ) (by rw [hs]) dL_hangs_508
                · skip
                  refine lv_aload_n hx hb dL_hangs_495 rfl (lv_at hl 1 rfl) ?_
                  refine lv_iload hx hb dL_hangs_496 (lv_at hl 0 rfl) ?_
                  refine lv_iconst (v := 4) hx hb dL_hangs_498 (by decide) ?_
                  refine kL_16 X hJ (mX6_ofCart l E B gg (sX6_waits gg (nI v10) (nI v13)) 4 (hgn)) rfl (by omega) at_X hl.1 ⟨Nat.le_of_ble_eq_true rfl, Nat.le_of_ble_eq_true rfl⟩ ⟨Nat.le_refl _, Nat.le_refl _⟩ (rest := []) rfl (Nat.le_of_ble_eq_true rfl) dL_hangs_499 (fun H locs hJ => ?_)
                  refine lv_iload hx hb dL_hangs_502 (lv_at hl 13 rfl) ?_
                  refine lv_icmp_le (tgt := 509) hx hb dL_hangs_504 (by decide) (fun c_504 => ?_) (fun c_504 => ?_)
                  · skip
                    refine lv_aload_n hx hb dL_hangs_509 rfl (lv_at hl 1 rfl) ?_
                    refine lv_iload hx hb dL_hangs_510 (lv_at hl 0 rfl) ?_
                    refine lv_iconst (v := 4) hx hb dL_hangs_512 (by decide) ?_
                    refine kL_16 X hJ (mX6_ofCart l E B gg (sX6_waits gg (nI v10) (nI v13)) 4 (hgn)) rfl (by omega) at_X hl.1 ⟨Nat.le_of_ble_eq_true rfl, Nat.le_of_ble_eq_true rfl⟩ ⟨Nat.le_refl _, Nat.le_refl _⟩ (rest := []) rfl (Nat.le_of_ble_eq_true rfl) dL_hangs_513 (fun H locs hJ => ?_)
                    refine lv_istore (lv' := [(12, .int (sX6_ofCart gg (sX6_waits gg (nI v10) (nI v13)) 4)), (14, .int (sX6_waits gg (nI v10) (nI v13))), (0, .ref (B + 0)), (1, .int v1), (2, .int v2), (3, .int v3), (4, .int v4), (5, .int v5), (6, .int v6), (7, .int v7), (8, .int v8), (9, .int v9), (10, .int (nI v10)), (11, .int v11), (13, .int (nI v13))]) hx hb dL_hangs_516 hl (by decide) rfl (fun ls hl => ?_)
                    refine lv_iload hx hb dL_hangs_518 (lv_at hl 11 rfl) ?_
                    refine lv_iconst (v := 1) hx hb dL_hangs_520 (by decide) ?_
                    refine lv_iload hx hb dL_hangs_521 (lv_at hl 1 rfl) ?_
                    refine lv_ishl hx hb dL_hangs_523 ?_
                    refine lv_ior hx hb dL_hangs_524 ?_
                    refine lv_istore (lv' := [(9, .int (v9 ||| (1 <<< ((sX6_waits gg (nI v10) (nI v13)) &&& 31)))), (12, .int (sX6_ofCart gg (sX6_waits gg (nI v10) (nI v13)) 4)), (14, .int (sX6_waits gg (nI v10) (nI v13))), (0, .ref (B + 0)), (1, .int v1), (2, .int v2), (3, .int v3), (4, .int v4), (5, .int v5), (6, .int v6), (7, .int v7), (8, .int v8), (10, .int (nI v10)), (11, .int v11), (13, .int (nI v13))]) hx hb dL_hangs_525 hl (by decide) rfl (fun ls hl => ?_)
                    refine lv_iinc (v := nI (v13 + 1)) (lv' := [(13, .int (nI (v13 + 1))), (9, .int (v9 ||| (1 <<< ((sX6_waits gg (nI v10) (nI v13)) &&& 31)))), (12, .int (sX6_ofCart gg (sX6_waits gg (nI v10) (nI v13)) 4)), (14, .int (sX6_waits gg (nI v10) (nI v13))), (0, .ref (B + 0)), (1, .int v1), (2, .int v2), (3, .int v3), (4, .int v4), (5, .int v5), (6, .int v6), (7, .int v7), (8, .int v8), (10, .int (nI v10)), (11, .int v11)]) hx hb dL_hangs_527 hl (k := 14) rfl (by first | exact nI_add _ _ | rfl) (by decide) rfl (fun ls hl => ?_)
                    refine lv_goto (tgt := 450) hx hb dL_hangs_530 (by decide) ?_
                    have hs : sL_hangs g = bL_hangs_450 (bL_hangs_402 n_402) n_450 gg v1 v2 v3 v4 v5 v6 v7 v8 (v9 ||| (1 <<< ((sX6_waits gg (nI v10) (nI v13)) &&& 31))) v10 v11 (sX6_ofCart gg (sX6_waits gg (nI v10) (nI v13)) 4) (v13 + 1) := hs.trans (by rw [bL_hangs_450, if_neg c_454, if_neg c_469, if_neg c_480, if_pos c_492, if_pos c_504])
                    exact ih_450 gg v4 v6 (v9 ||| (1 <<< ((sX6_waits gg (nI v10) (nI v13)) &&& 31))) v11 (sX6_ofCart gg (sX6_waits gg (nI v10) (nI v13)) 4) (v13 + 1) (by omega) (hgn) (by omega) (hp2_402) _ _ _ hJ (lv_sub hl [4, 5, 6, 7, 8, 9, 10, 11, 12, 1, 13, 14, 2, 0] rfl) hs
                  · skip
                    refine lv_iconst (v := 0) hx hb dL_hangs_507 (by decide) ?_
                    have hs : sL_hangs g = (0, gg) := hs.trans (by rw [bL_hangs_450, if_neg c_454, if_neg c_469, if_neg c_480, if_pos c_492, if_neg c_504])
                    exact fin (by rw [hs]; dsimp only; exact hJ) (by rw [hs]) dL_hangs_508
      refine lv_iload hx hb dL_hangs_402 (lv_at hl 10 rfl) ?_
      refine lv_iload_n hx hb dL_hangs_404 rfl (lv_at hl 1 rfl) ?_
      refine lv_icmp_ge (tgt := 684) hx hb dL_hangs_405 (by decide) (fun c_405 => ?_) (fun c_405 => ?_)
      · skip
        refine lv_iload hx hb dL_hangs_684 (lv_at hl 9 rfl) ?_
        refine lv_iload hx hb dL_hangs_686 (lv_at hl 7 rfl) ?_
        refine lv_icmp_ne (tgt := 762) hx hb dL_hangs_688 (by decide) (fun c_688 => ?_) (fun c_688 => ?_)
        · skip
          refine lv_iconst (v := 0) hx hb dL_hangs_762 (by decide) ?_
          have hs : sL_hangs g = (0, gg) := hs.trans (by rw [bL_hangs_402, if_pos c_405, if_neg c_688])
          exact fin (by rw [hs]; dsimp only; exact hJ) (by rw [hs]) dL_hangs_763
        · skip
          refine lv_iload hx hb dL_hangs_691 (lv_at hl 7 rfl) ?_
          refine lv_aload_n hx hb dL_hangs_693 rfl (lv_at hl 0 rfl) ?_
          refine lv_iconst (v := 3) hx hb dL_hangs_694 (by decide) ?_
          refine kL_10 X hJ (mX6_count l E B gg 3 (hgn)) rfl (by omega) at_X hl.1 ⟨Nat.le_of_ble_eq_true rfl, Nat.le_of_ble_eq_true rfl⟩ ⟨Nat.le_refl _, Nat.le_refl _⟩ (rest := [.int v7]) rfl (Nat.le_of_ble_eq_true rfl) dL_hangs_695 (fun H locs hJ => ?_)
          refine lv_icmp_ne (tgt := 762) hx hb dL_hangs_698 (by decide) (fun c_698 => ?_) (fun c_698 => ?_)
          · skip
            refine lv_iconst (v := 0) hx hb dL_hangs_762 (by decide) ?_
            have hs : sL_hangs g = (0, gg) := hs.trans (by rw [bL_hangs_402, if_pos c_405, if_pos c_688, if_neg c_698])
            exact fin (by rw [hs]; dsimp only; exact hJ) (by rw [hs]) dL_hangs_763
          · skip
            refine lv_iload hx hb dL_hangs_701 (lv_at hl 5 rfl) ?_
            refine lv_iload hx hb dL_hangs_703 (lv_at hl 6 rfl) ?_
            refine lv_icmp_ne (tgt := 762) hx hb dL_hangs_705 (by decide) (fun c_705 => ?_) (fun c_705 => ?_)
            · skip
              refine lv_iconst (v := 0) hx hb dL_hangs_762 (by decide) ?_
              have hs : sL_hangs g = (0, gg) := hs.trans (by rw [bL_hangs_402, if_pos c_405, if_pos c_688, if_pos c_698, if_neg c_705])
              exact fin (by rw [hs]; dsimp only; exact hJ) (by rw [hs]) dL_hangs_763
            · skip
              refine lv_iload hx hb dL_hangs_708 (lv_at hl 5 rfl) ?_
              refine lv_aload_n hx hb dL_hangs_710 rfl (lv_at hl 0 rfl) ?_
              refine lv_iconst (v := 4) hx hb dL_hangs_711 (by decide) ?_
              refine kL_10 X hJ (mX6_count l E B gg 4 (hgn)) rfl (by omega) at_X hl.1 ⟨Nat.le_of_ble_eq_true rfl, Nat.le_of_ble_eq_true rfl⟩ ⟨Nat.le_refl _, Nat.le_refl _⟩ (rest := [.int v5]) rfl (Nat.le_of_ble_eq_true rfl) dL_hangs_712 (fun H locs hJ => ?_)
              refine lv_icmp_ne (tgt := 762) hx hb dL_hangs_715 (by decide) (fun c_715 => ?_) (fun c_715 => ?_)
              · skip
                refine lv_iconst (v := 0) hx hb dL_hangs_762 (by decide) ?_
                have hs : sL_hangs g = (0, gg) := hs.trans (by rw [bL_hangs_402, if_pos c_405, if_pos c_688, if_pos c_698, if_pos c_705, if_neg c_715])
                exact fin (by rw [hs]; dsimp only; exact hJ) (by rw [hs]) dL_hangs_763
              · skip
                refine lv_iload_n hx hb dL_hangs_718 rfl (lv_at hl 3 rfl) ?_
                refine lv_aload_n hx hb dL_hangs_719 rfl (lv_at hl 0 rfl) ?_
                refine lv_iconst (v := 5) hx hb dL_hangs_720 (by decide) ?_
                refine kL_10 X hJ (mX6_count l E B gg 5 (hgn)) rfl (by omega) at_X hl.1 ⟨Nat.le_of_ble_eq_true rfl, Nat.le_of_ble_eq_true rfl⟩ ⟨Nat.le_refl _, Nat.le_refl _⟩ (rest := [.int v3]) rfl (Nat.le_of_ble_eq_true rfl) dL_hangs_721 (fun H locs hJ => ?_)
                refine lv_icmp_ne (tgt := 762) hx hb dL_hangs_724 (by decide) (fun c_724 => ?_) (fun c_724 => ?_)
                · skip
                  refine lv_iconst (v := 0) hx hb dL_hangs_762 (by decide) ?_
                  have hs : sL_hangs g = (0, gg) := hs.trans (by rw [bL_hangs_402, if_pos c_405, if_pos c_688, if_pos c_698, if_pos c_705, if_pos c_715, if_neg c_724])
                  exact fin (by rw [hs]; dsimp only; exact hJ) (by rw [hs]) dL_hangs_763
                · skip
                  refine lv_iload hx hb dL_hangs_727 (lv_at hl 4 rfl) ?_
                  refine lv_aload_n hx hb dL_hangs_729 rfl (lv_at hl 0 rfl) ?_
                  refine lv_bipush (v := 6) hx hb dL_hangs_730 (by decide) ?_
                  refine kL_10 X hJ (mX6_count l E B gg 6 (hgn)) rfl (by omega) at_X hl.1 ⟨Nat.le_of_ble_eq_true rfl, Nat.le_of_ble_eq_true rfl⟩ ⟨Nat.le_refl _, Nat.le_refl _⟩ (rest := [.int v4]) rfl (Nat.le_of_ble_eq_true rfl) dL_hangs_732 (fun H locs hJ => ?_)
                  refine lv_icmp_ne (tgt := 762) hx hb dL_hangs_735 (by decide) (fun c_735 => ?_) (fun c_735 => ?_)
                  · skip
                    refine lv_iconst (v := 0) hx hb dL_hangs_762 (by decide) ?_
                    have hs : sL_hangs g = (0, gg) := hs.trans (by rw [bL_hangs_402, if_pos c_405, if_pos c_688, if_pos c_698, if_pos c_705, if_pos c_715, if_pos c_724, if_neg c_735])
                    exact fin (by rw [hs]; dsimp only; exact hJ) (by rw [hs]) dL_hangs_763
                  · skip
                    refine lv_iload_n hx hb dL_hangs_738 rfl (lv_at hl 3 rfl) ?_
                    refine lv_iload hx hb dL_hangs_739 (lv_at hl 4 rfl) ?_
                    refine lv_iadd hx hb dL_hangs_741 ?_
                    refine lv_aload_n hx hb dL_hangs_742 rfl (lv_at hl 0 rfl) ?_
                    refine lv_bipush (v := 7) hx hb dL_hangs_743 (by decide) ?_
                    refine kL_10 X hJ (mX6_count l E B gg 7 (hgn)) rfl (by omega) at_X hl.1 ⟨Nat.le_of_ble_eq_true rfl, Nat.le_of_ble_eq_true rfl⟩ ⟨Nat.le_refl _, Nat.le_refl _⟩ (rest := [.int (v3 + v4)]) rfl (Nat.le_of_ble_eq_true rfl) dL_hangs_745 (fun H locs hJ => ?_)
                    refine lv_icmp_ne (tgt := 762) hx hb dL_hangs_748 (by decide) (fun c_748 => ?_) (fun c_748 => ?_)
                    · skip
                      refine lv_iconst (v := 0) hx hb dL_hangs_762 (by decide) ?_
                      have hs : sL_hangs g = (0, gg) := hs.trans (by rw [bL_hangs_402, if_pos c_405, if_pos c_688, if_pos c_698, if_pos c_705, if_pos c_715, if_pos c_724, if_pos c_735, if_neg c_748])
                      exact fin (by rw [hs]; dsimp only; exact hJ) (by rw [hs]) dL_hangs_763
                    · skip
                      refine lv_iload hx hb dL_hangs_751 (lv_at hl 8 rfl) ?_
                      refine lv_iload hx hb dL_hangs_753 (lv_at hl 4 rfl) ?_
                      refine lv_icmp_ne (tgt := 762) hx hb dL_hangs_755 (by decide) (fun c_755 => ?_) (fun c_755 => ?_)
                      · skip
                        refine lv_iconst (v := 0) hx hb dL_hangs_762 (by decide) ?_
                        have hs : sL_hangs g = (0, gg) := hs.trans (by rw [bL_hangs_402, if_pos c_405, if_pos c_688, if_pos c_698, if_pos c_705, if_pos c_715, if_pos c_724, if_pos c_735, if_pos c_748, if_neg c_755])
                        exact fin (by rw [hs]; dsimp only; exact hJ) (by rw [hs]) dL_hangs_763
                      · skip
                        refine lv_iconst (v := 1) hx hb dL_hangs_758 (by decide) ?_
                        refine lv_goto (tgt := 763) hx hb dL_hangs_759 (by decide) ?_
                        have hs : sL_hangs g = (1, gg) := hs.trans (by rw [bL_hangs_402, if_pos c_405, if_pos c_688, if_pos c_698, if_pos c_705, if_pos c_715, if_pos c_724, if_pos c_735, if_pos c_748, if_pos c_755])
                        exact fin (by rw [hs]; dsimp only; exact hJ) (by rw [hs]) dL_hangs_763
      · skip
        have hp2_402 : v10 < nn v1 := nlt_cnt c_405 (by have := nn_b (c := v1); omega)
        refine lv_aload_n hx hb dL_hangs_408 rfl (lv_at hl 0 rfl) ?_
        refine lv_iload hx hb dL_hangs_409 (lv_at hl 10 rfl) ?_
        refine lv_iconst (v := 4) hx hb dL_hangs_411 (by decide) ?_
        refine kL_26 X hJ (mX6_ofBridge l E B gg (nI v10) 4 (hgn)) rfl (by omega) at_X hl.1 ⟨Nat.le_of_ble_eq_true rfl, Nat.le_of_ble_eq_true rfl⟩ ⟨Nat.le_refl _, Nat.le_refl _⟩ (rest := []) rfl (Nat.le_of_ble_eq_true rfl) dL_hangs_412 (fun H locs hJ => ?_)
        refine lv_istore (lv' := [(11, .int (sX6_ofBridge gg (nI v10) 4)), (0, .ref (B + 0)), (1, .int v1), (2, .int v2), (3, .int v3), (4, .int v4), (5, .int v5), (6, .int v6), (7, .int v7), (8, .int v8), (9, .int v9), (10, .int (nI v10))]) hx hb dL_hangs_415 hl (by decide) rfl (fun ls hl => ?_)
        refine lv_iload hx hb dL_hangs_417 (lv_at hl 5 rfl) ?_
        refine lv_aload_n hx hb dL_hangs_419 rfl (lv_at hl 1 rfl) ?_
        refine lv_iload hx hb dL_hangs_420 (lv_at hl 11 rfl) ?_
        refine lv_iconst (v := 5) hx hb dL_hangs_422 (by decide) ?_
        refine kL_26 X hJ (mX6_ofBridge l E B gg (nI v10) 5 (hgn)) rfl (by omega) at_X hl.1 ⟨Nat.le_of_ble_eq_true rfl, Nat.le_of_ble_eq_true rfl⟩ ⟨Nat.le_refl _, Nat.le_refl _⟩ (rest := [.int v4]) rfl (Nat.le_of_ble_eq_true rfl) dL_hangs_423 (fun H locs hJ => ?_)
        refine lv_iadd hx hb dL_hangs_426 ?_
        refine lv_istore (lv' := [(4, .int (v4 + (sX6_ofBridge gg (nI v10) 5))), (11, .int (sX6_ofBridge gg (nI v10) 4)), (0, .ref (B + 0)), (1, .int v1), (2, .int v2), (3, .int v3), (5, .int v5), (6, .int v6), (7, .int v7), (8, .int v8), (9, .int v9), (10, .int (nI v10))]) hx hb dL_hangs_427 hl (by decide) rfl (fun ls hl => ?_)
        refine lv_iload hx hb dL_hangs_429 (lv_at hl 7 rfl) ?_
        refine lv_aload_n hx hb dL_hangs_431 rfl (lv_at hl 2 rfl) ?_
        refine lv_iload hx hb dL_hangs_432 (lv_at hl 11 rfl) ?_
        refine lv_bipush (v := 6) hx hb dL_hangs_434 (by decide) ?_
        refine kL_26 X hJ (mX6_ofBridge l E B gg (nI v10) 6 (hgn)) rfl (by omega) at_X hl.1 ⟨Nat.le_of_ble_eq_true rfl, Nat.le_of_ble_eq_true rfl⟩ ⟨Nat.le_refl _, Nat.le_refl _⟩ (rest := [.int v6]) rfl (Nat.le_of_ble_eq_true rfl) dL_hangs_436 (fun H locs hJ => ?_)
        refine lv_iadd hx hb dL_hangs_439 ?_
        refine lv_istore (lv' := [(6, .int (v6 + (sX6_ofBridge gg (nI v10) 6))), (4, .int (v4 + (sX6_ofBridge gg (nI v10) 5))), (11, .int (sX6_ofBridge gg (nI v10) 4)), (0, .ref (B + 0)), (1, .int v1), (2, .int v2), (3, .int v3), (5, .int v5), (7, .int v7), (8, .int v8), (9, .int v9), (10, .int (nI v10))]) hx hb dL_hangs_440 hl (by decide) rfl (fun ls hl => ?_)
        refine lv_sipush (v := 9999) hx hb dL_hangs_442 (by decide) ?_
        refine lv_istore (lv' := [(12, .int 9999), (6, .int (v6 + (sX6_ofBridge gg (nI v10) 6))), (4, .int (v4 + (sX6_ofBridge gg (nI v10) 5))), (11, .int (sX6_ofBridge gg (nI v10) 4)), (0, .ref (B + 0)), (1, .int v1), (2, .int v2), (3, .int v3), (5, .int v5), (7, .int v7), (8, .int v8), (9, .int v9), (10, .int (nI v10))]) hx hb dL_hangs_445 hl (by decide) rfl (fun ls hl => ?_)
        refine lv_iconst (v := 0) hx hb dL_hangs_447 (by decide) ?_
        refine lv_istore (lv' := [(13, .int 0), (12, .int 9999), (6, .int (v6 + (sX6_ofBridge gg (nI v10) 6))), (4, .int (v4 + (sX6_ofBridge gg (nI v10) 5))), (11, .int (sX6_ofBridge gg (nI v10) 4)), (0, .ref (B + 0)), (1, .int v1), (2, .int v2), (3, .int v3), (5, .int v5), (7, .int v7), (8, .int v8), (9, .int v9), (10, .int (nI v10))]) hx hb dL_hangs_448 hl (by decide) rfl (fun ls hl => ?_)
        have hs : sL_hangs g = bL_hangs_450 (bL_hangs_402 n_402) (nn (sX6_ofBridge gg (nI v10) 4) + 1) gg v1 v2 v3 (v4 + (sX6_ofBridge gg (nI v10) 5)) v5 (v6 + (sX6_ofBridge gg (nI v10) 6)) v7 v8 v9 v10 (sX6_ofBridge gg (nI v10) 4) 9999 0 := hs.trans (by rw [bL_hangs_402, if_neg c_405])
        exact bk_450 (nn (sX6_ofBridge gg (nI v10) 4) + 1) gg (v4 + (sX6_ofBridge gg (nI v10) 5)) (v6 + (sX6_ofBridge gg (nI v10) 6)) v9 (sX6_ofBridge gg (nI v10) 4) 9999 0 (by omega) (hgn) (by omega) (hp2_402) _ _ _ hJ (lv_sub hl [5, 6, 7, 8, 3, 9, 2, 10, 11, 12, 13, 4, 1, 0] rfl) hs
  have bk_32 : ∀ (n : Nat) (gg : GS) (v1 : Int32) (v2 : Int32) (v3 : Int32) (v4 : Int32) (v5 : Int32) (v6 : Int32) (v7 : Int32) (v8 : Int32) (v9 : Nat), nn v2 - v9 < n → (Gn gg) → (v9 ≤ nn v2) → ∀ (H : Heap) (locs : List Loc) (ls : Array Slot), JG E B s_ gg H locs → lv_has ls 15 [(0, .ref (B + 0)), (1, .int v1), (2, .int v2), (3, .int v3), (4, .int v4), (5, .int v5), (6, .int v6), (7, .int v7), (8, .int v8), (9, .int (nI v9))] → sL_hangs g = bL_hangs_32 n gg v1 v2 v3 v4 v5 v6 v7 v8 v9 → W P_ l e_ (rmm 6 138 0 0) s_ m_ a_ below meth cd H locs 0 0 Q (F0 m_ 32 ls []) := by
    intro n
    induction n with
    | zero => intro gg v1 v2 v3 v4 v5 v6 v7 v8 v9 hm; exact absurd hm (Nat.not_lt_zero _)
    | succ n_32 ih_32 =>
      intro gg v1 v2 v3 v4 v5 v6 v7 v8 v9 hm hgn hp_32 H locs ls hJ hl hs
      have bk_361 : ∀ (gg : GS) (v3 : Int32) (v5 : Int32) (v7 : Int32) (v8 : Int32) (v10 : Int32), (Gn gg) → (v9 < nn v2) → ∀ (H : Heap) (locs : List Loc) (ls : Array Slot), JG E B s_ gg H locs → lv_has ls 15 [(0, .ref (B + 0)), (1, .int v1), (2, .int v2), (3, .int v3), (4, .int v4), (5, .int v5), (6, .int v6), (7, .int v7), (8, .int v8), (9, .int (nI v9)), (10, .int v10)] → sL_hangs g = bL_hangs_361 (bL_hangs_32 n_32) gg v1 v2 v3 v4 v5 v6 v7 v8 v9 v10 → W P_ l e_ (rmm 6 138 0 0) s_ m_ a_ below meth cd H locs 0 0 Q (F0 m_ 361 ls []) := by
        intro gg v3 v5 v7 v8 v10 hgn hp2_32 H locs ls hJ hl hs
        refine lv_aload_n hx hb dL_hangs_361 rfl (lv_at hl 0 rfl) ?_
        refine lv_iload hx hb dL_hangs_362 (lv_at hl 9 rfl) ?_
        refine lv_iconst (v := 3) hx hb dL_hangs_364 (by decide) ?_
        refine kL_16 X hJ (mX6_ofCart l E B gg (nI v9) 3 (hgn)) rfl (by omega) at_X hl.1 ⟨Nat.le_of_ble_eq_true rfl, Nat.le_of_ble_eq_true rfl⟩ ⟨Nat.le_refl _, Nat.le_refl _⟩ (rest := []) rfl (Nat.le_of_ble_eq_true rfl) dL_hangs_365 (fun H locs hJ => ?_)
        refine lv_if_lt (tgt := 388) hx hb dL_hangs_368 (by decide) (fun c_368 => ?_) (fun c_368 => ?_)
        · skip
          refine lv_iconst (v := 0) hx hb dL_hangs_388 (by decide) ?_
          have hs : sL_hangs g = (0, gg) := hs.trans (by unfold bL_hangs_361; rw [if_pos c_368])
          exact fin (by rw [hs]; dsimp only; exact hJ) (by rw [hs]) dL_hangs_389
        · skip
          refine lv_aload_n hx hb dL_hangs_371 rfl (lv_at hl 0 rfl) ?_
          refine lv_iload hx hb dL_hangs_372 (lv_at hl 9 rfl) ?_
          refine lv_iconst (v := 3) hx hb dL_hangs_374 (by decide) ?_
          refine kL_16 X hJ (mX6_ofCart l E B gg (nI v9) 3 (hgn)) rfl (by omega) at_X hl.1 ⟨Nat.le_of_ble_eq_true rfl, Nat.le_of_ble_eq_true rfl⟩ ⟨Nat.le_refl _, Nat.le_refl _⟩ (rest := []) rfl (Nat.le_of_ble_eq_true rfl) dL_hangs_375 (fun H locs hJ => ?_)
          refine lv_aload_n hx hb dL_hangs_378 rfl (lv_at hl 0 rfl) ?_
          refine lv_iload hx hb dL_hangs_379 (lv_at hl 10 rfl) ?_
          refine lv_iconst (v := 2) hx hb dL_hangs_381 (by decide) ?_
          refine kL_26 X hJ (mX6_ofBridge l E B gg v10 2 (hgn)) rfl (by omega) at_X hl.1 ⟨Nat.le_of_ble_eq_true rfl, Nat.le_of_ble_eq_true rfl⟩ ⟨Nat.le_refl _, Nat.le_refl _⟩ (rest := [.int (sX6_ofCart gg (nI v9) 3)]) rfl (Nat.le_of_ble_eq_true rfl) dL_hangs_382 (fun H locs hJ => ?_)
          refine lv_icmp_lt (tgt := 390) hx hb dL_hangs_385 (by decide) (fun c_385 => ?_) (fun c_385 => ?_)
          · skip
            refine lv_iinc (v := nI (v9 + 1)) (lv' := [(9, .int (nI (v9 + 1))), (0, .ref (B + 0)), (1, .int v1), (2, .int v2), (3, .int v3), (4, .int v4), (5, .int v5), (6, .int v6), (7, .int v7), (8, .int v8), (10, .int v10)]) hx hb dL_hangs_390 hl (k := 9) rfl (by first | exact nI_add _ _ | rfl) (by decide) rfl (fun ls hl => ?_)
            refine lv_goto (tgt := 32) hx hb dL_hangs_393 (by decide) ?_
            have hs : sL_hangs g = bL_hangs_32 n_32 gg v1 v2 v3 v4 v5 v6 v7 v8 (v9 + 1) := hs.trans (by unfold bL_hangs_361; rw [if_neg c_368, if_pos c_385])
            exact ih_32 gg v1 v2 v3 v4 v5 v6 v7 v8 (v9 + 1) (by omega) (hgn) (by omega) _ _ _ hJ (lv_sub hl [1, 2, 3, 4, 5, 6, 7, 8, 9, 0] rfl) hs
          · skip
            refine lv_iconst (v := 0) hx hb dL_hangs_388 (by decide) ?_
            have hs : sL_hangs g = (0, gg) := hs.trans (by unfold bL_hangs_361; rw [if_neg c_368, if_neg c_385])
            exact fin (by rw [hs]; dsimp only; exact hJ) (by rw [hs]) dL_hangs_389
      have bk_329 : ∀ (gg : GS) (v3 : Int32) (v5 : Int32) (v7 : Int32) (v8 : Int32) (v10 : Int32), (Gn gg) → (v9 < nn v2) → ∀ (H : Heap) (locs : List Loc) (ls : Array Slot), JG E B s_ gg H locs → lv_has ls 15 [(0, .ref (B + 0)), (1, .int v1), (2, .int v2), (3, .int v3), (4, .int v4), (5, .int v5), (6, .int v6), (7, .int v7), (8, .int v8), (9, .int (nI v9)), (10, .int v10)] → sL_hangs g = bL_hangs_329 (bL_hangs_32 n_32) gg v1 v2 v3 v4 v5 v6 v7 v8 v9 v10 → W P_ l e_ (rmm 6 138 0 0) s_ m_ a_ below meth cd H locs 0 0 Q (F0 m_ 329 ls []) := by
        intro gg v3 v5 v7 v8 v10 hgn hp2_32 H locs ls hJ hl hs
        refine lv_aload_n hx hb dL_hangs_329 rfl (lv_at hl 0 rfl) ?_
        refine lv_iload hx hb dL_hangs_330 (lv_at hl 9 rfl) ?_
        refine kL_20 X hJ (mX6_why l E B gg (nI v9) (hgn)) rfl (by omega) at_X hl.1 ⟨Nat.le_of_ble_eq_true rfl, Nat.le_of_ble_eq_true rfl⟩ ⟨Nat.le_refl _, Nat.le_refl _⟩ (rest := []) rfl (Nat.le_of_ble_eq_true rfl) dL_hangs_332 (fun H locs hJ => ?_)
        refine lv_if_ne (tgt := 342) hx hb dL_hangs_335 (by decide) (fun c_335 => ?_) (fun c_335 => ?_)
        · skip
          refine lv_iconst (v := 0) hx hb dL_hangs_342 (by decide) ?_
          refine lv_aload_n hx hb dL_hangs_343 rfl (lv_at hl 0 rfl) ?_
          refine lv_iload hx hb dL_hangs_344 (lv_at hl 9 rfl) ?_
          refine kL_23 X hJ (mX6_overIn l E B gg (nI v9) (hgn)) rfl (by omega) at_X hl.1 ⟨Nat.le_of_ble_eq_true rfl, Nat.le_of_ble_eq_true rfl⟩ ⟨Nat.le_refl _, Nat.le_refl _⟩ (rest := [.int 0]) rfl (Nat.le_of_ble_eq_true rfl) dL_hangs_346 (fun H locs hJ => ?_)
          refine lv_iconst (v := 1) hx hb dL_hangs_349 (by decide) ?_
          refine lv_icmp_ne (tgt := 357) hx hb dL_hangs_350 (by decide) (fun c_350 => ?_) (fun c_350 => ?_)
          · skip
            refine lv_iconst (v := 0) hx hb dL_hangs_357 (by decide) ?_
            refine lv_icmp_ne (tgt := 388) hx hb dL_hangs_358 (by decide) (fun c_358 => ?_) (fun c_358 => ?_)
            · exact absurd c_358 (by decide)
            · skip
              have hs : sL_hangs g = bL_hangs_361 (bL_hangs_32 n_32) ((sX6_overIn gg (nI v9)).2) v1 v2 v3 v4 v5 v6 v7 v8 v9 v10 := hs.trans (by unfold bL_hangs_329; rw [if_neg c_335, if_neg c_350])
              exact bk_361 ((sX6_overIn gg (nI v9)).2) v3 v5 v7 v8 v10 (Gn_sX6_overIn (hgn)) (hp2_32) _ _ _ hJ (lv_sub hl [0, 1, 2, 3, 4, 5, 6, 7, 8, 9, 10] rfl) hs
          · skip
            refine lv_iconst (v := 1) hx hb dL_hangs_353 (by decide) ?_
            refine lv_goto (tgt := 358) hx hb dL_hangs_354 (by decide) ?_
            refine lv_icmp_ne (tgt := 388) hx hb dL_hangs_358 (by decide) (fun c_358 => ?_) (fun c_358 => ?_)
            · skip
              refine lv_iconst (v := 0) hx hb dL_hangs_388 (by decide) ?_
              have hs : sL_hangs g = (0, (sX6_overIn gg (nI v9)).2) := hs.trans (by unfold bL_hangs_329; rw [if_neg c_335, if_pos c_350])
              exact fin (by rw [hs]; dsimp only; exact hJ) (by rw [hs]) dL_hangs_389
            · exact absurd c_358 (by decide)
        · skip
          refine lv_iconst (v := 1) hx hb dL_hangs_338 (by decide) ?_
          refine lv_goto (tgt := 343) hx hb dL_hangs_339 (by decide) ?_
          refine lv_aload_n hx hb dL_hangs_343 rfl (lv_at hl 0 rfl) ?_
          refine lv_iload hx hb dL_hangs_344 (lv_at hl 9 rfl) ?_
          refine kL_23 X hJ (mX6_overIn l E B gg (nI v9) (hgn)) rfl (by omega) at_X hl.1 ⟨Nat.le_of_ble_eq_true rfl, Nat.le_of_ble_eq_true rfl⟩ ⟨Nat.le_refl _, Nat.le_refl _⟩ (rest := [.int 1]) rfl (Nat.le_of_ble_eq_true rfl) dL_hangs_346 (fun H locs hJ => ?_)
          refine lv_iconst (v := 1) hx hb dL_hangs_349 (by decide) ?_
          refine lv_icmp_ne (tgt := 357) hx hb dL_hangs_350 (by decide) (fun c_350 => ?_) (fun c_350 => ?_)
          · skip
            refine lv_iconst (v := 0) hx hb dL_hangs_357 (by decide) ?_
            refine lv_icmp_ne (tgt := 388) hx hb dL_hangs_358 (by decide) (fun c_358 => ?_) (fun c_358 => ?_)
            · skip
              refine lv_iconst (v := 0) hx hb dL_hangs_388 (by decide) ?_
              have hs : sL_hangs g = (0, (sX6_overIn gg (nI v9)).2) := hs.trans (by unfold bL_hangs_329; rw [if_pos c_335, if_neg c_350])
              exact fin (by rw [hs]; dsimp only; exact hJ) (by rw [hs]) dL_hangs_389
            · exact absurd c_358 (by decide)
          · skip
            refine lv_iconst (v := 1) hx hb dL_hangs_353 (by decide) ?_
            refine lv_goto (tgt := 358) hx hb dL_hangs_354 (by decide) ?_
            refine lv_icmp_ne (tgt := 388) hx hb dL_hangs_358 (by decide) (fun c_358 => ?_) (fun c_358 => ?_)
            · exact absurd c_358 (by decide)
            · skip
              have hs : sL_hangs g = bL_hangs_361 (bL_hangs_32 n_32) ((sX6_overIn gg (nI v9)).2) v1 v2 v3 v4 v5 v6 v7 v8 v9 v10 := hs.trans (by unfold bL_hangs_329; rw [if_pos c_335, if_pos c_350])
              exact bk_361 ((sX6_overIn gg (nI v9)).2) v3 v5 v7 v8 v10 (Gn_sX6_overIn (hgn)) (hp2_32) _ _ _ hJ (lv_sub hl [0, 1, 2, 3, 4, 5, 6, 7, 8, 9, 10] rfl) hs
      have bk_296 : ∀ (gg : GS) (v3 : Int32) (v5 : Int32) (v7 : Int32) (v8 : Int32) (v10 : Int32), (Gn gg) → (v9 < nn v2) → ∀ (H : Heap) (locs : List Loc) (ls : Array Slot), JG E B s_ gg H locs → lv_has ls 15 [(0, .ref (B + 0)), (1, .int v1), (2, .int v2), (3, .int v3), (4, .int v4), (5, .int v5), (6, .int v6), (7, .int v7), (8, .int v8), (9, .int (nI v9)), (10, .int v10)] → sL_hangs g = bL_hangs_296 (bL_hangs_32 n_32) gg v1 v2 v3 v4 v5 v6 v7 v8 v9 v10 → W P_ l e_ (rmm 6 138 0 0) s_ m_ a_ below meth cd H locs 0 0 Q (F0 m_ 296 ls []) := by
        intro gg v3 v5 v7 v8 v10 hgn hp2_32 H locs ls hJ hl hs
        refine lv_aload_n hx hb dL_hangs_296 rfl (lv_at hl 0 rfl) ?_
        refine lv_iload hx hb dL_hangs_297 (lv_at hl 10 rfl) ?_
        refine kL_29 X hJ (mX6_next l E B gg v10 (hgn)) rfl (by omega) at_X hl.1 ⟨Nat.le_of_ble_eq_true rfl, Nat.le_of_ble_eq_true rfl⟩ ⟨Nat.le_refl _, Nat.le_refl _⟩ (rest := []) rfl (Nat.le_of_ble_eq_true rfl) dL_hangs_299 (fun H locs hJ => ?_)
        refine lv_iload hx hb dL_hangs_302 (lv_at hl 9 rfl) ?_
        refine lv_icmp_ne (tgt := 311) hx hb dL_hangs_304 (by decide) (fun c_304 => ?_) (fun c_304 => ?_)
        · skip
          refine lv_iconst (v := 0) hx hb dL_hangs_311 (by decide) ?_
          refine lv_aload_n hx hb dL_hangs_312 rfl (lv_at hl 0 rfl) ?_
          refine lv_iload hx hb dL_hangs_313 (lv_at hl 9 rfl) ?_
          refine kL_20 X hJ (mX6_why l E B gg (nI v9) (hgn)) rfl (by omega) at_X hl.1 ⟨Nat.le_of_ble_eq_true rfl, Nat.le_of_ble_eq_true rfl⟩ ⟨Nat.le_refl _, Nat.le_refl _⟩ (rest := [.int 0]) rfl (Nat.le_of_ble_eq_true rfl) dL_hangs_315 (fun H locs hJ => ?_)
          refine lv_if_ne (tgt := 325) hx hb dL_hangs_318 (by decide) (fun c_318 => ?_) (fun c_318 => ?_)
          · skip
            refine lv_iconst (v := 0) hx hb dL_hangs_325 (by decide) ?_
            refine lv_icmp_ne (tgt := 388) hx hb dL_hangs_326 (by decide) (fun c_326 => ?_) (fun c_326 => ?_)
            · exact absurd c_326 (by decide)
            · skip
              have hs : sL_hangs g = bL_hangs_329 (bL_hangs_32 n_32) gg v1 v2 v3 v4 v5 v6 v7 v8 v9 v10 := hs.trans (by unfold bL_hangs_296; rw [if_neg c_304, if_neg c_318])
              exact bk_329 gg v3 v5 v7 v8 v10 (hgn) (hp2_32) _ _ _ hJ (lv_sub hl [0, 1, 2, 3, 4, 5, 6, 7, 8, 9, 10] rfl) hs
          · skip
            refine lv_iconst (v := 1) hx hb dL_hangs_321 (by decide) ?_
            refine lv_goto (tgt := 326) hx hb dL_hangs_322 (by decide) ?_
            refine lv_icmp_ne (tgt := 388) hx hb dL_hangs_326 (by decide) (fun c_326 => ?_) (fun c_326 => ?_)
            · skip
              refine lv_iconst (v := 0) hx hb dL_hangs_388 (by decide) ?_
              have hs : sL_hangs g = (0, gg) := hs.trans (by unfold bL_hangs_296; rw [if_neg c_304, if_pos c_318])
              exact fin (by rw [hs]; dsimp only; exact hJ) (by rw [hs]) dL_hangs_389
            · exact absurd c_326 (by decide)
        · skip
          refine lv_iconst (v := 1) hx hb dL_hangs_307 (by decide) ?_
          refine lv_goto (tgt := 312) hx hb dL_hangs_308 (by decide) ?_
          refine lv_aload_n hx hb dL_hangs_312 rfl (lv_at hl 0 rfl) ?_
          refine lv_iload hx hb dL_hangs_313 (lv_at hl 9 rfl) ?_
          refine kL_20 X hJ (mX6_why l E B gg (nI v9) (hgn)) rfl (by omega) at_X hl.1 ⟨Nat.le_of_ble_eq_true rfl, Nat.le_of_ble_eq_true rfl⟩ ⟨Nat.le_refl _, Nat.le_refl _⟩ (rest := [.int 1]) rfl (Nat.le_of_ble_eq_true rfl) dL_hangs_315 (fun H locs hJ => ?_)
          refine lv_if_ne (tgt := 325) hx hb dL_hangs_318 (by decide) (fun c_318 => ?_) (fun c_318 => ?_)
          · skip
            refine lv_iconst (v := 0) hx hb dL_hangs_325 (by decide) ?_
            refine lv_icmp_ne (tgt := 388) hx hb dL_hangs_326 (by decide) (fun c_326 => ?_) (fun c_326 => ?_)
            · skip
              refine lv_iconst (v := 0) hx hb dL_hangs_388 (by decide) ?_
              have hs : sL_hangs g = (0, gg) := hs.trans (by unfold bL_hangs_296; rw [if_pos c_304, if_neg c_318])
              exact fin (by rw [hs]; dsimp only; exact hJ) (by rw [hs]) dL_hangs_389
            · exact absurd c_326 (by decide)
          · skip
            refine lv_iconst (v := 1) hx hb dL_hangs_321 (by decide) ?_
            refine lv_goto (tgt := 326) hx hb dL_hangs_322 (by decide) ?_
            refine lv_icmp_ne (tgt := 388) hx hb dL_hangs_326 (by decide) (fun c_326 => ?_) (fun c_326 => ?_)
            · exact absurd c_326 (by decide)
            · skip
              have hs : sL_hangs g = bL_hangs_329 (bL_hangs_32 n_32) gg v1 v2 v3 v4 v5 v6 v7 v8 v9 v10 := hs.trans (by unfold bL_hangs_296; rw [if_pos c_304, if_pos c_318])
              exact bk_329 gg v3 v5 v7 v8 v10 (hgn) (hp2_32) _ _ _ hJ (lv_sub hl [0, 1, 2, 3, 4, 5, 6, 7, 8, 9, 10] rfl) hs
      have bk_255 : ∀ (gg : GS) (v3 : Int32) (v5 : Int32) (v7 : Int32) (v8 : Int32) (v10 : Int32), (Gn gg) → (v9 < nn v2) → ∀ (H : Heap) (locs : List Loc) (ls : Array Slot), JG E B s_ gg H locs → lv_has ls 15 [(0, .ref (B + 0)), (1, .int v1), (2, .int v2), (3, .int v3), (4, .int v4), (5, .int v5), (6, .int v6), (7, .int v7), (8, .int v8), (9, .int (nI v9)), (10, .int v10)] → sL_hangs g = bL_hangs_255 (bL_hangs_32 n_32) gg v1 v2 v3 v4 v5 v6 v7 v8 v9 v10 → W P_ l e_ (rmm 6 138 0 0) s_ m_ a_ below meth cd H locs 0 0 Q (F0 m_ 255 ls []) := by
        intro gg v3 v5 v7 v8 v10 hgn hp2_32 H locs ls hJ hl hs
        refine lv_iload hx hb dL_hangs_255 (lv_at hl 10 rfl) ?_
        refine lv_bipush (v := (-6)) hx hb dL_hangs_257 (by decide) ?_
        refine lv_icmp_eq (tgt := 390) hx hb dL_hangs_259 (by decide) (fun c_259 => ?_) (fun c_259 => ?_)
        · skip
          refine lv_iinc (v := nI (v9 + 1)) (lv' := [(9, .int (nI (v9 + 1))), (0, .ref (B + 0)), (1, .int v1), (2, .int v2), (3, .int v3), (4, .int v4), (5, .int v5), (6, .int v6), (7, .int v7), (8, .int v8), (10, .int v10)]) hx hb dL_hangs_390 hl (k := 9) rfl (by first | exact nI_add _ _ | rfl) (by decide) rfl (fun ls hl => ?_)
          refine lv_goto (tgt := 32) hx hb dL_hangs_393 (by decide) ?_
          have hs : sL_hangs g = bL_hangs_32 n_32 gg v1 v2 v3 v4 v5 v6 v7 v8 (v9 + 1) := hs.trans (by unfold bL_hangs_255; rw [if_pos c_259])
          exact ih_32 gg v1 v2 v3 v4 v5 v6 v7 v8 (v9 + 1) (by omega) (hgn) (by omega) _ _ _ hJ (lv_sub hl [1, 2, 3, 4, 5, 6, 7, 8, 9, 0] rfl) hs
        · skip
          refine lv_aload_n hx hb dL_hangs_262 rfl (lv_at hl 0 rfl) ?_
          refine lv_iload hx hb dL_hangs_263 (lv_at hl 10 rfl) ?_
          refine lv_iconst (v := 0) hx hb dL_hangs_265 (by decide) ?_
          refine kL_26 X hJ (mX6_ofBridge l E B gg v10 0 (hgn)) rfl (by omega) at_X hl.1 ⟨Nat.le_of_ble_eq_true rfl, Nat.le_of_ble_eq_true rfl⟩ ⟨Nat.le_refl _, Nat.le_refl _⟩ (rest := []) rfl (Nat.le_of_ble_eq_true rfl) dL_hangs_266 (fun H locs hJ => ?_)
          refine lv_aload_n hx hb dL_hangs_269 rfl (lv_at hl 0 rfl) ?_
          refine lv_iload hx hb dL_hangs_270 (lv_at hl 9 rfl) ?_
          refine lv_iconst (v := 0) hx hb dL_hangs_272 (by decide) ?_
          refine kL_16 X hJ (mX6_ofCart l E B gg (nI v9) 0 (hgn)) rfl (by omega) at_X hl.1 ⟨Nat.le_of_ble_eq_true rfl, Nat.le_of_ble_eq_true rfl⟩ ⟨Nat.le_refl _, Nat.le_refl _⟩ (rest := [.int (sX6_ofBridge gg v10 0)]) rfl (Nat.le_of_ble_eq_true rfl) dL_hangs_273 (fun H locs hJ => ?_)
          refine lv_icmp_eq (tgt := 296) hx hb dL_hangs_276 (by decide) (fun c_276 => ?_) (fun c_276 => ?_)
          · skip
            have hs : sL_hangs g = bL_hangs_296 (bL_hangs_32 n_32) gg v1 v2 v3 v4 v5 v6 v7 v8 v9 v10 := hs.trans (by unfold bL_hangs_255; rw [if_neg c_259, if_pos c_276])
            exact bk_296 gg v3 v5 v7 v8 v10 (hgn) (hp2_32) _ _ _ hJ (lv_sub hl [0, 1, 2, 3, 4, 5, 6, 7, 8, 9, 10] rfl) hs
          · skip
            refine lv_aload_n hx hb dL_hangs_279 rfl (lv_at hl 0 rfl) ?_
            refine lv_iload hx hb dL_hangs_280 (lv_at hl 10 rfl) ?_
            refine lv_iconst (v := 1) hx hb dL_hangs_282 (by decide) ?_
            refine kL_26 X hJ (mX6_ofBridge l E B gg v10 1 (hgn)) rfl (by omega) at_X hl.1 ⟨Nat.le_of_ble_eq_true rfl, Nat.le_of_ble_eq_true rfl⟩ ⟨Nat.le_refl _, Nat.le_refl _⟩ (rest := []) rfl (Nat.le_of_ble_eq_true rfl) dL_hangs_283 (fun H locs hJ => ?_)
            refine lv_aload_n hx hb dL_hangs_286 rfl (lv_at hl 0 rfl) ?_
            refine lv_iload hx hb dL_hangs_287 (lv_at hl 9 rfl) ?_
            refine lv_iconst (v := 0) hx hb dL_hangs_289 (by decide) ?_
            refine kL_16 X hJ (mX6_ofCart l E B gg (nI v9) 0 (hgn)) rfl (by omega) at_X hl.1 ⟨Nat.le_of_ble_eq_true rfl, Nat.le_of_ble_eq_true rfl⟩ ⟨Nat.le_refl _, Nat.le_refl _⟩ (rest := [.int (sX6_ofBridge gg v10 1)]) rfl (Nat.le_of_ble_eq_true rfl) dL_hangs_290 (fun H locs hJ => ?_)
            refine lv_icmp_ne (tgt := 388) hx hb dL_hangs_293 (by decide) (fun c_293 => ?_) (fun c_293 => ?_)
            · skip
              refine lv_iconst (v := 0) hx hb dL_hangs_388 (by decide) ?_
              have hs : sL_hangs g = (0, gg) := hs.trans (by unfold bL_hangs_255; rw [if_neg c_259, if_neg c_276, if_neg c_293])
              exact fin (by rw [hs]; dsimp only; exact hJ) (by rw [hs]) dL_hangs_389
            · skip
              have hs : sL_hangs g = bL_hangs_296 (bL_hangs_32 n_32) gg v1 v2 v3 v4 v5 v6 v7 v8 v9 v10 := hs.trans (by unfold bL_hangs_255; rw [if_neg c_259, if_neg c_276, if_pos c_293])
              exact bk_296 gg v3 v5 v7 v8 v10 (hgn) (hp2_32) _ _ _ hJ (lv_sub hl [0, 1, 2, 3, 4, 5, 6, 7, 8, 9, 10] rfl) hs
      have bk_222 : ∀ (gg : GS) (v3 : Int32) (v5 : Int32) (v7 : Int32) (v8 : Int32) (v10 : Int32), (Gn gg) → (v9 < nn v2) → ∀ (H : Heap) (locs : List Loc) (ls : Array Slot), JG E B s_ gg H locs → lv_has ls 15 [(0, .ref (B + 0)), (1, .int v1), (2, .int v2), (3, .int v3), (4, .int v4), (5, .int v5), (6, .int v6), (7, .int v7), (8, .int v8), (9, .int (nI v9)), (10, .int v10)] → sL_hangs g = bL_hangs_222 (bL_hangs_32 n_32) gg v1 v2 v3 v4 v5 v6 v7 v8 v9 v10 → W P_ l e_ (rmm 6 138 0 0) s_ m_ a_ below meth cd H locs 0 0 Q (F0 m_ 222 ls []) := by
        intro gg v3 v5 v7 v8 v10 hgn hp2_32 H locs ls hJ hl hs
        refine lv_iload hx hb dL_hangs_222 (lv_at hl 10 rfl) ?_
        refine lv_bipush (v := (-6)) hx hb dL_hangs_224 (by decide) ?_
        refine lv_icmp_ne (tgt := 233) hx hb dL_hangs_226 (by decide) (fun c_226 => ?_) (fun c_226 => ?_)
        · skip
          refine lv_iconst (v := 0) hx hb dL_hangs_233 (by decide) ?_
          refine lv_aload_n hx hb dL_hangs_234 rfl (lv_at hl 0 rfl) ?_
          refine lv_iload hx hb dL_hangs_235 (lv_at hl 9 rfl) ?_
          refine kL_23 X hJ (mX6_overIn l E B gg (nI v9) (hgn)) rfl (by omega) at_X hl.1 ⟨Nat.le_of_ble_eq_true rfl, Nat.le_of_ble_eq_true rfl⟩ ⟨Nat.le_refl _, Nat.le_refl _⟩ (rest := [.int 0]) rfl (Nat.le_of_ble_eq_true rfl) dL_hangs_237 (fun H locs hJ => ?_)
          refine lv_bipush (v := (-5)) hx hb dL_hangs_240 (by decide) ?_
          refine lv_icmp_ne (tgt := 249) hx hb dL_hangs_242 (by decide) (fun c_242 => ?_) (fun c_242 => ?_)
          · skip
            refine lv_iconst (v := 0) hx hb dL_hangs_249 (by decide) ?_
            refine lv_icmp_eq (tgt := 255) hx hb dL_hangs_250 (by decide) (fun c_250 => ?_) (fun c_250 => ?_)
            · skip
              have hs : sL_hangs g = bL_hangs_255 (bL_hangs_32 n_32) ((sX6_overIn gg (nI v9)).2) v1 v2 v3 v4 v5 v6 v7 v8 v9 v10 := hs.trans (by unfold bL_hangs_222; rw [if_neg c_226, if_neg c_242])
              exact bk_255 ((sX6_overIn gg (nI v9)).2) v3 v5 v7 v8 v10 (Gn_sX6_overIn (hgn)) (hp2_32) _ _ _ hJ (lv_sub hl [0, 1, 2, 3, 4, 5, 6, 7, 8, 9, 10] rfl) hs
            · exact absurd c_250 (by decide)
          · skip
            refine lv_iconst (v := 1) hx hb dL_hangs_245 (by decide) ?_
            refine lv_goto (tgt := 250) hx hb dL_hangs_246 (by decide) ?_
            refine lv_icmp_eq (tgt := 255) hx hb dL_hangs_250 (by decide) (fun c_250 => ?_) (fun c_250 => ?_)
            · exact absurd c_250 (by decide)
            · skip
              refine lv_iconst (v := 0) hx hb dL_hangs_253 (by decide) ?_
              have hs : sL_hangs g = (0, (sX6_overIn gg (nI v9)).2) := hs.trans (by unfold bL_hangs_222; rw [if_neg c_226, if_pos c_242])
              exact fin (by rw [hs]; dsimp only; exact hJ) (by rw [hs]) dL_hangs_254
        · skip
          refine lv_iconst (v := 1) hx hb dL_hangs_229 (by decide) ?_
          refine lv_goto (tgt := 234) hx hb dL_hangs_230 (by decide) ?_
          refine lv_aload_n hx hb dL_hangs_234 rfl (lv_at hl 0 rfl) ?_
          refine lv_iload hx hb dL_hangs_235 (lv_at hl 9 rfl) ?_
          refine kL_23 X hJ (mX6_overIn l E B gg (nI v9) (hgn)) rfl (by omega) at_X hl.1 ⟨Nat.le_of_ble_eq_true rfl, Nat.le_of_ble_eq_true rfl⟩ ⟨Nat.le_refl _, Nat.le_refl _⟩ (rest := [.int 1]) rfl (Nat.le_of_ble_eq_true rfl) dL_hangs_237 (fun H locs hJ => ?_)
          refine lv_bipush (v := (-5)) hx hb dL_hangs_240 (by decide) ?_
          refine lv_icmp_ne (tgt := 249) hx hb dL_hangs_242 (by decide) (fun c_242 => ?_) (fun c_242 => ?_)
          · skip
            refine lv_iconst (v := 0) hx hb dL_hangs_249 (by decide) ?_
            refine lv_icmp_eq (tgt := 255) hx hb dL_hangs_250 (by decide) (fun c_250 => ?_) (fun c_250 => ?_)
            · exact absurd c_250 (by decide)
            · skip
              refine lv_iconst (v := 0) hx hb dL_hangs_253 (by decide) ?_
              have hs : sL_hangs g = (0, (sX6_overIn gg (nI v9)).2) := hs.trans (by unfold bL_hangs_222; rw [if_pos c_226, if_neg c_242])
              exact fin (by rw [hs]; dsimp only; exact hJ) (by rw [hs]) dL_hangs_254
          · skip
            refine lv_iconst (v := 1) hx hb dL_hangs_245 (by decide) ?_
            refine lv_goto (tgt := 250) hx hb dL_hangs_246 (by decide) ?_
            refine lv_icmp_eq (tgt := 255) hx hb dL_hangs_250 (by decide) (fun c_250 => ?_) (fun c_250 => ?_)
            · skip
              have hs : sL_hangs g = bL_hangs_255 (bL_hangs_32 n_32) ((sX6_overIn gg (nI v9)).2) v1 v2 v3 v4 v5 v6 v7 v8 v9 v10 := hs.trans (by unfold bL_hangs_222; rw [if_pos c_226, if_pos c_242])
              exact bk_255 ((sX6_overIn gg (nI v9)).2) v3 v5 v7 v8 v10 (Gn_sX6_overIn (hgn)) (hp2_32) _ _ _ hJ (lv_sub hl [0, 1, 2, 3, 4, 5, 6, 7, 8, 9, 10] rfl) hs
            · exact absurd c_250 (by decide)
      have bk_192 : ∀ (gg : GS) (v3 : Int32) (v5 : Int32) (v7 : Int32) (v8 : Int32) (v10 : Int32), (Gn gg) → (v9 < nn v2) → ∀ (H : Heap) (locs : List Loc) (ls : Array Slot), JG E B s_ gg H locs → lv_has ls 15 [(0, .ref (B + 0)), (1, .int v1), (2, .int v2), (3, .int v3), (4, .int v4), (5, .int v5), (6, .int v6), (7, .int v7), (8, .int v8), (9, .int (nI v9)), (10, .int v10)] → sL_hangs g = bL_hangs_192 (bL_hangs_32 n_32) gg v1 v2 v3 v4 v5 v6 v7 v8 v9 v10 → W P_ l e_ (rmm 6 138 0 0) s_ m_ a_ below meth cd H locs 0 0 Q (F0 m_ 192 ls []) := by
        intro gg v3 v5 v7 v8 v10 hgn hp2_32 H locs ls hJ hl hs
        refine lv_iload hx hb dL_hangs_192 (lv_at hl 10 rfl) ?_
        refine lv_bipush (v := (-6)) hx hb dL_hangs_194 (by decide) ?_
        refine lv_icmp_ne (tgt := 203) hx hb dL_hangs_196 (by decide) (fun c_196 => ?_) (fun c_196 => ?_)
        · skip
          refine lv_iconst (v := 0) hx hb dL_hangs_203 (by decide) ?_
          refine lv_aload_n hx hb dL_hangs_204 rfl (lv_at hl 0 rfl) ?_
          refine lv_iload hx hb dL_hangs_205 (lv_at hl 9 rfl) ?_
          refine kL_20 X hJ (mX6_why l E B gg (nI v9) (hgn)) rfl (by omega) at_X hl.1 ⟨Nat.le_of_ble_eq_true rfl, Nat.le_of_ble_eq_true rfl⟩ ⟨Nat.le_refl _, Nat.le_refl _⟩ (rest := [.int 0]) rfl (Nat.le_of_ble_eq_true rfl) dL_hangs_207 (fun H locs hJ => ?_)
          refine lv_iconst (v := 1) hx hb dL_hangs_210 (by decide) ?_
          refine lv_icmp_ne (tgt := 218) hx hb dL_hangs_211 (by decide) (fun c_211 => ?_) (fun c_211 => ?_)
          · skip
            refine lv_iconst (v := 0) hx hb dL_hangs_218 (by decide) ?_
            refine lv_icmp_ne (tgt := 253) hx hb dL_hangs_219 (by decide) (fun c_219 => ?_) (fun c_219 => ?_)
            · exact absurd c_219 (by decide)
            · skip
              have hs : sL_hangs g = bL_hangs_222 (bL_hangs_32 n_32) gg v1 v2 v3 v4 v5 v6 v7 v8 v9 v10 := hs.trans (by unfold bL_hangs_192; rw [if_neg c_196, if_neg c_211])
              exact bk_222 gg v3 v5 v7 v8 v10 (hgn) (hp2_32) _ _ _ hJ (lv_sub hl [0, 1, 2, 3, 4, 5, 6, 7, 8, 9, 10] rfl) hs
          · skip
            refine lv_iconst (v := 1) hx hb dL_hangs_214 (by decide) ?_
            refine lv_goto (tgt := 219) hx hb dL_hangs_215 (by decide) ?_
            refine lv_icmp_ne (tgt := 253) hx hb dL_hangs_219 (by decide) (fun c_219 => ?_) (fun c_219 => ?_)
            · skip
              refine lv_iconst (v := 0) hx hb dL_hangs_253 (by decide) ?_
              have hs : sL_hangs g = (0, gg) := hs.trans (by unfold bL_hangs_192; rw [if_neg c_196, if_pos c_211])
              exact fin (by rw [hs]; dsimp only; exact hJ) (by rw [hs]) dL_hangs_254
            · exact absurd c_219 (by decide)
        · skip
          refine lv_iconst (v := 1) hx hb dL_hangs_199 (by decide) ?_
          refine lv_goto (tgt := 204) hx hb dL_hangs_200 (by decide) ?_
          refine lv_aload_n hx hb dL_hangs_204 rfl (lv_at hl 0 rfl) ?_
          refine lv_iload hx hb dL_hangs_205 (lv_at hl 9 rfl) ?_
          refine kL_20 X hJ (mX6_why l E B gg (nI v9) (hgn)) rfl (by omega) at_X hl.1 ⟨Nat.le_of_ble_eq_true rfl, Nat.le_of_ble_eq_true rfl⟩ ⟨Nat.le_refl _, Nat.le_refl _⟩ (rest := [.int 1]) rfl (Nat.le_of_ble_eq_true rfl) dL_hangs_207 (fun H locs hJ => ?_)
          refine lv_iconst (v := 1) hx hb dL_hangs_210 (by decide) ?_
          refine lv_icmp_ne (tgt := 218) hx hb dL_hangs_211 (by decide) (fun c_211 => ?_) (fun c_211 => ?_)
          · skip
            refine lv_iconst (v := 0) hx hb dL_hangs_218 (by decide) ?_
            refine lv_icmp_ne (tgt := 253) hx hb dL_hangs_219 (by decide) (fun c_219 => ?_) (fun c_219 => ?_)
            · skip
              refine lv_iconst (v := 0) hx hb dL_hangs_253 (by decide) ?_
              have hs : sL_hangs g = (0, gg) := hs.trans (by unfold bL_hangs_192; rw [if_pos c_196, if_neg c_211])
              exact fin (by rw [hs]; dsimp only; exact hJ) (by rw [hs]) dL_hangs_254
            · exact absurd c_219 (by decide)
          · skip
            refine lv_iconst (v := 1) hx hb dL_hangs_214 (by decide) ?_
            refine lv_goto (tgt := 219) hx hb dL_hangs_215 (by decide) ?_
            refine lv_icmp_ne (tgt := 253) hx hb dL_hangs_219 (by decide) (fun c_219 => ?_) (fun c_219 => ?_)
            · exact absurd c_219 (by decide)
            · skip
              have hs : sL_hangs g = bL_hangs_222 (bL_hangs_32 n_32) gg v1 v2 v3 v4 v5 v6 v7 v8 v9 v10 := hs.trans (by unfold bL_hangs_192; rw [if_pos c_196, if_pos c_211])
              exact bk_222 gg v3 v5 v7 v8 v10 (hgn) (hp2_32) _ _ _ hJ (lv_sub hl [0, 1, 2, 3, 4, 5, 6, 7, 8, 9, 10] rfl) hs
      have bk_175 : ∀ (gg : GS) (v3 : Int32) (v5 : Int32) (v7 : Int32) (v8 : Int32) (v10 : Int32), (Gn gg) → (v9 < nn v2) → ∀ (H : Heap) (locs : List Loc) (ls : Array Slot), JG E B s_ gg H locs → lv_has ls 15 [(0, .ref (B + 0)), (1, .int v1), (2, .int v2), (3, .int v3), (4, .int v4), (5, .int v5), (6, .int v6), (7, .int v7), (8, .int v8), (9, .int (nI v9)), (10, .int v10)] → sL_hangs g = bL_hangs_175 (bL_hangs_32 n_32) gg v1 v2 v3 v4 v5 v6 v7 v8 v9 v10 → W P_ l e_ (rmm 6 138 0 0) s_ m_ a_ below meth cd H locs 0 0 Q (F0 m_ 175 ls []) := by
        intro gg v3 v5 v7 v8 v10 hgn hp2_32 H locs ls hJ hl hs
        refine lv_iload hx hb dL_hangs_175 (lv_at hl 10 rfl) ?_
        refine lv_bipush (v := (-6)) hx hb dL_hangs_177 (by decide) ?_
        refine lv_icmp_ne (tgt := 192) hx hb dL_hangs_179 (by decide) (fun c_179 => ?_) (fun c_179 => ?_)
        · skip
          have hs : sL_hangs g = bL_hangs_192 (bL_hangs_32 n_32) gg v1 v2 v3 v4 v5 v6 v7 v8 v9 v10 := hs.trans (by unfold bL_hangs_175; rw [if_neg c_179])
          exact bk_192 gg v3 v5 v7 v8 v10 (hgn) (hp2_32) _ _ _ hJ (lv_sub hl [0, 1, 2, 3, 4, 5, 6, 7, 8, 9, 10] rfl) hs
        · skip
          refine lv_aload_n hx hb dL_hangs_182 rfl (lv_at hl 0 rfl) ?_
          refine lv_iload hx hb dL_hangs_183 (lv_at hl 9 rfl) ?_
          refine lv_iconst (v := 4) hx hb dL_hangs_185 (by decide) ?_
          refine kL_16 X hJ (mX6_ofCart l E B gg (nI v9) 4 (hgn)) rfl (by omega) at_X hl.1 ⟨Nat.le_of_ble_eq_true rfl, Nat.le_of_ble_eq_true rfl⟩ ⟨Nat.le_refl _, Nat.le_refl _⟩ (rest := []) rfl (Nat.le_of_ble_eq_true rfl) dL_hangs_186 (fun H locs hJ => ?_)
          refine lv_if_ne (tgt := 253) hx hb dL_hangs_189 (by decide) (fun c_189 => ?_) (fun c_189 => ?_)
          · skip
            refine lv_iconst (v := 0) hx hb dL_hangs_253 (by decide) ?_
            have hs : sL_hangs g = (0, gg) := hs.trans (by unfold bL_hangs_175; rw [if_pos c_179, if_neg c_189])
            exact fin (by rw [hs]; dsimp only; exact hJ) (by rw [hs]) dL_hangs_254
          · skip
            have hs : sL_hangs g = bL_hangs_192 (bL_hangs_32 n_32) gg v1 v2 v3 v4 v5 v6 v7 v8 v9 v10 := hs.trans (by unfold bL_hangs_175; rw [if_pos c_179, if_pos c_189])
            exact bk_192 gg v3 v5 v7 v8 v10 (hgn) (hp2_32) _ _ _ hJ (lv_sub hl [0, 1, 2, 3, 4, 5, 6, 7, 8, 9, 10] rfl) hs
      have bk_111 : ∀ (gg : GS) (v3 : Int32) (v5 : Int32) (v7 : Int32) (v8 : Int32) (v10 : Int32), (Gn gg) → (v9 < nn v2) → ∀ (H : Heap) (locs : List Loc) (ls : Array Slot), JG E B s_ gg H locs → lv_has ls 15 [(0, .ref (B + 0)), (1, .int v1), (2, .int v2), (3, .int v3), (4, .int v4), (5, .int v5), (6, .int v6), (7, .int v7), (8, .int v8), (9, .int (nI v9)), (10, .int v10)] → sL_hangs g = bL_hangs_111 (bL_hangs_32 n_32) gg v1 v2 v3 v4 v5 v6 v7 v8 v9 v10 → W P_ l e_ (rmm 6 138 0 0) s_ m_ a_ below meth cd H locs 0 0 Q (F0 m_ 111 ls []) := by
        intro gg v3 v5 v7 v8 v10 hgn hp2_32 H locs ls hJ hl hs
        refine lv_aload_n hx hb dL_hangs_111 rfl (lv_at hl 0 rfl) ?_
        refine lv_iload hx hb dL_hangs_112 (lv_at hl 9 rfl) ?_
        refine lv_iconst (v := 1) hx hb dL_hangs_114 (by decide) ?_
        refine kL_16 X hJ (mX6_ofCart l E B gg (nI v9) 1 (hgn)) rfl (by omega) at_X hl.1 ⟨Nat.le_of_ble_eq_true rfl, Nat.le_of_ble_eq_true rfl⟩ ⟨Nat.le_refl _, Nat.le_refl _⟩ (rest := []) rfl (Nat.le_of_ble_eq_true rfl) dL_hangs_115 (fun H locs hJ => ?_)
        refine lv_if_lt (tgt := 253) hx hb dL_hangs_118 (by decide) (fun c_118 => ?_) (fun c_118 => ?_)
        · skip
          refine lv_iconst (v := 0) hx hb dL_hangs_253 (by decide) ?_
          have hs : sL_hangs g = (0, gg) := hs.trans (by unfold bL_hangs_111; rw [if_pos c_118])
          exact fin (by rw [hs]; dsimp only; exact hJ) (by rw [hs]) dL_hangs_254
        · skip
          refine lv_aload_n hx hb dL_hangs_121 rfl (lv_at hl 0 rfl) ?_
          refine lv_iload hx hb dL_hangs_122 (lv_at hl 9 rfl) ?_
          refine lv_iconst (v := 0) hx hb dL_hangs_124 (by decide) ?_
          refine kL_16 X hJ (mX6_ofCart l E B gg (nI v9) 0 (hgn)) rfl (by omega) at_X hl.1 ⟨Nat.le_of_ble_eq_true rfl, Nat.le_of_ble_eq_true rfl⟩ ⟨Nat.le_refl _, Nat.le_refl _⟩ (rest := []) rfl (Nat.le_of_ble_eq_true rfl) dL_hangs_125 (fun H locs hJ => ?_)
          refine lv_if_lt (tgt := 253) hx hb dL_hangs_128 (by decide) (fun c_128 => ?_) (fun c_128 => ?_)
          · skip
            refine lv_iconst (v := 0) hx hb dL_hangs_253 (by decide) ?_
            have hs : sL_hangs g = (0, gg) := hs.trans (by unfold bL_hangs_111; rw [if_neg c_118, if_pos c_128])
            exact fin (by rw [hs]; dsimp only; exact hJ) (by rw [hs]) dL_hangs_254
          · skip
            refine lv_aload_n hx hb dL_hangs_131 rfl (lv_at hl 0 rfl) ?_
            refine lv_iload hx hb dL_hangs_132 (lv_at hl 9 rfl) ?_
            refine lv_iconst (v := 0) hx hb dL_hangs_134 (by decide) ?_
            refine kL_16 X hJ (mX6_ofCart l E B gg (nI v9) 0 (hgn)) rfl (by omega) at_X hl.1 ⟨Nat.le_of_ble_eq_true rfl, Nat.le_of_ble_eq_true rfl⟩ ⟨Nat.le_refl _, Nat.le_refl _⟩ (rest := []) rfl (Nat.le_of_ble_eq_true rfl) dL_hangs_135 (fun H locs hJ => ?_)
            refine lv_bipush (v := 7) hx hb dL_hangs_138 (by decide) ?_
            refine lv_icmp_gt (tgt := 253) hx hb dL_hangs_140 (by decide) (fun c_140 => ?_) (fun c_140 => ?_)
            · skip
              refine lv_iconst (v := 0) hx hb dL_hangs_253 (by decide) ?_
              have hs : sL_hangs g = (0, gg) := hs.trans (by unfold bL_hangs_111; rw [if_neg c_118, if_neg c_128, if_pos c_140])
              exact fin (by rw [hs]; dsimp only; exact hJ) (by rw [hs]) dL_hangs_254
            · skip
              refine lv_iload hx hb dL_hangs_143 (lv_at hl 10 rfl) ?_
              refine lv_bipush (v := (-6)) hx hb dL_hangs_145 (by decide) ?_
              refine lv_icmp_ne (tgt := 154) hx hb dL_hangs_147 (by decide) (fun c_147 => ?_) (fun c_147 => ?_)
              · skip
                refine lv_iconst (v := 0) hx hb dL_hangs_154 (by decide) ?_
                refine lv_aload_n hx hb dL_hangs_155 rfl (lv_at hl 0 rfl) ?_
                refine lv_iload hx hb dL_hangs_156 (lv_at hl 9 rfl) ?_
                refine lv_iconst (v := 3) hx hb dL_hangs_158 (by decide) ?_
                refine kL_16 X hJ (mX6_ofCart l E B gg (nI v9) 3 (hgn)) rfl (by omega) at_X hl.1 ⟨Nat.le_of_ble_eq_true rfl, Nat.le_of_ble_eq_true rfl⟩ ⟨Nat.le_refl _, Nat.le_refl _⟩ (rest := [.int 0]) rfl (Nat.le_of_ble_eq_true rfl) dL_hangs_159 (fun H locs hJ => ?_)
                refine lv_bipush (v := (-6)) hx hb dL_hangs_162 (by decide) ?_
                refine lv_icmp_ne (tgt := 171) hx hb dL_hangs_164 (by decide) (fun c_164 => ?_) (fun c_164 => ?_)
                · skip
                  refine lv_iconst (v := 0) hx hb dL_hangs_171 (by decide) ?_
                  refine lv_icmp_ne (tgt := 253) hx hb dL_hangs_172 (by decide) (fun c_172 => ?_) (fun c_172 => ?_)
                  · exact absurd c_172 (by decide)
                  · skip
                    have hs : sL_hangs g = bL_hangs_175 (bL_hangs_32 n_32) gg v1 v2 v3 v4 v5 v6 v7 v8 v9 v10 := hs.trans (by unfold bL_hangs_111; rw [if_neg c_118, if_neg c_128, if_neg c_140, if_neg c_147, if_neg c_164])
                    exact bk_175 gg v3 v5 v7 v8 v10 (hgn) (hp2_32) _ _ _ hJ (lv_sub hl [0, 1, 2, 3, 4, 5, 6, 7, 8, 9, 10] rfl) hs
                · skip
                  refine lv_iconst (v := 1) hx hb dL_hangs_167 (by decide) ?_
                  refine lv_goto (tgt := 172) hx hb dL_hangs_168 (by decide) ?_
                  refine lv_icmp_ne (tgt := 253) hx hb dL_hangs_172 (by decide) (fun c_172 => ?_) (fun c_172 => ?_)
                  · skip
                    refine lv_iconst (v := 0) hx hb dL_hangs_253 (by decide) ?_
                    have hs : sL_hangs g = (0, gg) := hs.trans (by unfold bL_hangs_111; rw [if_neg c_118, if_neg c_128, if_neg c_140, if_neg c_147, if_pos c_164])
                    exact fin (by rw [hs]; dsimp only; exact hJ) (by rw [hs]) dL_hangs_254
                  · exact absurd c_172 (by decide)
              · skip
                refine lv_iconst (v := 1) hx hb dL_hangs_150 (by decide) ?_
                refine lv_goto (tgt := 155) hx hb dL_hangs_151 (by decide) ?_
                refine lv_aload_n hx hb dL_hangs_155 rfl (lv_at hl 0 rfl) ?_
                refine lv_iload hx hb dL_hangs_156 (lv_at hl 9 rfl) ?_
                refine lv_iconst (v := 3) hx hb dL_hangs_158 (by decide) ?_
                refine kL_16 X hJ (mX6_ofCart l E B gg (nI v9) 3 (hgn)) rfl (by omega) at_X hl.1 ⟨Nat.le_of_ble_eq_true rfl, Nat.le_of_ble_eq_true rfl⟩ ⟨Nat.le_refl _, Nat.le_refl _⟩ (rest := [.int 1]) rfl (Nat.le_of_ble_eq_true rfl) dL_hangs_159 (fun H locs hJ => ?_)
                refine lv_bipush (v := (-6)) hx hb dL_hangs_162 (by decide) ?_
                refine lv_icmp_ne (tgt := 171) hx hb dL_hangs_164 (by decide) (fun c_164 => ?_) (fun c_164 => ?_)
                · skip
                  refine lv_iconst (v := 0) hx hb dL_hangs_171 (by decide) ?_
                  refine lv_icmp_ne (tgt := 253) hx hb dL_hangs_172 (by decide) (fun c_172 => ?_) (fun c_172 => ?_)
                  · skip
                    refine lv_iconst (v := 0) hx hb dL_hangs_253 (by decide) ?_
                    have hs : sL_hangs g = (0, gg) := hs.trans (by unfold bL_hangs_111; rw [if_neg c_118, if_neg c_128, if_neg c_140, if_pos c_147, if_neg c_164])
                    exact fin (by rw [hs]; dsimp only; exact hJ) (by rw [hs]) dL_hangs_254
                  · exact absurd c_172 (by decide)
                · skip
                  refine lv_iconst (v := 1) hx hb dL_hangs_167 (by decide) ?_
                  refine lv_goto (tgt := 172) hx hb dL_hangs_168 (by decide) ?_
                  refine lv_icmp_ne (tgt := 253) hx hb dL_hangs_172 (by decide) (fun c_172 => ?_) (fun c_172 => ?_)
                  · exact absurd c_172 (by decide)
                  · skip
                    have hs : sL_hangs g = bL_hangs_175 (bL_hangs_32 n_32) gg v1 v2 v3 v4 v5 v6 v7 v8 v9 v10 := hs.trans (by unfold bL_hangs_111; rw [if_neg c_118, if_neg c_128, if_neg c_140, if_pos c_147, if_pos c_164])
                    exact bk_175 gg v3 v5 v7 v8 v10 (hgn) (hp2_32) _ _ _ hJ (lv_sub hl [0, 1, 2, 3, 4, 5, 6, 7, 8, 9, 10] rfl) hs
      refine lv_iload hx hb dL_hangs_32 (lv_at hl 9 rfl) ?_
      refine lv_iload_n hx hb dL_hangs_34 rfl (lv_at hl 2 rfl) ?_
      refine lv_icmp_ge (tgt := 396) hx hb dL_hangs_35 (by decide) (fun c_35 => ?_) (fun c_35 => ?_)
      · skip
        refine lv_iconst (v := 0) hx hb dL_hangs_396 (by decide) ?_
        refine lv_istore (lv' := [(9, .int 0), (0, .ref (B + 0)), (1, .int v1), (2, .int v2), (3, .int v3), (4, .int v4), (5, .int v5), (6, .int v6), (7, .int v7), (8, .int v8)]) hx hb dL_hangs_397 hl (by decide) rfl (fun ls hl => ?_)
        refine lv_iconst (v := 0) hx hb dL_hangs_399 (by decide) ?_
        refine lv_istore (lv' := [(10, .int 0), (9, .int 0), (0, .ref (B + 0)), (1, .int v1), (2, .int v2), (3, .int v3), (4, .int v4), (5, .int v5), (6, .int v6), (7, .int v7), (8, .int v8)]) hx hb dL_hangs_400 hl (by decide) rfl (fun ls hl => ?_)
        have hs : sL_hangs g = bL_hangs_402 (nn v1 + 1) gg v1 v2 v3 v4 v5 v6 v7 v8 0 0 := hs.trans (by rw [bL_hangs_32, if_pos c_35])
        exact bk_402 (nn v1 + 1) gg v1 v2 v3 v4 v5 v6 v7 v8 0 0 (by omega) (hgn) (by omega) _ _ _ hJ (lv_sub hl [2, 3, 4, 5, 6, 7, 8, 9, 10, 1, 0] rfl) hs
      · skip
        have hp2_32 : v9 < nn v2 := nlt_cnt c_35 (by have := nn_b (c := v2); omega)
        refine lv_aload_n hx hb dL_hangs_38 rfl (lv_at hl 0 rfl) ?_
        refine lv_iload hx hb dL_hangs_39 (lv_at hl 9 rfl) ?_
        refine lv_iconst (v := 2) hx hb dL_hangs_41 (by decide) ?_
        refine kL_16 X hJ (mX6_ofCart l E B gg (nI v9) 2 (hgn)) rfl (by omega) at_X hl.1 ⟨Nat.le_of_ble_eq_true rfl, Nat.le_of_ble_eq_true rfl⟩ ⟨Nat.le_refl _, Nat.le_refl _⟩ (rest := []) rfl (Nat.le_of_ble_eq_true rfl) dL_hangs_42 (fun H locs hJ => ?_)
        refine lv_istore (lv' := [(10, .int (sX6_ofCart gg (nI v9) 2)), (0, .ref (B + 0)), (1, .int v1), (2, .int v2), (3, .int v3), (4, .int v4), (5, .int v5), (6, .int v6), (7, .int v7), (8, .int v8), (9, .int (nI v9))]) hx hb dL_hangs_45 hl (by decide) rfl (fun ls hl => ?_)
        refine lv_iload_n hx hb dL_hangs_47 rfl (lv_at hl 4 rfl) ?_
        refine lv_aload_n hx hb dL_hangs_48 rfl (lv_at hl 1 rfl) ?_
        refine lv_iload hx hb dL_hangs_49 (lv_at hl 10 rfl) ?_
        refine lv_iconst (v := 1) hx hb dL_hangs_51 (by decide) ?_
        refine kL_16 X hJ (mX6_ofCart l E B gg (nI v9) 1 (hgn)) rfl (by omega) at_X hl.1 ⟨Nat.le_of_ble_eq_true rfl, Nat.le_of_ble_eq_true rfl⟩ ⟨Nat.le_refl _, Nat.le_refl _⟩ (rest := [.int v3]) rfl (Nat.le_of_ble_eq_true rfl) dL_hangs_52 (fun H locs hJ => ?_)
        refine lv_iadd hx hb dL_hangs_55 ?_
        refine lv_istore_n (lv' := [(3, .int (v3 + (sX6_ofCart gg (nI v9) 1))), (10, .int (sX6_ofCart gg (nI v9) 2)), (0, .ref (B + 0)), (1, .int v1), (2, .int v2), (4, .int v4), (5, .int v5), (6, .int v6), (7, .int v7), (8, .int v8), (9, .int (nI v9))]) hx hb dL_hangs_56 rfl hl (by decide) rfl (fun ls hl => ?_)
        refine lv_iload hx hb dL_hangs_57 (lv_at hl 6 rfl) ?_
        refine lv_aload_n hx hb dL_hangs_59 rfl (lv_at hl 2 rfl) ?_
        refine lv_iload hx hb dL_hangs_60 (lv_at hl 10 rfl) ?_
        refine lv_iconst (v := 5) hx hb dL_hangs_62 (by decide) ?_
        refine kL_16 X hJ (mX6_ofCart l E B gg (nI v9) 5 (hgn)) rfl (by omega) at_X hl.1 ⟨Nat.le_of_ble_eq_true rfl, Nat.le_of_ble_eq_true rfl⟩ ⟨Nat.le_refl _, Nat.le_refl _⟩ (rest := [.int v5]) rfl (Nat.le_of_ble_eq_true rfl) dL_hangs_63 (fun H locs hJ => ?_)
        refine lv_iadd hx hb dL_hangs_66 ?_
        refine lv_istore (lv' := [(5, .int (v5 + (sX6_ofCart gg (nI v9) 5))), (3, .int (v3 + (sX6_ofCart gg (nI v9) 1))), (10, .int (sX6_ofCart gg (nI v9) 2)), (0, .ref (B + 0)), (1, .int v1), (2, .int v2), (4, .int v4), (6, .int v6), (7, .int v7), (8, .int v8), (9, .int (nI v9))]) hx hb dL_hangs_67 hl (by decide) rfl (fun ls hl => ?_)
        refine lv_iload hx hb dL_hangs_69 (lv_at hl 9 rfl) ?_
        refine lv_aload_n hx hb dL_hangs_71 rfl (lv_at hl 3 rfl) ?_
        refine lv_iload hx hb dL_hangs_72 (lv_at hl 10 rfl) ?_
        refine lv_bipush (v := 6) hx hb dL_hangs_74 (by decide) ?_
        refine kL_16 X hJ (mX6_ofCart l E B gg (nI v9) 6 (hgn)) rfl (by omega) at_X hl.1 ⟨Nat.le_of_ble_eq_true rfl, Nat.le_of_ble_eq_true rfl⟩ ⟨Nat.le_refl _, Nat.le_refl _⟩ (rest := [.int v8]) rfl (Nat.le_of_ble_eq_true rfl) dL_hangs_76 (fun H locs hJ => ?_)
        refine lv_aload_n hx hb dL_hangs_79 rfl (lv_at hl 3 rfl) ?_
        refine lv_iload hx hb dL_hangs_80 (lv_at hl 10 rfl) ?_
        refine lv_bipush (v := 7) hx hb dL_hangs_82 (by decide) ?_
        refine kL_16 X hJ (mX6_ofCart l E B gg (nI v9) 7 (hgn)) rfl (by omega) at_X hl.1 ⟨Nat.le_of_ble_eq_true rfl, Nat.le_of_ble_eq_true rfl⟩ ⟨Nat.le_refl _, Nat.le_refl _⟩ (rest := [.int (sX6_ofCart gg (nI v9) 6), .int v8]) rfl (Nat.le_of_ble_eq_true rfl) dL_hangs_84 (fun H locs hJ => ?_)
        refine lv_isub hx hb dL_hangs_87 ?_
        refine lv_iadd hx hb dL_hangs_88 ?_
        refine lv_istore (lv' := [(8, .int (v8 + ((sX6_ofCart gg (nI v9) 6) - (sX6_ofCart gg (nI v9) 7)))), (5, .int (v5 + (sX6_ofCart gg (nI v9) 5))), (3, .int (v3 + (sX6_ofCart gg (nI v9) 1))), (10, .int (sX6_ofCart gg (nI v9) 2)), (0, .ref (B + 0)), (1, .int v1), (2, .int v2), (4, .int v4), (6, .int v6), (7, .int v7), (9, .int (nI v9))]) hx hb dL_hangs_89 hl (by decide) rfl (fun ls hl => ?_)
        refine lv_iload hx hb dL_hangs_91 (lv_at hl 9 rfl) ?_
        refine lv_iload hx hb dL_hangs_93 (lv_at hl 3 rfl) ?_
        refine lv_bipush (v := (-6)) hx hb dL_hangs_95 (by decide) ?_
        refine lv_icmp_ne (tgt := 104) hx hb dL_hangs_97 (by decide) (fun c_97 => ?_) (fun c_97 => ?_)
        · skip
          refine lv_iconst (v := 1) hx hb dL_hangs_104 (by decide) ?_
          refine lv_iload hx hb dL_hangs_105 (lv_at hl 10 rfl) ?_
          refine lv_ishl hx hb dL_hangs_107 ?_
          refine lv_ior hx hb dL_hangs_108 ?_
          refine lv_istore (lv' := [(7, .int (v7 ||| (1 <<< ((nI v9) &&& 31)))), (8, .int (v8 + ((sX6_ofCart gg (nI v9) 6) - (sX6_ofCart gg (nI v9) 7)))), (5, .int (v5 + (sX6_ofCart gg (nI v9) 5))), (3, .int (v3 + (sX6_ofCart gg (nI v9) 1))), (10, .int (sX6_ofCart gg (nI v9) 2)), (0, .ref (B + 0)), (1, .int v1), (2, .int v2), (4, .int v4), (6, .int v6), (9, .int (nI v9))]) hx hb dL_hangs_109 hl (by decide) rfl (fun ls hl => ?_)
          have hs : sL_hangs g = bL_hangs_111 (bL_hangs_32 n_32) gg v1 v2 (v3 + (sX6_ofCart gg (nI v9) 1)) v4 (v5 + (sX6_ofCart gg (nI v9) 5)) v6 (v7 ||| (1 <<< ((nI v9) &&& 31))) (v8 + ((sX6_ofCart gg (nI v9) 6) - (sX6_ofCart gg (nI v9) 7))) v9 (sX6_ofCart gg (nI v9) 2) := hs.trans (by rw [bL_hangs_32, if_neg c_35, if_neg c_97])
          exact bk_111 gg (v3 + (sX6_ofCart gg (nI v9) 1)) (v5 + (sX6_ofCart gg (nI v9) 5)) (v7 ||| (1 <<< ((nI v9) &&& 31))) (v8 + ((sX6_ofCart gg (nI v9) 6) - (sX6_ofCart gg (nI v9) 7))) (sX6_ofCart gg (nI v9) 2) (hgn) (hp2_32) _ _ _ hJ (lv_sub hl [5, 6, 7, 3, 8, 2, 9, 0, 1, 10, 4] rfl) hs
        · skip
          refine lv_iconst (v := 0) hx hb dL_hangs_100 (by decide) ?_
          refine lv_goto (tgt := 108) hx hb dL_hangs_101 (by decide) ?_
          refine lv_ior hx hb dL_hangs_108 ?_
          refine lv_istore (lv' := [(7, .int (v7 ||| 0)), (8, .int (v8 + ((sX6_ofCart gg (nI v9) 6) - (sX6_ofCart gg (nI v9) 7)))), (5, .int (v5 + (sX6_ofCart gg (nI v9) 5))), (3, .int (v3 + (sX6_ofCart gg (nI v9) 1))), (10, .int (sX6_ofCart gg (nI v9) 2)), (0, .ref (B + 0)), (1, .int v1), (2, .int v2), (4, .int v4), (6, .int v6), (9, .int (nI v9))]) hx hb dL_hangs_109 hl (by decide) rfl (fun ls hl => ?_)
          have hs : sL_hangs g = bL_hangs_111 (bL_hangs_32 n_32) gg v1 v2 (v3 + (sX6_ofCart gg (nI v9) 1)) v4 (v5 + (sX6_ofCart gg (nI v9) 5)) v6 (v7 ||| 0) (v8 + ((sX6_ofCart gg (nI v9) 6) - (sX6_ofCart gg (nI v9) 7))) v9 (sX6_ofCart gg (nI v9) 2) := hs.trans (by rw [bL_hangs_32, if_neg c_35, if_pos c_97])
          exact bk_111 gg (v3 + (sX6_ofCart gg (nI v9) 1)) (v5 + (sX6_ofCart gg (nI v9) 5)) (v7 ||| 0) (v8 + ((sX6_ofCart gg (nI v9) 6) - (sX6_ofCart gg (nI v9) 7))) (sX6_ofCart gg (nI v9) 2) (hgn) (hp2_32) _ _ _ hJ (lv_sub hl [5, 6, 7, 3, 8, 2, 9, 0, 1, 10, 4] rfl) hs
  refine lv_aload_n hx hb dL_hangs_0 rfl (lv_at hl 0 rfl) ?_
  refine lv_iconst (v := 1) hx hb dL_hangs_1 (by decide) ?_
  refine kL_10 X hJ (mX6_count l E B g 1 (hgn)) rfl (by omega) at_X hl.1 ⟨Nat.le_of_ble_eq_true rfl, Nat.le_of_ble_eq_true rfl⟩ ⟨Nat.le_refl _, Nat.le_refl _⟩ (rest := []) rfl (Nat.le_of_ble_eq_true rfl) dL_hangs_2 (fun H locs hJ => ?_)
  refine lv_istore_n (lv' := [(1, .int (sX6_count g 1)), (0, .ref (B + 0))]) hx hb dL_hangs_5 rfl hl (by decide) rfl (fun ls hl => ?_)
  refine lv_aload_n hx hb dL_hangs_6 rfl (lv_at hl 1 rfl) ?_
  refine lv_iconst (v := 2) hx hb dL_hangs_7 (by decide) ?_
  refine kL_10 X hJ (mX6_count l E B g 2 (hgn)) rfl (by omega) at_X hl.1 ⟨Nat.le_of_ble_eq_true rfl, Nat.le_of_ble_eq_true rfl⟩ ⟨Nat.le_refl _, Nat.le_refl _⟩ (rest := []) rfl (Nat.le_of_ble_eq_true rfl) dL_hangs_8 (fun H locs hJ => ?_)
  refine lv_istore_n (lv' := [(2, .int (sX6_count g 2)), (1, .int (sX6_count g 1)), (0, .ref (B + 0))]) hx hb dL_hangs_11 rfl hl (by decide) rfl (fun ls hl => ?_)
  refine lv_iconst (v := 0) hx hb dL_hangs_12 (by decide) ?_
  refine lv_istore_n (lv' := [(3, .int 0), (2, .int (sX6_count g 2)), (1, .int (sX6_count g 1)), (0, .ref (B + 0))]) hx hb dL_hangs_13 rfl hl (by decide) rfl (fun ls hl => ?_)
  refine lv_iconst (v := 0) hx hb dL_hangs_14 (by decide) ?_
  refine lv_istore (lv' := [(4, .int 0), (3, .int 0), (2, .int (sX6_count g 2)), (1, .int (sX6_count g 1)), (0, .ref (B + 0))]) hx hb dL_hangs_15 hl (by decide) rfl (fun ls hl => ?_)
  refine lv_iconst (v := 0) hx hb dL_hangs_17 (by decide) ?_
  refine lv_istore (lv' := [(5, .int 0), (4, .int 0), (3, .int 0), (2, .int (sX6_count g 2)), (1, .int (sX6_count g 1)), (0, .ref (B + 0))]) hx hb dL_hangs_18 hl (by decide) rfl (fun ls hl => ?_)
  refine lv_iconst (v := 0) hx hb dL_hangs_20 (by decide) ?_
  refine lv_istore (lv' := [(6, .int 0), (5, .int 0), (4, .int 0), (3, .int 0), (2, .int (sX6_count g 2)), (1, .int (sX6_count g 1)), (0, .ref (B + 0))]) hx hb dL_hangs_21 hl (by decide) rfl (fun ls hl => ?_)
  refine lv_iconst (v := 0) hx hb dL_hangs_23 (by decide) ?_
  refine lv_istore (lv' := [(7, .int 0), (6, .int 0), (5, .int 0), (4, .int 0), (3, .int 0), (2, .int (sX6_count g 2)), (1, .int (sX6_count g 1)), (0, .ref (B + 0))]) hx hb dL_hangs_24 hl (by decide) rfl (fun ls hl => ?_)
  refine lv_iconst (v := 0) hx hb dL_hangs_26 (by decide) ?_
  refine lv_istore (lv' := [(8, .int 0), (7, .int 0), (6, .int 0), (5, .int 0), (4, .int 0), (3, .int 0), (2, .int (sX6_count g 2)), (1, .int (sX6_count g 1)), (0, .ref (B + 0))]) hx hb dL_hangs_27 hl (by decide) rfl (fun ls hl => ?_)
  refine lv_iconst (v := 0) hx hb dL_hangs_29 (by decide) ?_
  refine lv_istore (lv' := [(9, .int 0), (8, .int 0), (7, .int 0), (6, .int 0), (5, .int 0), (4, .int 0), (3, .int 0), (2, .int (sX6_count g 2)), (1, .int (sX6_count g 1)), (0, .ref (B + 0))]) hx hb dL_hangs_30 hl (by decide) rfl (fun ls hl => ?_)
  have hs : sL_hangs g = bL_hangs_32 (nn (sX6_count g 2) + 1) g (sX6_count g 1) (sX6_count g 2) 0 0 0 0 0 0 0 := by unfold sL_hangs; rfl
  exact bk_32 (nn (sX6_count g 2) + 1) g (sX6_count g 1) (sX6_count g 2) 0 0 0 0 0 0 0 (by omega) (hgn) (by omega) _ _ _ hJ (lv_sub hl [9, 8, 7, 6, 5, 4, 3, 2, 1, 0] rfl) hs
