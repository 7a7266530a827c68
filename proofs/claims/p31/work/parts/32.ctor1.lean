/-! constructors of a bridge and of the reader of orders -/
set_option maxHeartbeats 4000000 in
set_option maxRecDepth 100000 in
theorem mX0_init (l : Launch) (E : EE) (B : Nat) {n o : Nat} {f : Nat → va_E} {fs : List Value} (i : Int32) (ho : o < n) (hf : f o = .inr (0, fs)) (hlen : 0 < fs.length) : Ct l yX0_init cX0_init 2 none 1 20 0 0 E B [.ref (B + o), .int i] n f none n (va_up f o (.inr (0, fs.set 0 (.int i)))) := by
  refine mkV (own := RX0) rfl (by decide) rfl (Nat.le_of_ble_eq_true rfl) (fun P_ e_ s_ m_ a_ below meth cd Q X hin2 fin ls hl hJ => ?_)
  have hx := X.1
  have hb := X.2.1
  have hl : lv_has ls 2 [(0, .ref (B + o)), (1, .int i)] := hl
  refine lv_aload_n hx hb dX0_init_0 rfl (lv_at hl 0 rfl) ?_
  refine kX0_3 X hl.1 ⟨Nat.le_of_ble_eq_true rfl, Nat.le_of_ble_eq_true rfl⟩ ⟨Nat.le_refl _, Nat.le_refl _⟩ (rest := []) dX0_init_1 ?_
  refine lv_aload_n hx hb dX0_init_4 rfl (lv_at hl 0 rfl) ?_
  refine lv_iload_n hx hb dX0_init_5 rfl (lv_at hl 1 rfl) ?_
  refine rputF X hin2 hJ rfl inT0 tyX0_ok nmX0 0 (by decide) (tw (i := 46) (by decide +kernel) (by decide)) rfl rfl rfl rfl rfl ho hf hlen dX0_init_6 (fun H locs hJ => ?_)
  exact fin hJ dX0_init_9
set_option maxHeartbeats 4000000 in
set_option maxRecDepth 100000 in
theorem mX3_init (l : Launch) (E : EE) (B : Nat) {n o q : Nat} {f : Nat → va_E} {fs : List Value} (ho : o < n) (hf : f o = .inr (3, fs)) (hlen : 0 < fs.length) : Ct l yX3_init cX3_init 2 none 1 20 0 0 E B [.ref (B + o), .ref (B + q)] n f none n (va_up f o (.inr (3, fs.set 0 (.ref (B + q))))) := by
  refine mkV (own := RX3) rfl (by decide) rfl (Nat.le_of_ble_eq_true rfl) (fun P_ e_ s_ m_ a_ below meth cd Q X hin2 fin ls hl hJ => ?_)
  have hx := X.1
  have hb := X.2.1
  have hl : lv_has ls 2 [(0, .ref (B + o)), (1, .ref (B + q))] := hl
  refine lv_aload_n hx hb dX3_init_0 rfl (lv_at hl 0 rfl) ?_
  refine kX3_3 X hl.1 ⟨Nat.le_of_ble_eq_true rfl, Nat.le_of_ble_eq_true rfl⟩ ⟨Nat.le_refl _, Nat.le_refl _⟩ (rest := []) dX3_init_1 ?_
  refine lv_aload_n hx hb dX3_init_4 rfl (lv_at hl 0 rfl) ?_
  refine lv_aload_n hx hb dX3_init_5 rfl (lv_at hl 1 rfl) ?_
  refine rputF X hin2 hJ rfl inT3 tyX3_ok nmX3 0 (by decide) (tw (i := 213) (by decide +kernel) (by decide)) rfl rfl rfl rfl rfl ho hf hlen dX3_init_6 (fun H locs hJ => ?_)
  exact fin hJ dX3_init_9
