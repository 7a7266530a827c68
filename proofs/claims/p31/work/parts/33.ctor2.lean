/-! constructors of a cart and of the pad -/
theorem tw_aI : Cond.arrayClass (newarray.typeOf .int) ∈ TW := tw (i := 88) (by decide +kernel) (by decide)
theorem upf {f : Nat → va_E} {o : Nat} {e : va_E} : va_up f o e o = e := if_pos rfl
theorem upf_ne {f : Nat → va_E} {o j : Nat} {e : va_E} (h : ¬ j = o) : va_up f o e j = f j := if_neg h
def ctF (f : Nat → va_E) (B n o : Nat) (E : EE) (fs : List Value) (i : Int32) : Nat → va_E :=
  va_up (va_up (va_up (va_up (va_up (va_up (va_up f o (.inr (1, fs.set 3 (.int (-6))))) o (.inr (1, (fs.set 3 (.int (-6))).set 4 (.int (-6))))) n (.inl (E.2 0, 12, .inl (fun _ => 0))))
    o (.inr (1, ((fs.set 3 (.int (-6))).set 4 (.int (-6))).set 9 (.ref (B + n))))) (n + 1) (.inl (E.2 0, 12, .inl (fun _ => 0))))
    o (.inr (1, (((fs.set 3 (.int (-6))).set 4 (.int (-6))).set 9 (.ref (B + n))).set 10 (.ref (B + (n + 1)))))) o (.inr (1, ((((fs.set 3 (.int (-6))).set 4 (.int (-6))).set 9 (.ref (B + n))).set 10 (.ref (B + (n + 1)))).set 0 (.int i)))
set_option maxHeartbeats 4000000 in
set_option maxRecDepth 100000 in
theorem mX1_init (l : Launch) (E : EE) (B : Nat) {n o : Nat} {f : Nat → va_E} {fs : List Value} (i : Int32) (ho : o < n) (hf : f o = .inr (1, fs)) (hlen : fs.length = 11) : Ct l yX1_init cX1_init 2 none 1 20 2 24 E B [.ref (B + o), .int i] n f none (n + 2) (ctF f B n o E fs i) := by
  have ne1 : ¬ o = n := by omega
  have ne2 : ¬ o = n + 1 := by omega
  refine mkV (own := RX1) rfl (by decide) rfl (Nat.le_of_ble_eq_true rfl) (fun P_ e_ s_ m_ a_ below meth cd Q X hin2 fin ls hl hJ => ?_)
  have hx := X.1
  have hb := X.2.1
  have hl : lv_has ls 2 [(0, .ref (B + o)), (1, .int i)] := hl
  refine lv_aload_n hx hb dX1_init_0 rfl (lv_at hl 0 rfl) ?_
  refine kX1_3 X hl.1 ⟨Nat.le_of_ble_eq_true rfl, Nat.le_of_ble_eq_true rfl⟩ ⟨Nat.le_of_ble_eq_true rfl, Nat.le_of_ble_eq_true rfl⟩ (rest := []) dX1_init_1 ?_
  refine lv_aload_n hx hb dX1_init_4 rfl (lv_at hl 0 rfl) ?_
  refine lv_bipush (v := (-6)) hx hb dX1_init_5 (by decide) ?_
  refine rput X hJ rfl inT1 tyX1_ok nmX1 3 (by decide) (tw (i := 103) (by decide +kernel) (by decide)) rfl rfl rfl rfl ho hf (by rw [hlen]; decide) dX1_init_7 (fun H locs hJ => ?_)
  refine lv_aload_n hx hb dX1_init_10 rfl (lv_at hl 0 rfl) ?_
  refine lv_bipush (v := (-6)) hx hb dX1_init_11 (by decide) ?_
  refine rput X hJ rfl inT1 tyX1_ok nmX1 4 (by decide) (tw (i := 105) (by decide +kernel) (by decide)) rfl rfl rfl rfl ho upf (by rw [List.length_set, hlen]; decide) dX1_init_13 (fun H locs hJ => ?_)
  refine lv_aload_n hx hb dX1_init_16 rfl (lv_at hl 0 rfl) ?_
  refine lv_bipush (v := 12) hx hb dX1_init_17 (by decide) ?_
  refine rnewa X hJ (t0 := 0) (N := 12) tw_aI rfl rfl va_nm_int rfl rfl (by decide) (by decide) (Nat.le_of_ble_eq_true rfl) (Nat.le_of_ble_eq_true rfl) dX1_init_19 (fun H hJ => ?_)
  refine rputF X hin2 hJ rfl inT1 tyX1_ok nmX1 9 (by decide) (tw (i := 113) (by decide +kernel) (by decide)) rfl rfl rfl rfl rfl (by omega) ((upf_ne ne1).trans upf) (by rw [List.length_set, List.length_set, hlen]; decide) dX1_init_21 (fun H locs hJ => ?_)
  refine lv_aload_n hx hb dX1_init_24 rfl (lv_at hl 0 rfl) ?_
  refine lv_bipush (v := 12) hx hb dX1_init_25 (by decide) ?_
  refine rnewa X hJ (t0 := 0) (N := 12) tw_aI rfl rfl va_nm_int rfl rfl (by decide) (by decide) (Nat.le_of_ble_eq_true rfl) (Nat.le_of_ble_eq_true rfl) dX1_init_27 (fun H hJ => ?_)
  refine rputF X hin2 hJ rfl inT1 tyX1_ok nmX1 10 (by decide) (tw (i := 114) (by decide +kernel) (by decide)) rfl rfl rfl rfl rfl (by omega) ((upf_ne ne2).trans upf) (by rw [List.length_set, List.length_set, List.length_set, hlen]; decide) dX1_init_29 (fun H locs hJ => ?_)
  refine lv_aload_n hx hb dX1_init_32 rfl (lv_at hl 0 rfl) ?_
  refine lv_iload_n hx hb dX1_init_33 rfl (lv_at hl 1 rfl) ?_
  refine rputF X hin2 hJ rfl inT1 tyX1_ok nmX1 0 (by decide) (tw (i := 94) (by decide +kernel) (by decide)) rfl rfl rfl rfl rfl (by omega) upf (by rw [List.length_set, List.length_set, List.length_set, List.length_set, hlen]; decide) dX1_init_34 (fun H locs hJ => ?_)
  exact fin hJ dX1_init_37
set_option maxHeartbeats 4000000 in
set_option maxRecDepth 100000 in
theorem mX4_init (l : Launch) (E : EE) (B : Nat) {n o : Nat} {f : Nat → va_E} {fs : List Value} (ho : o < n) (hf : f o = .inr (4, fs)) (hlen : 0 < fs.length) : Ct l yX4_init cX4_init 1 none 1 20 1 80 E B [.ref (B + o)] n f none (n + 1) (va_up (va_up f n (.inl (E.2 0, 80, .inl (fun _ => 0)))) o (.inr (4, fs.set 0 (.ref (B + n))))) := by
  have ne1 : ¬ o = n := by omega
  refine mkV (own := RX4) rfl (by decide) rfl (Nat.le_of_ble_eq_true rfl) (fun P_ e_ s_ m_ a_ below meth cd Q X hin2 fin ls hl hJ => ?_)
  have hx := X.1
  have hb := X.2.1
  have hl : lv_has ls 1 [(0, .ref (B + o))] := hl
  refine lv_aload_n hx hb dX4_init_0 rfl (lv_at hl 0 rfl) ?_
  refine kX4_3 X hl.1 ⟨Nat.le_of_ble_eq_true rfl, Nat.le_of_ble_eq_true rfl⟩ ⟨Nat.le_of_ble_eq_true rfl, Nat.le_of_ble_eq_true rfl⟩ (rest := []) dX4_init_1 ?_
  refine lv_aload_n hx hb dX4_init_4 rfl (lv_at hl 0 rfl) ?_
  refine lv_bipush (v := 80) hx hb dX4_init_5 (by decide) ?_
  refine rnewa X hJ (t0 := 0) (N := 80) tw_aI rfl rfl va_nm_int rfl rfl (by decide) (by decide) (Nat.le_of_ble_eq_true rfl) (Nat.le_of_ble_eq_true rfl) dX4_init_7 (fun H hJ => ?_)
  refine rputF X hin2 hJ rfl inT4 tyX4_ok nmX4 0 (by decide) (tw (i := 198) (by decide +kernel) (by decide)) rfl rfl rfl rfl rfl (by omega) ((upf_ne ne1).trans hf) hlen dX4_init_9 (fun H locs hJ => ?_)
  exact fin hJ dX4_init_12
