def sL_low (a : Int32) (b : Int32) : Int32 := (a &&& 2147483647) - (a &&& 2147483647) / b * b
set_option maxHeartbeats 4000000 in
set_option maxRecDepth 100000 in
theorem mL_low (l : Launch) (E : EE) (B : Nat) (g : GS) (a : Int32) (b : Int32) (hb0 : ¬ b = 0) : CG l yL_low cL_low 2 (some .int) 0 0 E B [.int a, .int b] g (some (.int (sL_low a b))) g := by
  refine mkI (own := RL) (ty := .int) rfl (by decide) rfl (rfl) (Nat.le_of_ble_eq_true rfl) (fun P_ e_ s_ m_ a_ below meth cd Q X fin ls hl hJ => ?_)
  have hx := X.1
  have hb := X.2.1
  have hl : lv_has ls 2 [(0, .int a), (1, .int b)] := hl
  refine lv_iload_n hx hb dL_low_0 rfl (lv_at hl 0 rfl) ?_
  refine lv_ldc (own := RL) hx hb X.2.2.2.1 (X.2.2.2.2.1 (.constant RL 9 2147483647) (tw (i := 358) (by decide +kernel) (by decide))) dL_low_1 ?_
  refine lv_iand hx hb dL_low_3 ?_
  refine lv_iload_n hx hb dL_low_4 rfl (lv_at hl 1 rfl) ?_
  refine lv_irem hx hb dL_low_5 (hb0) ?_
  have hs : sL_low a b = (a &&& 2147483647) - (a &&& 2147483647) / b * b := by unfold sL_low; rfl
  exact fin hJ (by rw [hs]) dL_low_6

