/-! the constructor of the reference -/
theorem tw_aZ : Cond.arrayClass (newarray.typeOf .boolean) ∈ TW := tw (i := 262) (by decide +kernel) (by decide)
def r7a (f : Nat → va_E) (B n o : Nat) (E : EE) (fs : List Value) : Nat → va_E := va_up (va_up f n (.inl (E.2 0, 3600, .inl (fun _ => 0)))) o (.inr (7, fs.set 0 (.ref (B + n))))
def r7b (f : Nat → va_E) (B n o : Nat) (E : EE) (fs : List Value) : Nat → va_E := va_up (va_up (r7a f B n o E fs) (n + 1) (.inl (E.2 1, 2, .inl (fun _ => 0)))) o (.inr (7, (fs.set 0 (.ref (B + n))).set 2 (.ref (B + (n + 1)))))
def r7c (f : Nat → va_E) (B n o : Nat) (E : EE) (fs : List Value) : Nat → va_E := va_up (va_up (r7b f B n o E fs) (n + 2) (.inl (E.2 0, 80, .inl (fun _ => 0)))) o (.inr (7, ((fs.set 0 (.ref (B + n))).set 2 (.ref (B + (n + 1)))).set 3 (.ref (B + (n + 2)))))
def r7d (f : Nat → va_E) (B n o : Nat) (E : EE) (fs : List Value) : Nat → va_E := va_up (va_up (r7c f B n o E fs) (n + 3) (.inl (E.2 0, 8, .inl (fun _ => 0)))) o (.inr (7, (((fs.set 0 (.ref (B + n))).set 2 (.ref (B + (n + 1)))).set 3 (.ref (B + (n + 2)))).set 10 (.ref (B + (n + 3)))))
def r7e (f : Nat → va_E) (B n o : Nat) (E : EE) (fs : List Value) : Nat → va_E := va_up (va_up (va_up (va_up (va_up (r7d f B n o E fs) n (.inl (E.2 0, 3600, .inl (upd (fun _ => 0) 0 3)))) n (.inl (E.2 0, 3600, .inl (upd (upd (fun _ => 0) 0 3) 1 1))))
  n (.inl (E.2 0, 3600, .inl (upd (upd (upd (fun _ => 0) 0 3) 1 1) 2 2)))) n (.inl (E.2 0, 3600, .inl (upd (upd (upd (upd (fun _ => 0) 0 3) 1 1) 2 2) 3 5)))) n (.inl (E.2 0, 3600, .inl (upd (upd (upd (upd (upd (fun _ => 0) 0 3) 1 1) 2 2) 3 5) 7 1)))
section R7
variable {f : Nat → va_E} {B n o : Nat} {E : EE} {fs : List Value}
theorem r7d_o : r7d f B n o E fs o = .inr (7, (((fs.set 0 (.ref (B + n))).set 2 (.ref (B + (n + 1)))).set 3 (.ref (B + (n + 2)))).set 10 (.ref (B + (n + 3)))) := upf
theorem r7d_n (h : o < n) : r7d f B n o E fs n = .inl (E.2 0, 3600, .inl (fun _ => 0)) := by
  unfold r7d r7c r7b r7a
  rw [upf_ne (by omega), upf_ne (by omega), upf_ne (by omega), upf_ne (by omega), upf_ne (by omega), upf_ne (by omega), upf_ne (by omega), upf]
theorem r7_v (hlen : fs.length = 11) {a b c d : Value} : ((((fs.set 0 a).set 2 b).set 3 c).set 10 d)[0]? = some a := by
  rw [List.getElem?_set_ne (by omega), List.getElem?_set_ne (by omega), List.getElem?_set_ne (by omega), List.getElem?_set_self (by omega)]
end R7
set_option maxHeartbeats 4000000 in
set_option maxRecDepth 100000 in
theorem mX7_init (l : Launch) (E : EE) (B : Nat) {n o : Nat} {f : Nat → va_E} {fs : List Value} (ho : o < n) (hf : f o = .inr (7, fs)) (hlen : fs.length = 11) : Ct l yX7_init cX7_init 1 none 1 20 4 3690 E B [.ref (B + o)] n f none (n + 4) (r7e f B n o E fs) := by
  have ne0 : ¬ o = n := by omega
  have ne1 : ¬ o = n + 1 := by omega
  have ne2 : ¬ o = n + 2 := by omega
  have ne3 : ¬ o = n + 3 := by omega
  refine mkV (own := RX7) rfl (by decide) rfl (Nat.le_of_ble_eq_true rfl) (fun P_ e_ s_ m_ a_ below meth cd Q X hin2 fin ls hl hJ => ?_)
  have hx := X.1
  have hb := X.2.1
  have hl : lv_has ls 1 [(0, .ref (B + o))] := hl
  refine lv_aload_n hx hb dX7_init_0 rfl (lv_at hl 0 rfl) ?_
  refine kX7_1 X hl.1 ⟨Nat.le_of_ble_eq_true rfl, Nat.le_of_ble_eq_true rfl⟩ ⟨Nat.le_of_ble_eq_true rfl, Nat.le_of_ble_eq_true rfl⟩ (rest := []) dX7_init_1 ?_
  refine lv_aload_n hx hb dX7_init_4 rfl (lv_at hl 0 rfl) ?_
  refine lv_sipush (v := 3600) hx hb dX7_init_5 (by decide) ?_
  refine rnewa X hJ (t0 := 0) (N := 3600) tw_aI rfl rfl va_nm_int rfl rfl (by decide) (by decide) (Nat.le_of_ble_eq_true rfl) (Nat.le_of_ble_eq_true rfl) dX7_init_8 (fun H hJ => ?_)
  refine rputF X hin2 hJ rfl inT7 tyX7_ok nmX7 0 (by decide) (tw (i := 739) (by decide +kernel) (by decide)) rfl rfl rfl rfl rfl (by omega) ((upf_ne ne0).trans hf) (by rw [hlen]; decide) dX7_init_10 (fun H locs hJ => ?_)
  refine lv_aload_n hx hb dX7_init_13 rfl (lv_at hl 0 rfl) ?_
  refine lv_iconst (v := 2) hx hb dX7_init_14 (by decide) ?_
  refine rnewa X hJ (t0 := 1) (N := 2) tw_aZ rfl rfl va_nm_boolean rfl rfl (by decide) (by decide) (Nat.le_of_ble_eq_true rfl) (Nat.le_of_ble_eq_true rfl) dX7_init_15 (fun H hJ => ?_)
  refine rputF X hin2 hJ rfl inT7 tyX7_ok nmX7 2 (by decide) (tw (i := 741) (by decide +kernel) (by decide)) rfl rfl rfl rfl rfl (by omega) ((upf_ne ne1).trans upf) (by rw [List.length_set, hlen]; decide) dX7_init_17 (fun H locs hJ => ?_)
  refine lv_aload_n hx hb dX7_init_20 rfl (lv_at hl 0 rfl) ?_
  refine lv_bipush (v := 80) hx hb dX7_init_21 (by decide) ?_
  refine rnewa X hJ (t0 := 0) (N := 80) tw_aI rfl rfl va_nm_int rfl rfl (by decide) (by decide) (Nat.le_of_ble_eq_true rfl) (Nat.le_of_ble_eq_true rfl) dX7_init_23 (fun H hJ => ?_)
  refine rputF X hin2 hJ rfl inT7 tyX7_ok nmX7 3 (by decide) (tw (i := 742) (by decide +kernel) (by decide)) rfl rfl rfl rfl rfl (by omega) ((upf_ne ne2).trans upf) (by rw [List.length_set, List.length_set, hlen]; decide) dX7_init_25 (fun H locs hJ => ?_)
  refine lv_aload_n hx hb dX7_init_28 rfl (lv_at hl 0 rfl) ?_
  refine lv_bipush (v := 8) hx hb dX7_init_29 (by decide) ?_
  refine rnewa X hJ (t0 := 0) (N := 8) tw_aI rfl rfl va_nm_int rfl rfl (by decide) (by decide) (Nat.le_of_ble_eq_true rfl) (Nat.le_of_ble_eq_true rfl) dX7_init_31 (fun H hJ => ?_)
  refine rputF X hin2 hJ rfl inT7 tyX7_ok nmX7 10 (by decide) (tw (i := 749) (by decide +kernel) (by decide)) rfl rfl rfl rfl rfl (by omega) ((upf_ne ne3).trans upf) (by rw [List.length_set, List.length_set, List.length_set, hlen]; decide) dX7_init_33 (fun H locs hJ => ?_)
  have hJ : JL E B s_ (n + 4) (r7d f B n o E fs) H locs := hJ
  refine lv_aload_n hx hb dX7_init_36 rfl (lv_at hl 0 rfl) ?_
  refine rget X hJ rfl inT7 0 (by decide) (tw (i := 739) (by decide +kernel) (by decide)) rfl (by omega) r7d_o (r7_v hlen) dX7_init_37 ?_
  refine lv_iconst (v := 0) hx hb dX7_init_40 (by decide) ?_
  refine lv_iconst (v := 3) hx hb dX7_init_41 (by decide) ?_
  refine rast X hJ (N := 3600) (j := 0) (by omega) (r7d_n ho) rfl (by decide) (by decide) dX7_init_42 (fun H locs hJ => ?_)
  refine lv_aload_n hx hb dX7_init_43 rfl (lv_at hl 0 rfl) ?_
  refine rget X hJ rfl inT7 0 (by decide) (tw (i := 739) (by decide +kernel) (by decide)) rfl (by omega) ((upf_ne ne0).trans r7d_o) (r7_v hlen) dX7_init_44 ?_
  refine lv_iconst (v := 1) hx hb dX7_init_47 (by decide) ?_
  refine lv_iconst (v := 1) hx hb dX7_init_48 (by decide) ?_
  refine rast X hJ (N := 3600) (j := 1) (by omega) upf rfl (by decide) (by decide) dX7_init_49 (fun H locs hJ => ?_)
  refine lv_aload_n hx hb dX7_init_50 rfl (lv_at hl 0 rfl) ?_
  refine rget X hJ rfl inT7 0 (by decide) (tw (i := 739) (by decide +kernel) (by decide)) rfl (by omega) ((upf_ne ne0).trans ((upf_ne ne0).trans r7d_o)) (r7_v hlen) dX7_init_51 ?_
  refine lv_iconst (v := 2) hx hb dX7_init_54 (by decide) ?_
  refine lv_iconst (v := 2) hx hb dX7_init_55 (by decide) ?_
  refine rast X hJ (N := 3600) (j := 2) (by omega) upf rfl (by decide) (by decide) dX7_init_56 (fun H locs hJ => ?_)
  refine lv_aload_n hx hb dX7_init_57 rfl (lv_at hl 0 rfl) ?_
  refine rget X hJ rfl inT7 0 (by decide) (tw (i := 739) (by decide +kernel) (by decide)) rfl (by omega) ((upf_ne ne0).trans ((upf_ne ne0).trans ((upf_ne ne0).trans r7d_o))) (r7_v hlen) dX7_init_58 ?_
  refine lv_iconst (v := 3) hx hb dX7_init_61 (by decide) ?_
  refine lv_iconst (v := 5) hx hb dX7_init_62 (by decide) ?_
  refine rast X hJ (N := 3600) (j := 3) (by omega) upf rfl (by decide) (by decide) dX7_init_63 (fun H locs hJ => ?_)
  refine lv_aload_n hx hb dX7_init_64 rfl (lv_at hl 0 rfl) ?_
  refine rget X hJ rfl inT7 0 (by decide) (tw (i := 739) (by decide +kernel) (by decide)) rfl (by omega) ((upf_ne ne0).trans ((upf_ne ne0).trans ((upf_ne ne0).trans ((upf_ne ne0).trans r7d_o)))) (r7_v hlen) dX7_init_65 ?_
  refine lv_bipush (v := 7) hx hb dX7_init_68 (by decide) ?_
  refine lv_iconst (v := 1) hx hb dX7_init_70 (by decide) ?_
  refine rast X hJ (N := 3600) (j := 7) (by omega) upf rfl (by decide) (by decide) dX7_init_71 (fun H locs hJ => ?_)
  exact fin hJ dX7_init_72
