/-! the constructor of the class -/
set_option maxHeartbeats 4000000 in
set_option maxRecDepth 100000 in
theorem mX6_init (l : Launch) (E : EE) (B : Nat) {f : Nat → va_E} (hf : f 0 = .inr (6, z7)) : Ct l yX6_init cX6_init 1 none 4 120 458 4843 E B [.ref (B + 0)] 1 f none 459 (pcT E B g0) := by
  refine mkV (own := RX6) rfl (by decide) rfl (Nat.le_of_ble_eq_true rfl) (fun P_ e_ s_ m_ a_ below meth cd Q X hin2 fin ls hl hJ => ?_)
  have hx := X.1
  have hb := X.2.1
  have hl : lv_has ls 1 [(0, .ref (B + 0))] := hl
  have hJ : JL E B s_ 1 (cP B E z7 (fun _ => none)) s_.heap [] := JL_same (fun j hj => by rw [show j = 0 by omega, hf, cP_0]) hJ
  refine lv_aload_n hx hb dX6_init_0 rfl (lv_at hl 0 rfl) ?_
  refine kX6_1 X hl.1 ⟨Nat.le_of_ble_eq_true rfl, Nat.le_of_ble_eq_true rfl⟩ ⟨Nat.le_of_ble_eq_true rfl, Nat.le_of_ble_eq_true rfl⟩ (rest := []) dX6_init_1 ?_
  -- now
  refine lv_aload_n hx hb dX6_init_4 rfl (lv_at hl 0 rfl) ?_
  refine rnew X hJ (ci := 5) (fs := z5) rfl inT5 tyX5_ok (tw (i := 26) (by decide +kernel) (by decide)) (tw (i := 27) (by decide +kernel) (by decide)) (tw (i := 10) (by decide +kernel) (by decide)) z5_ok (Nat.le_of_ble_eq_true rfl) (Nat.le_of_ble_eq_true rfl) dX6_init_5 (fun H hJ => ?_)
  refine lv_dup hx hb dX6_init_8 rfl ?_
  refine kX6_9 X hJ (mX5_init l E B (o := 1) upf) rfl hl.1 ⟨Nat.le_of_ble_eq_true rfl, Nat.le_of_ble_eq_true rfl⟩ ⟨Nat.le_of_ble_eq_true rfl, Nat.le_of_ble_eq_true rfl⟩ (rest := [.ref (B + 1), .ref (B + 0)]) rfl (Nat.le_of_ble_eq_true rfl) dX6_init_9 (fun H locs hJ => ?_)
  have hJ : JL E B s_ 42 (cP B E z7 (fun _ => none)) H locs := JL_same (cP_W (k := 0) (x := 1) (by omega) rfl) hJ
  refine rputF X hin2 hJ rfl inT6 tyX6_ok nmX6 0 (by decide) (tw (i := 227) (by decide +kernel) (by decide)) rfl rfl rfl rfl rfl (by omega) cP_0 (Nat.le_of_ble_eq_true rfl) dX6_init_12 (fun H locs hJ => ?_)
  have hJ : JL E B s_ 42 (cP B E (z7.set 0 (.ref (B + 1))) (fun _ => none)) H locs := JL_same cP_up0 hJ
  -- trial
  refine lv_aload_n hx hb dX6_init_15 rfl (lv_at hl 0 rfl) ?_
  refine rnew X hJ (ci := 5) (fs := z5) rfl inT5 tyX5_ok (tw (i := 26) (by decide +kernel) (by decide)) (tw (i := 27) (by decide +kernel) (by decide)) (tw (i := 10) (by decide +kernel) (by decide)) z5_ok (Nat.le_of_ble_eq_true rfl) (Nat.le_of_ble_eq_true rfl) dX6_init_16 (fun H hJ => ?_)
  refine lv_dup hx hb dX6_init_19 rfl ?_
  refine kX6_9 X hJ (mX5_init l E B (o := 42) upf) rfl hl.1 ⟨Nat.le_of_ble_eq_true rfl, Nat.le_of_ble_eq_true rfl⟩ ⟨Nat.le_of_ble_eq_true rfl, Nat.le_of_ble_eq_true rfl⟩ (rest := [.ref (B + 42), .ref (B + 0)]) rfl (Nat.le_of_ble_eq_true rfl) dX6_init_20 (fun H locs hJ => ?_)
  have hJ : JL E B s_ 83 (cP B E (z7.set 0 (.ref (B + 1))) (fun _ => none)) H locs := JL_same (cP_W (k := 1) (x := 42) (by omega) rfl) hJ
  refine rputF X hin2 hJ rfl inT6 tyX6_ok nmX6 1 (by decide) (tw (i := 228) (by decide +kernel) (by decide)) rfl rfl rfl rfl rfl (by omega) cP_0 (Nat.le_of_ble_eq_true rfl) dX6_init_23 (fun H locs hJ => ?_)
  have hJ : JL E B s_ 83 (cP B E ((z7.set 0 (.ref (B + 1))).set 1 (.ref (B + 42))) (fun _ => none)) H locs := JL_same cP_up0 hJ
  -- history
  refine lv_aload_n hx hb dX6_init_26 rfl (lv_at hl 0 rfl) ?_
  refine rnew X hJ (ci := 2) (fs := z3) rfl inT2 tyX2_ok (tw (i := 172) (by decide +kernel) (by decide)) (tw (i := 173) (by decide +kernel) (by decide)) (tw (i := 14) (by decide +kernel) (by decide)) z3_ok (Nat.le_of_ble_eq_true rfl) (Nat.le_of_ble_eq_true rfl) dX6_init_27 (fun H hJ => ?_)
  refine lv_dup hx hb dX6_init_30 rfl ?_
  refine kX6_21 X hJ (mX2_init l E B (o := 83) upf) rfl hl.1 ⟨Nat.le_of_ble_eq_true rfl, Nat.le_of_ble_eq_true rfl⟩ ⟨Nat.le_of_ble_eq_true rfl, Nat.le_of_ble_eq_true rfl⟩ (rest := [.ref (B + 83), .ref (B + 0)]) rfl (Nat.le_of_ble_eq_true rfl) dX6_init_31 (fun H locs hJ => ?_)
  have hJ : JL E B s_ 372 (cP B E ((z7.set 0 (.ref (B + 1))).set 1 (.ref (B + 42))) (fun _ => none)) H locs := JL_same cP_H hJ
  refine rputF X hin2 hJ rfl inT6 tyX6_ok nmX6 2 (by decide) (tw (i := 229) (by decide +kernel) (by decide)) rfl rfl rfl rfl rfl (by omega) cP_0 (Nat.le_of_ble_eq_true rfl) dX6_init_34 (fun H locs hJ => ?_)
  obtain ⟨fs3, hfs3⟩ : ∃ x, x = ((z7.set 0 (.ref (B + 1))).set 1 (.ref (B + 42))).set 2 (.ref (B + 83)) := ⟨_, rfl⟩
  have l3 : fs3.length = 7 := by rw [hfs3]; rfl
  have hJ : JL E B s_ 372 (cP B E fs3 (fun _ => none)) H locs := by rw [hfs3]; exact JL_same cP_up0 hJ
  -- slots
  refine lv_aload_n hx hb dX6_init_37 rfl (lv_at hl 0 rfl) ?_
  refine lv_iconst (v := 2) hx hb dX6_init_38 (by decide) ?_
  refine ranew X hJ (t0 := 4) (N := 2) (tw (i := 26) (by decide +kernel) (by decide)) X.2.2.2.2.2.2.1.2.2.2.2.2.2.2 rfl rfl (by decide) (Nat.le_of_ble_eq_true rfl) (Nat.le_of_ble_eq_true rfl) dX6_init_39 (fun H hJ => ?_)
  have hJ : JL E B s_ 373 (cP B E fs3 (fun _ => none)) H locs := JL_same cP_up3 hJ
  refine lv_dup hx hb dX6_init_42 rfl ?_
  refine lv_iconst (v := 0) hx hb dX6_init_43 (by decide) ?_
  refine rnew X hJ (ci := 5) (fs := z5) rfl inT5 tyX5_ok (tw (i := 26) (by decide +kernel) (by decide)) (tw (i := 27) (by decide +kernel) (by decide)) (tw (i := 10) (by decide +kernel) (by decide)) z5_ok (Nat.le_of_ble_eq_true rfl) (Nat.le_of_ble_eq_true rfl) dX6_init_44 (fun H hJ => ?_)
  refine lv_dup hx hb dX6_init_47 rfl ?_
  refine kX6_9 X hJ (mX5_init l E B (o := 373) upf) rfl hl.1 ⟨Nat.le_of_ble_eq_true rfl, Nat.le_of_ble_eq_true rfl⟩ ⟨Nat.le_of_ble_eq_true rfl, Nat.le_of_ble_eq_true rfl⟩ (rest := [.ref (B + 373), .int 0, .ref (B + 372), .ref (B + 372), .ref (B + 0)]) rfl (Nat.le_of_ble_eq_true rfl) dX6_init_48 (fun H locs hJ => ?_)
  have hJ : JL E B s_ 414 (cP B E fs3 (fun _ => none)) H locs := JL_same (cP_W (k := 9) (x := 373) (by omega) rfl) hJ
  refine rastq X hJ (t0 := 4) (ci := 5) (N := 2) (j := 0) rfl rfl (by omega) cP_372 (by omega) ((cP_o (j := 373) (by omega) (by omega)).trans (pcT_W (k := 9) (r := 0) (by omega) (by omega))) rfl (by omega) (by omega) dX6_init_51 (fun H locs hJ => ?_)
  have hJ : JL E B s_ 414 (cP B E fs3 (va_up (fun _ => none) 0 (some (B + 373)))) H locs := JL_same cP_up3 hJ
  refine lv_dup hx hb dX6_init_52 rfl ?_
  refine lv_iconst (v := 1) hx hb dX6_init_53 (by decide) ?_
  refine rnew X hJ (ci := 5) (fs := z5) rfl inT5 tyX5_ok (tw (i := 26) (by decide +kernel) (by decide)) (tw (i := 27) (by decide +kernel) (by decide)) (tw (i := 10) (by decide +kernel) (by decide)) z5_ok (Nat.le_of_ble_eq_true rfl) (Nat.le_of_ble_eq_true rfl) dX6_init_54 (fun H hJ => ?_)
  refine lv_dup hx hb dX6_init_57 rfl ?_
  refine kX6_9 X hJ (mX5_init l E B (o := 414) upf) rfl hl.1 ⟨Nat.le_of_ble_eq_true rfl, Nat.le_of_ble_eq_true rfl⟩ ⟨Nat.le_of_ble_eq_true rfl, Nat.le_of_ble_eq_true rfl⟩ (rest := [.ref (B + 414), .int 1, .ref (B + 372), .ref (B + 372), .ref (B + 0)]) rfl (Nat.le_of_ble_eq_true rfl) dX6_init_58 (fun H locs hJ => ?_)
  have hJ : JL E B s_ 455 (cP B E fs3 (va_up (fun _ => none) 0 (some (B + 373)))) H locs := JL_same (cP_W (k := 10) (x := 414) (by omega) rfl) hJ
  refine rastq X hJ (t0 := 4) (ci := 5) (N := 2) (j := 1) rfl rfl (by omega) cP_372 (by omega) ((cP_o (j := 414) (by omega) (by omega)).trans (pcT_W (k := 10) (r := 0) (by omega) (by omega))) rfl (by omega) (by omega) dX6_init_61 (fun H locs hJ => ?_)
  obtain ⟨a9, ha9⟩ : ∃ x, x = va_up (va_up (fun _ => none) 0 (some (B + 373))) 1 (some (B + 414)) := ⟨_, rfl⟩
  have hJ : JL E B s_ 455 (cP B E fs3 a9) H locs := by rw [ha9]; exact JL_same cP_up3 hJ
  refine rputF X hin2 hJ rfl inT6 tyX6_ok nmX6 3 (by decide) (tw (i := 230) (by decide +kernel) (by decide)) rfl rfl rfl rfl rfl (by omega) cP_0 (by rw [l3]; decide) dX6_init_62 (fun H locs hJ => ?_)
  have hJ : JL E B s_ 455 (cP B E (fs3.set 3 (.ref (B + 372))) a9) H locs := JL_same cP_up0 hJ
  -- saved
  refine lv_aload_n hx hb dX6_init_65 rfl (lv_at hl 0 rfl) ?_
  refine lv_iconst (v := 2) hx hb dX6_init_66 (by decide) ?_
  refine rnewa X hJ (t0 := 1) (N := 2) tw_aZ rfl rfl va_nm_boolean rfl rfl (by decide) (by decide) (Nat.le_of_ble_eq_true rfl) (Nat.le_of_ble_eq_true rfl) dX6_init_67 (fun H hJ => ?_)
  have hJ : JL E B s_ 456 (cP B E (fs3.set 3 (.ref (B + 372))) a9) H locs := JL_same cP_455 hJ
  refine rputF X hin2 hJ rfl inT6 tyX6_ok nmX6 4 (by decide) (tw (i := 231) (by decide +kernel) (by decide)) rfl rfl rfl rfl rfl (by omega) cP_0 (by rw [List.length_set, l3]; decide) dX6_init_69 (fun H locs hJ => ?_)
  have hJ : JL E B s_ 456 (cP B E ((fs3.set 3 (.ref (B + 372))).set 4 (.ref (B + 455))) a9) H locs := JL_same cP_up0 hJ
  -- pad
  refine lv_aload_n hx hb dX6_init_72 rfl (lv_at hl 0 rfl) ?_
  refine rnew X hJ (ci := 4) (fs := z2) rfl inT4 tyX4_ok (tw (i := 192) (by decide +kernel) (by decide)) (tw (i := 193) (by decide +kernel) (by decide)) (tw (i := 15) (by decide +kernel) (by decide)) z2_ok (Nat.le_of_ble_eq_true rfl) (Nat.le_of_ble_eq_true rfl) dX6_init_73 (fun H hJ => ?_)
  refine lv_dup hx hb dX6_init_76 rfl ?_
  refine kX6_36 X hJ (mX4_init l E B (n := 457) (o := 456) (by omega) upf (Nat.le_of_ble_eq_true rfl)) rfl hl.1 ⟨Nat.le_of_ble_eq_true rfl, Nat.le_of_ble_eq_true rfl⟩ ⟨Nat.le_of_ble_eq_true rfl, Nat.le_of_ble_eq_true rfl⟩ (rest := [.ref (B + 456), .ref (B + 0)]) rfl (Nat.le_of_ble_eq_true rfl) dX6_init_77 (fun H locs hJ => ?_)
  have hJ : JL E B s_ 458 (cP B E ((fs3.set 3 (.ref (B + 372))).set 4 (.ref (B + 455))) a9) H locs := JL_same cP_456 hJ
  refine rputF X hin2 hJ rfl inT6 tyX6_ok nmX6 5 (by decide) (tw (i := 232) (by decide +kernel) (by decide)) rfl rfl rfl rfl rfl (by omega) cP_0 (by rw [List.length_set, List.length_set, l3]; decide) dX6_init_80 (fun H locs hJ => ?_)
  have hJ : JL E B s_ 458 (cP B E (((fs3.set 3 (.ref (B + 372))).set 4 (.ref (B + 455))).set 5 (.ref (B + 456))) a9) H locs := JL_same cP_up0 hJ
  -- orders
  refine lv_aload_n hx hb dX6_init_83 rfl (lv_at hl 0 rfl) ?_
  refine rnew X hJ (ci := 3) (fs := z6) rfl inT3 tyX3_ok (tw (i := 207) (by decide +kernel) (by decide)) (tw (i := 208) (by decide +kernel) (by decide)) (tw (i := 16) (by decide +kernel) (by decide)) z6_ok (Nat.le_of_ble_eq_true rfl) (Nat.le_of_ble_eq_true rfl) dX6_init_84 (fun H hJ => ?_)
  refine lv_dup hx hb dX6_init_87 rfl ?_
  refine lv_aload_n hx hb dX6_init_88 rfl (lv_at hl 0 rfl) ?_
  refine rget X hJ rfl inT6 5 (by decide) (tw (i := 232) (by decide +kernel) (by decide)) rfl (by omega) ((upf_ne (by omega)).trans cP_0) (by rw [List.getElem?_set_self (by rw [List.length_set, List.length_set, l3]; decide)]) dX6_init_89 ?_
  refine kX6_43 X hJ (mX3_init l E B (n := 459) (o := 458) (q := 456) (by omega) upf (Nat.le_of_ble_eq_true rfl)) rfl hl.1 ⟨Nat.le_of_ble_eq_true rfl, Nat.le_of_ble_eq_true rfl⟩ ⟨Nat.le_of_ble_eq_true rfl, Nat.le_of_ble_eq_true rfl⟩ (rest := [.ref (B + 458), .ref (B + 0)]) rfl (Nat.le_of_ble_eq_true rfl) dX6_init_92 (fun H locs hJ => ?_)
  have hJ : JL E B s_ 459 (cP B E (((fs3.set 3 (.ref (B + 372))).set 4 (.ref (B + 455))).set 5 (.ref (B + 456))) a9) H locs := JL_same cP_458 hJ
  refine rputF X hin2 hJ rfl inT6 tyX6_ok nmX6 6 (by decide) (tw (i := 233) (by decide +kernel) (by decide)) rfl rfl rfl rfl rfl (by omega) cP_0 (by rw [List.length_set, List.length_set, List.length_set, l3]; decide) dX6_init_95 (fun H locs hJ => ?_)
  have hJ : JL E B s_ 459 (pcT E B g0) H locs := JL_same (fun j hj => (cP_up0 j hj).trans (by rw [ha9, hfs3]; exact cP_end j hj)) hJ
  refine W.widen (k := 458) (n := 4843) (Nat.le_of_ble_eq_true rfl) (Nat.le_of_ble_eq_true rfl) ?_
  exact fin hJ dX6_init_98
