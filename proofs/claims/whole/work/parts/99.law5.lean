/-! the law's loop, and the law from its entry -/
section LL
variable {p : Program} {l : Launch} {e : Env} {s : State} {m : MethodId} {below : List Frame} {meth : Method} {c : Code} {E : EE}
theorem len5 {L i : Nat} (hL : L ≤ 2560) (hi : i ≤ L) (h : ¬ nI L - 5 < nI i) : i + 5 ≤ L := by
  have e : (nI L - 5).toInt = (L : Int) - 5 := by
    rw [Int32.toInt_sub, nI_toInt (by omega), show (5 : Int32).toInt = 5 from by decide, Int.bmod_eq_of_le (by omega) (by omega)]
  rw [Int32.lt_iff_toInt_lt, e, nI_toInt (by omega)] at h
  omega
set_option maxHeartbeats 4000000 in
set_option maxRecDepth 100000 in
theorem law_loop {b L : Nat} {xs : Nat → Int32} (hL : L ≤ 2560) (X : Cx p s m #[Value.ref b] c code 4 RL E s.heap.size) (hX : va_X b L xs s s.heap) (hbl : b < s.heap.size) (hr : meth.sig.returnType = ret) (hlocks : meth.locks = false) :
    ∀ (n i : Nat), L - i < n → i ≤ L → ∀ (g : GS) (H : Heap) (locs : List Loc) (ls : Array Slot), RG g → JG E s.heap.size s g H locs → lv_has ls 4 [(0, .ref b), (1, .ref (s.heap.size + 0)), (2, .ref (s.heap.size + 459)), (3, .int (nI i))] →
      W p l e room_1 s m #[Value.ref b] below meth c H locs 464 8551 (lw_Z below #[Value.ref b] s) (F0 m 18 ls []) := by
  intro n
  induction n with
  | zero => intro i hm; exact absurd hm (Nat.not_lt_zero _)
  | succ n ih =>
    intro i hm hi g H locs ls hR hJ hl
    have hx := X.1
    have hb := X.2.1
    refine lv_iload_n hx hb dL_law_18 rfl (lv_at hl 3 rfl) ?_
    refine lv_aload_n hx hb dL_law_19 rfl (lv_at hl 0 rfl) ?_
    refine va_slen hx hb hX hbl (Nat.not_le.mpr hbl) hJ.2.1 dL_law_20 ?_
    refine lv_iconst (v := 5) hx hb dL_law_21 (by decide) ?_
    refine lv_isub hx hb dL_law_22 ?_
    refine lv_icmp_gt (tgt := 1010) hx hb dL_law_23 (by decide) (fun q => ?_) (fun q => ?_)
    · refine va_forget hJ.2.1.2.2 ?_
      refine W.widen (k := 600000) (n := 7302250) (Nat.le_of_ble_eq_true rfl) (Nat.le_of_ble_eq_true rfl) ?_
      refine lv_iconst (v := 1) hx hb dL_law_1010 (by decide) ?_
      exact lw_ret hx hb hr hlocks dL_law_1011
    · have hi5 : i + 5 ≤ L := len5 hL hi q
      have next : ∀ (g1 : GS) (H : Heap) (locs : List Loc), RG g1 → JG E s.heap.size s g1 H locs → W p l e room_1 s m #[Value.ref b] below meth c H locs 464 8551 (lw_Z below #[Value.ref b] s) (F0 m 1004 ls []) := fun g1 H locs hR hJ => by
        refine lv_iinc (v := nI (i + 5)) (lv' := [(3, .int (nI (i + 5))), (0, .ref b), (1, .ref (s.heap.size + 0)), (2, .ref (s.heap.size + 459))]) hx hb dL_law_1004 hl (k := 3) rfl (nI_add _ _) (by decide) rfl (fun ls hl => ?_)
        refine lv_goto (tgt := 18) hx hb dL_law_1007 (by decide) ?_
        exact ih (i + 5) (by omega) hi5 g1 _ _ _ hR hJ (lv_sub hl [1, 2, 3, 0] rfl)
      refine lv_aload_n hx hb dL_law_26 rfl (lv_at hl 0 rfl) ?_
      refine lv_iload_n hx hb dL_law_27 rfl (lv_at hl 3 rfl) ?_
      refine va_sld hx hb hX hbl (Nat.not_le.mpr hbl) hJ.2.1 (vp_in_nI (by omega) (by omega)) dL_law_28 ?_
      refine lv_bipush (v := 31) hx hb dL_law_29 (by decide) ?_
      refine lv_iand hx hb dL_law_31 ?_
      refine lv_topi (fun w _ => ?_)
      by_cases h1 : w.toInt < 0
      · exact lv_tableOut hx hb dL_law_32 (Or.inl h1) (tgt := 1004) (by decide) (next g H locs hR hJ)
      by_cases h2 : 27 < w.toInt
      · exact lv_tableOut hx hb dL_law_32 (Or.inr h2) (tgt := 1004) (by decide) (next g H locs hR hJ)
      obtain ⟨j, hj⟩ : ∃ j : Nat, w.toInt = (j : Int) := ⟨w.toInt.toNat, by omega⟩
      have hj28 : j < 28 := by omega
      match j, hj28, hj with
      | 0, _, hj => exact lv_tableIn hx hb dL_law_32 h1 h2 (off := 128) (tgt := 160) (by rw [hj]; rfl) (by decide) (lc_set X hX hbl hbl hL hi5 hl hR hJ next)
      | 1, _, hj => exact lv_tableIn hx hb dL_law_32 h1 h2 (off := 161) (tgt := 193) (by rw [hj]; rfl) (by decide) (lc_bridge X hX hbl hbl hL hi5 hl hR hJ next)
      | 2, _, hj => exact lv_tableIn hx hb dL_law_32 h1 h2 (off := 204) (tgt := 236) (by rw [hj]; rfl) (by decide) (lc_cart X hX hbl hbl hL hi5 hl hR hJ next)
      | 3, _, hj => exact lv_tableIn hx hb dL_law_32 h1 h2 (off := 237) (tgt := 269) (by rw [hj]; rfl) (by decide) (lc_guess X hX hbl hbl hL hi5 hl hR hJ next)
      | 4, _, hj => exact lv_tableIn hx hb dL_law_32 h1 h2 (off := 280) (tgt := 312) (by rw [hj]; rfl) (by decide) (lc_leave X hX hbl hbl hL hi5 hl hR hJ next)
      | 5, _, hj => exact lv_tableIn hx hb dL_law_32 h1 h2 (off := 303) (tgt := 335) (by rw [hj]; rfl) (by decide) (lc_hint X hX hbl hbl hL hi5 hl hR hJ next)
      | 6, _, hj => exact lv_tableIn hx hb dL_law_32 h1 h2 (off := 336) (tgt := 368) (by rw [hj]; rfl) (by decide) (lc_pass X hX hbl hbl hL hi5 hl hR hJ next)
      | 7, _, hj => exact lv_tableIn hx hb dL_law_32 h1 h2 (off := 359) (tgt := 391) (by rw [hj]; rfl) (by decide) (lc_write X hX hbl hbl hL hi5 hl hR hJ next)
      | 8, _, hj => exact lv_tableIn hx hb dL_law_32 h1 h2 (off := 382) (tgt := 414) (by rw [hj]; rfl) (by decide) (lc_ofBridge X hX hbl hbl hL hi5 hl hR hJ next)
      | 9, _, hj => exact lv_tableIn hx hb dL_law_32 h1 h2 (off := 415) (tgt := 447) (by rw [hj]; rfl) (by decide) (lc_ofCart X hX hbl hbl hL hi5 hl hR hJ next)
      | 10, _, hj => exact lv_tableIn hx hb dL_law_32 h1 h2 (off := 448) (tgt := 480) (by rw [hj]; rfl) (by decide) (lc_knows X hX hbl hbl hL hi5 hl hR hJ next)
      | 11, _, hj => exact lv_tableIn hx hb dL_law_32 h1 h2 (off := 491) (tgt := 523) (by rw [hj]; rfl) (by decide) (lc_waits X hX hbl hbl hL hi5 hl hR hJ next)
      | 12, _, hj => exact lv_tableIn hx hb dL_law_32 h1 h2 (off := 524) (tgt := 556) (by rw [hj]; rfl) (by decide) (lc_sign X hX hbl hbl hL hi5 hl hR hJ next)
      | 13, _, hj => exact lv_tableIn hx hb dL_law_32 h1 h2 (off := 547) (tgt := 579) (by rw [hj]; rfl) (by decide) (lc_count X hX hbl hbl hL hi5 hl hR hJ next)
      | 14, _, hj => exact lv_tableIn hx hb dL_law_32 h1 h2 (off := 570) (tgt := 602) (by rw [hj]; rfl) (by decide) (lc_next X hX hbl hbl hL hi5 hl hR hJ next)
      | 15, _, hj => exact lv_tableIn hx hb dL_law_32 h1 h2 (off := 593) (tgt := 625) (by rw [hj]; rfl) (by decide) (lc_why X hX hbl hbl hL hi5 hl hR hJ next)
      | 16, _, hj => exact lv_tableIn hx hb dL_law_32 h1 h2 (off := 616) (tgt := 648) (by rw [hj]; rfl) (by decide) (lc_overIn X hX hbl hbl hL hi5 hl hR hJ next)
      | 17, _, hj => exact lv_tableIn hx hb dL_law_32 h1 h2 (off := 639) (tgt := 671) (by rw [hj]; rfl) (by decide) (lc_wins X hX hbl hbl hL hi5 hl hR hJ next)
      | 18, _, hj => exact lv_tableIn hx hb dL_law_32 h1 h2 (off := 692) (tgt := 724) (by rw [hj]; rfl) (by decide) (lc_bestGuess X hX hbl hbl hL hi5 hl hR hJ next)
      | 19, _, hj => exact lv_tableIn hx hb dL_law_32 h1 h2 (off := 745) (tgt := 777) (by rw [hj]; rfl) (by decide) (lc_route X hX hbl hbl hL hi5 hl hR hJ next)
      | 20, _, hj => exact lv_tableIn hx hb dL_law_32 h1 h2 (off := 788) (tgt := 820) (by rw [hj]; rfl) (by decide) (lc_would X hX hbl hbl hL hi5 hl hR hJ next)
      | 21, _, hj => exact lv_tableIn hx hb dL_law_32 h1 h2 (off := 821) (tgt := 853) (by rw [hj]; rfl) (by decide) (lc_put X hX hbl hbl hL hi5 hl hR hJ next)
      | 22, _, hj => exact lv_tableIn hx hb dL_law_32 h1 h2 (off := 874) (tgt := 906) (by rw [hj]; rfl) (by decide) (lc_wipe X hX hbl hbl hL hi5 hl hR hJ next)
      | 23, _, hj => exact lv_tableIn hx hb dL_law_32 h1 h2 (off := 887) (tgt := 919) (by rw [hj]; rfl) (by decide) (lc_fault X hX hbl hbl hL hi5 hl hR hJ next)
      | 24, _, hj => exact lv_tableIn hx hb dL_law_32 h1 h2 (off := 900) (tgt := 932) (by rw [hj]; rfl) (by decide) (lc_carryOut X hX hbl hbl hL hi5 hl hR hJ next)
      | 25, _, hj => exact lv_tableIn hx hb dL_law_32 h1 h2 (off := 913) (tgt := 945) (by rw [hj]; rfl) (by decide) (lc_undo X hX hbl hbl hL hi5 hl hR hJ next)
      | 26, _, hj => exact lv_tableIn hx hb dL_law_32 h1 h2 (off := 926) (tgt := 958) (by rw [hj]; rfl) (by decide) (lc_save X hX hbl hbl hL hi5 hl hR hJ next)
      | 27, _, hj => exact lv_tableIn hx hb dL_law_32 h1 h2 (off := 949) (tgt := 981) (by rw [hj]; rfl) (by decide) (lc_restore X hX hbl hbl hL hi5 hl hR hJ next)
      | j + 28, h, _ => exact absurd h (by omega)
end LL
set_option maxHeartbeats 4000000 in
set_option maxRecDepth 100000 in
/-- THE LAW, from its entry -/
theorem whole_start {p : Program} {e : Env} {s : State} {m : MethodId} {below : List Frame} {meth : Method} {c : Code} (l : Launch) (hflags : l.flags = flags0) {b L : Nat} {xs : Nat → Int32} (hL : L ≤ 2560) (C0 : lw_At p s m meth c b L xs) : W p l e room_1 s m #[Value.ref b] below meth c s.heap [] 0 0 (lw_Z below #[Value.ref b] s) (entryFrame m ([Value.ref b] : List Value).toArray 4) := by
  obtain ⟨hx, hb, hr, hml, hown, hts, hX, hbl, hlocks, hgv⟩ := id C0
  have hTW : ∀ w ∈ TW, w.before #[Value.ref b] s = true := fun w h => hts w (TW_in w h)
  obtain ⟨E, hK⟩ := st_K hTW hts
  have hBx : BPx E s.heap.size s := ⟨hK, st_NW hts, st_ST hts hgv, Nat.le_refl _⟩
  have X : Cx p s m #[Value.ref b] c code 4 RL E s.heap.size := ⟨hx, hb, hml, hown, hTW, hBx⟩
  have hJ : JL E s.heap.size s 0 (fun _ => .inr (0, [])) s.heap [] := ⟨fun k q h => by simp [wl] at h, va_S.rf, rfl⟩
  have hl := lv_entry ([.ref b]) (n := 4) (Nat.le_of_ble_eq_true rfl)
  rw [lg_entry_eq]
  generalize (lg_sl ([.ref b]) ++ List.replicate (4 - (lg_sl ([.ref b])).length) Slot.unset).toArray = ls at hl ⊢
  have hl : lv_has ls 4 [(0, .ref b)] := hl
  refine rnew X hJ (ci := 6) (fs := z7) rfl inT6 tyX6_ok (tw (i := 72) (by decide +kernel) (by decide)) (tw (i := 73) (by decide +kernel) (by decide)) (tw (i := 62) (by decide +kernel) (by decide)) z7_ok (Nat.le_of_ble_eq_true rfl) (Nat.le_of_ble_eq_true rfl) dL_law_0 (fun H hJ => ?_)
  refine lv_dup hx hb dL_law_3 rfl ?_
  refine kL_9 X hJ (mX6_init l E s.heap.size upf) rfl hl.1 ⟨Nat.le_of_ble_eq_true rfl, Nat.le_of_ble_eq_true rfl⟩ ⟨Nat.le_of_ble_eq_true rfl, Nat.le_of_ble_eq_true rfl⟩ (rest := [.ref (s.heap.size + 0)]) rfl (Nat.le_of_ble_eq_true rfl) dL_law_4 (fun H locs hJ => ?_)
  refine lv_astore_n (lv' := [(1, .ref (s.heap.size + 0)), (0, .ref b)]) hx hb dL_law_7 rfl hl (by decide) rfl (fun ls hl => ?_)
  refine rnew X hJ (ci := 7) (fs := zR) rfl inT7 tyX7_ok (tw (i := 733) (by decide +kernel) (by decide)) (tw (i := 734) (by decide +kernel) (by decide)) (tw (i := 70) (by decide +kernel) (by decide)) zR_ok (Nat.le_of_ble_eq_true rfl) (Nat.le_of_ble_eq_true rfl) dL_law_8 (fun H hJ => ?_)
  refine lv_dup hx hb dL_law_11 rfl ?_
  refine kL_12 X hJ (mX7_init l E s.heap.size (n := 460) (o := 459) (by omega) upf rfl) rfl hl.1 ⟨Nat.le_of_ble_eq_true rfl, Nat.le_of_ble_eq_true rfl⟩ ⟨Nat.le_of_ble_eq_true rfl, Nat.le_of_ble_eq_true rfl⟩ (rest := [.ref (s.heap.size + 459)]) rfl (Nat.le_of_ble_eq_true rfl) dL_law_12 (fun H locs hJ => ?_)
  have hJ : JG E s.heap.size s g0 H locs := JL_same r7_g0 hJ
  refine lv_astore_n (lv' := [(2, .ref (s.heap.size + 459)), (1, .ref (s.heap.size + 0)), (0, .ref b)]) hx hb dL_law_15 rfl hl (by decide) rfl (fun ls hl => ?_)
  refine lv_iconst (v := 0) hx hb dL_law_16 (by decide) ?_
  refine lv_istore_n (lv' := [(3, .int 0), (2, .ref (s.heap.size + 459)), (1, .ref (s.heap.size + 0)), (0, .ref b)]) hx hb dL_law_17 rfl hl (by decide) rfl (fun ls hl => ?_)
  refine W.widen (k := 464) (n := 8551) (Nat.le_of_ble_eq_true rfl) (Nat.le_of_ble_eq_true rfl) ?_
  exact law_loop hL X hX hbl hr hlocks (L + 1) 0 (by omega) (Nat.zero_le L) g0 _ _ _ RG_g0 hJ (lv_sub hl [3, 2, 1, 0] rfl)
