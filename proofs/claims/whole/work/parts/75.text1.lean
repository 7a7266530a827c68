/-! texts: put, wipe and sign on both sides -/
def un (z : Int64) : Nat := z.toUInt64.toNat
theorem un_lt {z : Int64} : un z < 2 ^ 64 := z.toUInt64.toNat_lt
theorem sh_k : ∀ k, k < 64 → (((nI k).toInt64.toUInt64 &&& Int64.toUInt64 63)).toNat = k := by decide +kernel
theorem un_shr {z : Int64} {k : Nat} (hk : k < 64) : un (lushr z (nI k)) = un z / 2 ^ k := by
  unfold un lushr
  show (z.toUInt64 >>> ((nI k).toInt64.toUInt64 &&& Int64.toUInt64 63)).toNat = _
  rw [UInt64.toNat_shiftRight, sh_k k hk, Nat.mod_eq_of_lt hk, Nat.shiftRight_eq_div_pow]
theorem un_8 {z : Int64} : un (lushr z 8) = un z / 256 := un_shr (k := 8) (by omega)
theorem un_p {z : Int64} {p : Nat} (hp : p < 8) : un (lushr z (8 * nI p)) = un z / 256 ^ p := by
  rw [show (8 : Int32) * nI p = nI (8 * p) from nI_mul 8 p, un_shr (by omega), Nat.pow_mul]
theorem i64_255 {x : Int64} : (x &&& 255).toBitVec = BitVec.ofNat 64 (un x % 256) := by
  refine BitVec.eq_of_toNat_eq ?_
  rw [Int64.toBitVec_and, BitVec.toNat_and]
  show un x &&& 255 = _
  rw [Nat.and_two_pow_sub_one_eq_mod (un x) 8, BitVec.toNat_ofNat]
  omega
theorem by_l {x : Int64} : (x &&& 255).toInt = (un x % 256 : Nat) := by
  show (x &&& 255).toBitVec.toInt = _
  rw [i64_255, BitVec.toInt_ofNat']
  rw [Int.bmod_eq_of_le (by omega) (by omega)]
theorem by_32 {x : Int64} : x.toInt32 &&& 255 = nI (un x % 256) := by
  refine Int32.toBitVec_inj.mp (BitVec.eq_of_toNat_eq ?_)
  rw [Int32.toBitVec_and, BitVec.toNat_and]
  show x.toInt32.toBitVec.toNat &&& 255 = (BitVec.ofNat 32 (un x % 256)).toNat
  rw [Nat.and_two_pow_sub_one_eq_mod _ 8, Int64.toBitVec_toInt32, BitVec.signExtend_eq_setWidth_of_le _ (by omega), BitVec.toNat_setWidth, BitVec.toNat_ofNat]
  show un x % 2 ^ 32 % 256 = _
  omega
theorem by_64 {x : Int64} : (x &&& 255).toInt32 = nI (un x % 256) := by
  refine Int32.toBitVec_inj.mp (BitVec.eq_of_toNat_eq ?_)
  rw [Int64.toBitVec_toInt32, BitVec.signExtend_eq_setWidth_of_le _ (by omega), BitVec.toNat_setWidth, i64_255]
  show (BitVec.ofNat 64 (un x % 256)).toNat % 2 ^ 32 = (BitVec.ofNat 32 (un x % 256)).toNat
  rw [BitVec.toNat_ofNat, BitVec.toNat_ofNat]
  omega
theorem un_0 {x : Int64} : x = 0 ↔ un x = 0 := by
  constructor
  · intro h; rw [h]; rfl
  · intro h
    refine Int64.toBitVec_inj.mp (BitVec.eq_of_toNat_eq ?_)
    exact h
theorem pow_s {p : Nat} : 256 ^ (p + 1) = 256 ^ p * 256 := Nat.pow_succ ..
theorem scan_eq {z : Int64} : ∀ (n : Nat) (rs : Int64) (p : Nat), p ≤ 8 → 8 - p < n → un rs < 256 ^ (8 - p) → bX6_signsIn_5 z n rs p = bX7_charactersOf_5 z n rs p := by
  have e33 : (33 : Int32).toInt = 33 := by decide
  have e126 : (126 : Int32).toInt = 126 := by decide
  intro n
  induction n with
  | zero => intro rs p _ h; omega
  | succ n ih =>
    intro rs p hp hn hu
    rw [bX6_signsIn_5, bX7_charactersOf_5]
    by_cases c : 8 ≤ nI p
    · rw [if_pos c, if_pos c]
      have e : p = 8 := by
        rcases Nat.lt_or_ge p 8 with q | q
        · exact absurd c (nI_ge (b := 8) q (by decide))
        · omega
      subst e
      have : un rs = 0 := by
        have h1 : 256 ^ (8 - 8) = 1 := rfl
        omega
      rw [if_pos ((lg_cmp_eq _ _).mpr (un_0.mpr this))]
    · rw [if_neg c, if_neg c]
      have hp2 := lit_lt (n := 8) c (by omega) (by omega)
      have hi : ¬ sX7_in (rs &&& 255) 33 126 = 0 ↔ 33 ≤ un rs % 256 ∧ un rs % 256 ≤ 126 := by
        rw [in_iff, by_l, show (33 : Int64).toInt = 33 from by decide, show (126 : Int64).toInt = 126 from by decide]
        omega
      by_cases d : lg_cmp rs 0 = 0
      · have d0 := un_0.mp ((lg_cmp_eq _ _).mp d)
        rw [if_pos d, if_pos (Classical.byContradiction fun q => by have := hi.mp q; omega), if_pos d]
      · rw [if_neg d]
        have ht : (nI (un rs % 256)).toInt = (un rs % 256 : Nat) := nI_toInt (by omega)
        by_cases e : sX7_in (rs &&& 255) 33 126 = 0
        · rw [if_pos e, if_neg d]
          by_cases f : rs.toInt32 &&& 255 < 33
          · rw [if_pos f]
          · rw [if_neg f, if_neg (fun q => by
              rw [by_32, Int32.lt_iff_toInt_lt, ht, e33] at f
              rw [by_32, Int32.le_iff_toInt_le, ht, e126] at q
              exact (hi.mpr ⟨by omega, by omega⟩) e)]
        · rw [if_neg e]
          have e' := hi.mp e
          rw [if_neg (fun q => by rw [by_32, Int32.lt_iff_toInt_lt, ht, e33] at q; omega), if_pos (by rw [by_32, Int32.le_iff_toInt_le, ht, e126]; omega)]
          refine ih _ (p + 1) (by omega) (by omega) ?_
          rw [un_8, Nat.div_lt_iff_lt_mul (by omega), ← pow_s, show 8 - (p + 1) + 1 = 8 - p by omega]
          exact hu
theorem signs_E {z : Int64} : sX6_signsIn z = sX7_charactersOf z := scan_eq 9 z 0 (by omega) (by omega) un_lt
def bte (z : Int64) (j : Nat) : Nat := un z / 256 ^ j % 256
theorem scan_ok {z : Int64} : ∀ (n : Nat) (rs : Int64) (p : Nat), p ≤ 8 → un rs = un z / 256 ^ p → (∀ j, j < p → 33 ≤ bte z j ∧ bte z j ≤ 126) → ∀ j, j < nn (bX6_signsIn_5 z n rs p) → 33 ≤ bte z j ∧ bte z j ≤ 126 := by
  intro n
  induction n with
  | zero => intro rs p _ _ _ j hj; exact absurd hj (Nat.not_lt_zero _)
  | succ n ih =>
    intro rs p hp hu hb j
    rw [bX6_signsIn_5]
    by_cases c : 8 ≤ nI p
    · rw [if_pos c, nn_nI (by omega)]; exact hb j
    · rw [if_neg c]
      have hp2 := lit_lt (n := 8) c (by omega) (by omega)
      by_cases d : lg_cmp rs 0 = 0
      · rw [if_pos d, nn_nI (by omega)]; exact hb j
      · rw [if_neg d]
        have e33 : (33 : Int32).toInt = 33 := by decide
        have e126 : (126 : Int32).toInt = 126 := by decide
        have ht : (nI (un rs % 256)).toInt = (un rs % 256 : Nat) := nI_toInt (by omega)
        by_cases f : rs.toInt32 &&& 255 < 33
        · rw [if_pos f]; intro h; exact absurd h (Nat.not_lt_zero _)
        · rw [if_neg f]
          by_cases e : rs.toInt32 &&& 255 ≤ 126
          · rw [if_pos e]
            rw [by_32, Int32.lt_iff_toInt_lt, ht, e33] at f
            rw [by_32, Int32.le_iff_toInt_le, ht, e126] at e
            refine ih _ (p + 1) (by omega) ?_ (fun i hi => ?_) j
            · rw [un_8, hu, Nat.div_div_eq_div_mul, pow_s]
            · rcases Nat.lt_or_ge i p with q | q
              · exact hb i q
              · have : i = p := by omega
                subst this
                unfold bte
                rw [← hu]
                omega
          · rw [if_neg e]; intro h; exact absurd h (Nat.not_lt_zero _)
theorem bytes_ok {z : Int64} {j : Nat} (hj : j < nn (sX6_signsIn z)) : 33 ≤ bte z j ∧ bte z j ≤ 126 :=
  scan_ok 9 z 0 (by omega) (by rw [Nat.pow_zero, Nat.div_one]) (fun _ h => absurd h (Nat.not_lt_zero _)) j hj
theorem nI_pm (m : Nat) : nI (m + 1) + (-1) = nI m := by
  have := nI_pred m
  rw [← this, Int32.sub_eq_add_neg]
theorem neg1_lt : nI 0 - 1 < 0 := by decide
theorem put_cls {z : Int64} : ∀ (n : Nat) (u : Row) (m : Nat), Pd u → m ≤ 8 → m < n → nn (u 3) + m ≤ 80 →
    (bX6_put_34 z n u (nI m - 1)).1 = nI (nn (u 3) + m) ∧ (bX6_put_34 z n u (nI m - 1)).2 3 = nI (nn (u 3) + m) ∧
    (∀ i, i < m → (bX6_put_34 z n u (nI m - 1)).2 (100 + (nn (u 3) + i)) = nI (bte z (m - 1 - i))) ∧
    ∀ j, ¬ j = 3 → ¬ (100 + nn (u 3) ≤ j ∧ j < 100 + nn (u 3) + m) → (bX6_put_34 z n u (nI m - 1)).2 j = u j := by
  intro n
  induction n with
  | zero => intro u m _ _ h; omega
  | succ n ih =>
    intro u m hP hm hn h80
    rw [bX6_put_34]
    cases m with
    | zero =>
      rw [if_pos neg1_lt]
      exact ⟨hP.eq, hP.eq, fun i hi => by omega, fun j _ _ => rfl⟩
    | succ m =>
      have e1 : nI (m + 1) - 1 = nI m := nI_pr (n := m + 1) (by omega)
      rw [e1, if_neg (show ¬ nI m < 0 by
        rw [Int32.lt_iff_toInt_lt, nI_toInt (by omega)]
        have : (0 : Int32).toInt = 0 := by decide
        omega), by_32, un_p (by omega), show nI m + (-1) = nI m - 1 from (Int32.sub_eq_add_neg ..).symm]
      have hA : sX4_append u (nI (un z / 256 ^ m % 256)) = upd (upd u (100 + nn (u 3)) (nI (bte z m))) 3 (nI (nn (u 3) + 1)) := by
        unfold sX4_append
        rw [if_neg (show ¬ 80 ≤ u 3 by
          rw [hP.eq]; exact nI_ge (b := 80) (by omega) (by decide)), updn (show ¬ 3 = 100 + nn (u 3) by omega)]
        have : u 3 + 1 = nI (nn (u 3) + 1) := by
          conv => lhs; rw [hP.eq]
          exact nI_add _ 1
        rw [this]; rfl
      have hP' : Pd (sX4_append u (nI (un z / 256 ^ m % 256))) := Pd_append hP
      have e3 : nn ((sX4_append u (nI (un z / 256 ^ m % 256))) 3) = nn (u 3) + 1 := by rw [hA, upde, nn_nI (by have := hP.le; omega)]
      have o := ih (sX4_append u (nI (un z / 256 ^ m % 256))) m hP' (by omega) (by omega) (by rw [e3]; omega)
      rw [e3] at o
      obtain ⟨o1, o2, o3, o4⟩ := o
      refine ⟨by rw [o1]; congr 1; omega, by rw [o2]; congr 1; omega, fun i hi => ?_, fun j h3 hj => ?_⟩
      · cases i with
        | zero =>
          rw [o4 _ (by omega) (by omega), hA, updn (by omega), Nat.add_zero, upde]
          rfl
        | succ i =>
          have := o3 i (by omega)
          rw [show nn (u 3) + (i + 1) = nn (u 3) + 1 + i by omega, this, show m + 1 - 1 - (i + 1) = m - 1 - i by omega]
      · rw [o4 j h3 (by omega), hA, updn h3, updn (by omega)]
theorem put_ref {z : Int64} {c : Nat} (hc : sX7_charactersOf z = nI c) (hc8 : c ≤ 8) : ∀ (n : Nat) (r : Row) (p : Nat), Pt r → p ≤ c → c - p < n → nn (r 1) + c ≤ 80 →
    (bX7_put_29 z n r p).1 = nI (nn (r 1) + c) ∧ (bX7_put_29 z n r p).2 1 = nI (nn (r 1) + c) ∧
    (∀ i, p ≤ i → i < c → (bX7_put_29 z n r p).2 (100 + (nn (r 1) + i)) = nI (bte z (c - 1 - i))) ∧
    ∀ j, ¬ j = 1 → ¬ (100 + nn (r 1) + p ≤ j ∧ j < 100 + nn (r 1) + c) → (bX7_put_29 z n r p).2 j = r j := by
  intro n
  induction n with
  | zero => intro r p _ _ h; omega
  | succ n ih =>
    intro r p hP hp hn h80
    rw [bX7_put_29, hc]
    by_cases d : nI c ≤ nI p
    · rw [if_pos d]
      have e : p = c := by
        rcases Nat.lt_or_ge p c with q | q
        · exact absurd d (nI_ge q (by omega))
        · omega
      have ev : r 1 + nI c = nI (nn (r 1) + c) := by
        conv => lhs; rw [hP.1.eq]
        exact nI_add _ _
      exact ⟨by rw [upde, ev], (upde (w := r) (j := 1)).trans ev, fun i _ _ => by omega, fun j h _ => updn h⟩
    · rw [if_neg d]
      have hpc : p < c := by
        rcases Nat.lt_or_ge p c with q | q
        · exact q
        · exact absurd (by rw [Int32.le_iff_toInt_le, nI_toInt (by omega), nI_toInt (by omega)]; omega) d
      have e1 : nI c - 1 - nI p = nI (c - 1 - p) := by
        rw [nI_pr (by omega)]
        refine Int32.toInt_inj.mp ?_
        rw [Int32.toInt_sub, nI_toInt (by omega), nI_toInt (by omega), nI_toInt (by omega), Int.bmod_eq_of_le (by omega) (by omega)]
        omega
      rw [e1, by_64, un_p (by omega)]
      have h1 : (upd r (100 + (nn (r 1) + p)) (nI (bte z (c - 1 - p)))) 1 = r 1 := updn (by omega)
      have h2 : (upd r (100 + (nn (r 1) + p)) (nI (bte z (c - 1 - p)))) 2 = r 2 := updn (by omega)
      have o := ih (upd r (100 + (nn (r 1) + p)) (nI (bte z (c - 1 - p)))) (p + 1) ⟨by rw [h1]; exact hP.1, by rw [h2]; exact hP.2⟩ (by omega) (by omega) (by rw [h1]; exact h80)
      rw [h1] at o
      obtain ⟨o1, o2, o3, o4⟩ := o
      refine ⟨o1, o2, fun i hi1 hi2 => ?_, fun j hj1 hj2 => ?_⟩
      · rcases Nat.lt_or_ge p i with q | q
        · exact o3 i (by omega) hi2
        · have e : i = p := by omega
          subst e
          exact (o4 _ (by omega) (by omega)).trans upde
      · exact (o4 j hj1 (by omega)).trans (updn (by omega))
theorem RG_text {g : GS} {c r : Row} (h : RG g) (hc : c 0 = g.2.1 0 ∧ c 1 = g.2.1 1 ∧ c 10 = g.2.1 10 ∧ c 11 = g.2.1 11) (hr : r 0 = g.2.2.2 0 ∧ r 10 = g.2.2.2 10 ∧ r 11 = g.2.2.2 11) (hP : Pt r) (hG : PG c r) : RG (upR (upC g c) r) := by
  obtain ⟨h1, h2, h3, h4, h5, h6⟩ := h
  refine ⟨⟨h1.1, ?_, ?_⟩, ⟨h2.1, hP, ?_⟩, h3, ?_, ?_, hG⟩
  · show sm (c 3) 80
    rw [hG.1]; exact hP.1
  · show sm (c 0) 6
    rw [hc.1]; exact h1.2.2
  · show sm (r 0) 6
    rw [hr.1]; exact h2.2.2
  · have h4' : HG g.1 g.2.1 g.2.2.1 g.2.2.2 := h4
    show c 1 = r 0 ∧ ∀ k, k < nn (r 0) → Rel (g.1 (2 + (nn (c 0) + 6 - k) % 7)) (g.2.2.1 (nn (r 0) - k))
    rw [hc.1, hc.2.1, hr.1]; exact h4'
  · refine SG_same (fun _ _ _ => rfl) (fun k k1 k2 => ?_) (fun _ _ _ => rfl) (fun k k1 k2 => ?_) h5
    · rcases (show k = 10 ∨ k = 11 by omega) with e | e <;> subst e
      · exact hc.2.2.1
      · exact hc.2.2.2
    · rcases (show k = 10 ∨ k = 11 by omega) with e | e <;> subst e
      · exact hr.2.1
      · exact hr.2.2
theorem RG_textC {g : GS} (h : RG g) : RG (upR (upC g g.2.1) g.2.2.2) := RG_text h ⟨rfl, rfl, rfl, rfl⟩ ⟨rfl, rfl, rfl⟩ h.2.1.2.1 h.2.2.2.2.2
theorem put_ok {g : GS} {z : Int64} (h : RG g) : (sX6_put g.2.1 z).1 = (sX7_put g.2.2.2 z).1 ∧ RG (upR (upC g (sX6_put g.2.1 z).2) (sX7_put g.2.2.2 z).2) := by
  have hP : Pd g.2.1 := h.1.2.1
  have hT : Pt g.2.2.2 := h.2.1.2.1
  have hG := h.2.2.2.2.2
  have hs := signsIn_sm (z := z)
  have hsl := hs.le
  have hTl := hT.1.le
  have by_ok := fun j => bytes_ok (z := z) (j := j)
  have hE := signs_E (z := z)
  unfold sX6_put sX7_put
  rw [← hE, hG.1]
  by_cases a : sX6_signsIn z = 0
  · rw [if_pos a, if_pos a]; exact ⟨rfl, RG_textC h⟩
  rw [if_neg a, if_neg a]
  have e3 : g.2.1 3 = g.2.2.2 1 := hG.1
  have sum : g.2.2.2 1 + sX6_signsIn z = nI (nn (g.2.2.2 1) + nn (sX6_signsIn z)) := by
    conv => lhs; rw [hT.1.eq, hs.eq]
    exact nI_add _ _
  by_cases b : g.2.2.2 1 + sX6_signsIn z ≤ 80
  · rw [if_pos b, if_pos b]
    rw [sum] at b
    have b' : nn (g.2.2.2 1) + nn (sX6_signsIn z) ≤ 80 := by
      rcases Nat.lt_or_ge 80 (nn (g.2.2.2 1) + nn (sX6_signsIn z)) with q | q
      · exact absurd b (nI_ge (a := 80) q (by omega))
      · exact q
    have C := put_cls (z := z) 9 g.2.1 (nn (sX6_signsIn z)) hP hsl (by omega) (by rw [e3]; exact b')
    have D := put_ref (z := z) (c := nn (sX6_signsIn z)) (by rw [← hE]; exact hs.eq) hsl 9 g.2.2.2 0 hT (by omega) (by omega) b'
    rw [← hs.eq, e3] at C
    revert C D
    generalize bX6_put_34 z 9 g.2.1 (sX6_signsIn z - 1) = cc
    generalize bX7_put_29 z 9 g.2.2.2 0 = rr
    generalize hcn : nn (sX6_signsIn z) = c at *
    rintro ⟨c1, c2, c3, c4⟩ ⟨d1, d2, d3, d4⟩
    refine ⟨c1.trans d1.symm, RG_text h ⟨c4 0 (by omega) (by omega), c4 1 (by omega) (by omega), c4 10 (by omega) (by omega), c4 11 (by omega) (by omega)⟩ ⟨d4 0 (by omega) (by omega), d4 10 (by omega) (by omega), d4 11 (by omega) (by omega)⟩ ⟨?_, ?_⟩ ⟨c2.trans d2.symm, fun k hk => ?_⟩⟩
    · rw [d2]; exact sm_nI (j := nn (g.2.2.2 1) + c) (n := 80) b' (by omega)
    · rw [d4 2 (by omega) (by omega)]; exact hT.2
    · rw [d2, nn_nI (by omega)] at hk
      rcases Nat.lt_or_ge k (nn (g.2.2.2 1)) with q | q
      · rw [c4 (100 + k) (by omega) (by omega), d4 (100 + k) (by omega) (by omega)]
        exact hG.2 k q
      · obtain ⟨i, rfl⟩ : ∃ i, k = nn (g.2.2.2 1) + i := ⟨k - nn (g.2.2.2 1), by omega⟩
        rw [c3 i (by omega), d3 i (by omega) (by omega)]
        have := by_ok (c - 1 - i) (by omega)
        rw [nI_toInt (by omega)]
        exact ⟨rfl, by omega, by omega⟩
  · rw [if_neg b, if_neg b]; exact ⟨rfl, RG_textC h⟩
theorem wipe_ok {g : GS} (h : RG g) : (sX6_wipe g.2.1).1 = (sX7_wipe g.2.2.2).1 ∧ RG (upR (upC g (sX6_wipe g.2.1).2) (sX7_wipe g.2.2.2).2) := by
  have hG := h.2.2.2.2.2
  have hT : Pt g.2.2.2 := h.2.1.2.1
  have ec : (sX6_wipe g.2.1).2 = upd g.2.1 3 0 := rfl
  have er : (sX7_wipe g.2.2.2).2 = upd g.2.2.2 1 0 := rfl
  rw [ec, er]
  refine ⟨hG.1, RG_text h ⟨updn (by omega), updn (by omega), updn (by omega), updn (by omega)⟩ ⟨updn (by omega), updn (by omega), updn (by omega)⟩ ⟨?_, ?_⟩ ⟨?_, fun k hk => ?_⟩⟩
  · rw [upde]; exact sm_nI (j := 0) (n := 80) (by omega) (by omega)
  · rw [updn (by omega)]; exact hT.2
  · rw [upde, upde]
  · rw [upde] at hk; exact absurd hk (Nat.not_lt_zero _)
theorem sign_ok {g : GS} {x : Int32} (h : RG g) : sX6_sign g.2.1 x = sX7_sign g.2.2.2 x := by
  have hG := h.2.2.2.2.2
  have hT : Pt g.2.2.2 := h.2.1.2.1
  have c := in_cnt (x := x) hT.1
  have e0 : (0 : Int32).toInt = 0 := by decide
  unfold sX6_sign sX4_codeAt sX7_sign
  rw [hG.1]
  by_cases a : x < 0
  · rw [if_pos a]
    rw [Int32.lt_iff_toInt_lt, e0] at a
    rw [if_pos (Classical.byContradiction fun q => by have := c.mp q; omega)]
  rw [if_neg a]
  rw [Int32.lt_iff_toInt_lt, e0] at a
  by_cases b : g.2.2.2 1 ≤ x
  · rw [if_pos b]
    rw [Int32.le_iff_toInt_le] at b
    rw [if_pos (Classical.byContradiction fun q => by have := c.mp q; omega)]
  rw [if_neg b]
  rw [Int32.le_iff_toInt_le] at b
  rw [if_neg (c.mpr ⟨by omega, by omega⟩)]
  exact (hG.2 (nn x) (sm_of hT.1 (by omega) (by omega)).2.1).1
