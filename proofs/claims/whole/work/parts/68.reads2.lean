theorem enc_c {o : Option Nat} {c : Nat} (hs : ∀ a, o = some a → a < 8) (hc : c < 8) : enc o = nI c ↔ o = some c := by
  cases o with
  | none => exact ⟨fun q => absurd q.symm (nn_neg6 (by omega)), fun q => (by cases q)⟩
  | some a =>
    have := hs a rfl
    show nI a = nI c ↔ _
    rw [nI_eq (by omega) (by omega)]
    exact ⟨fun q => by rw [q], fun q => Option.some.inj q⟩
theorem enc_n {o : Option Nat} (hs : ∀ a, o = some a → a < 8) : enc o = -6 ↔ o = none := by
  cases o with
  | none => exact ⟨fun _ => rfl, fun _ => rfl⟩
  | some a =>
    have := hs a rfl
    exact ⟨fun q => absurd q (nn_neg6 (by omega)), fun q => (by cases q)⟩
/-- why a cart does not come over: both sides' ways to say it, with the rest as variables -/
theorem why_g {cm o0 o1 : Option Nat} {m t : Int32} {c : Nat} (hc : c < 8) (h1 : ∀ a, cm = some a → a < 8) (h2 : ∀ a, o0 = some a → a < 8) (h3 : ∀ a, o1 = some a → a < 8) :
    oe cm (if m = 1 then (2 : Int32) else (oe o0 (oe o1 3 (fun q4 => if q4 = c then (if t = 0 then 4 else 6) else 3)) (fun q3 => if q3 = c then (if t = 0 then 4 else 6) else (oe o1 3 (fun q5 => if q5 = c then (if t = 0 then 4 else 6) else 3)))))
      (fun q2 => if q2 = c then 0 else (if m = 1 then 2 else (oe o0 (oe o1 3 (fun q7 => if q7 = c then (if t = 0 then 4 else 5) else 3)) (fun q6 => if q6 = c then (if t = 0 then 4 else 5) else (oe o1 3 (fun q8 => if q8 = c then (if t = 0 then 4 else 5) else 3))))))
    = if enc cm = nI c then 0 else (if m = 1 then 2 else (if enc o0 = nI c then (if t = 0 then 4 else (if enc cm = -6 then 6 else 5)) else (if enc o1 = nI c then (if t = 0 then 4 else (if enc cm = -6 then 6 else 5)) else 3))) := by
  have R : ∀ k : Int32, (oe o0 (oe o1 3 (fun q4 => if q4 = c then (if t = 0 then 4 else k) else 3)) (fun q3 => if q3 = c then (if t = 0 then 4 else k) else (oe o1 3 (fun q5 => if q5 = c then (if t = 0 then 4 else k) else 3)))) = if enc o0 = nI c then (if t = 0 then 4 else k) else (if enc o1 = nI c then (if t = 0 then 4 else k) else 3) := by
    intro k
    have R1 : (oe o1 3 (fun q4 => if q4 = c then (if t = 0 then (4 : Int32) else k) else 3)) = if enc o1 = nI c then (if t = 0 then 4 else k) else 3 := by
      cases o1 with
      | none => rw [oe_none rfl, if_neg (show ¬ enc none = nI c from fun q => by have := (enc_c h3 hc).mp q; cases this)]
      | some a =>
        rw [oe_some rfl]
        by_cases e : a = c
        · rw [if_pos e, if_pos ((enc_c h3 hc).mpr (by rw [e]))]
        · rw [if_neg e, if_neg (fun q => e (Option.some.inj ((enc_c h3 hc).mp q)))]
    cases o0 with
    | none => rw [oe_none rfl, if_neg (show ¬ enc none = nI c from fun q => by have := (enc_c h2 hc).mp q; cases this)]; exact R1
    | some a =>
      rw [oe_some rfl]
      by_cases e : a = c
      · rw [if_pos e, if_pos ((enc_c h2 hc).mpr (by rw [e]))]
      · rw [if_neg e, if_neg (fun q => e (Option.some.inj ((enc_c h2 hc).mp q)))]; exact R1
  cases cm with
  | none =>
    rw [oe_none rfl, if_neg (show ¬ enc none = nI c from fun q => by have := (enc_c h1 hc).mp q; cases this), if_pos (show enc none = -6 from rfl), R 6]
  | some a =>
    have nn6 : ¬ enc (some a) = -6 := fun q => by have := (enc_n h1).mp q; cases this
    rw [oe_some rfl, if_neg nn6, R 5]
    by_cases e : a = c
    · rw [if_pos e, if_pos ((enc_c h1 hc).mpr (by rw [e]))]
    · rw [if_neg e, if_neg (fun q => e (Option.some.inj ((enc_c h1 hc).mp q)))]
section RD
variable {g : GS} {x y z : Int32}
theorem knows_rel (h : RG g) : sX6_knows g x y z = sX7_knows (g.2.2.1 0) x y z := by
  have hI := h.2.1.1 0 (by omega)
  have hR := h.2.2.1
  unfold sX6_knows sX7_knows
  rw [cartOf_E hI.1.1 hR, bridgeOf_E hI.1.1 hR]
  by_cases t1 : sX7_isCart (g.2.2.1 0) x = 0
  · rw [if_pos t1, if_pos t1, oe_none rfl]
    by_cases t2 : sX7_isBridge (g.2.2.1 0) y = 0
    · rw [if_pos t2, oe_none rfl]
    · rw [if_neg t2, oe_some rfl]
  rw [if_neg t1, if_neg t1, oe_some rfl]
  by_cases t2 : sX7_isBridge (g.2.2.1 0) y = 0
  · rw [if_pos t2, if_pos t2, oe_none rfl]
  rw [if_neg t2, if_neg t2, oe_some rfl]
  have hC := isCart_of hI.1.1 t1
  have hB := isBridge_of hI.1.1 t2
  have hz := slot_iff (x := z)
  unfold sX7_isSlot at hz
  unfold sX1_lowest sX1_highest
  by_cases z0 : z = 0
  · rw [if_pos z0, if_pos z0, if_neg (fun q => by have := hz.mp q; rw [if_pos z0] at this; exact absurd this (by decide)), z0]
    exact hR.g (by omega) (by omega)
  rw [if_neg z0, if_neg z0]
  by_cases z1 : z = 1
  · rw [if_pos z1, if_neg (fun q => by have := hz.mp q; rw [if_neg z0, if_pos z1] at this; exact absurd this (by decide)), z1]
    exact hR.g (by omega) (by omega)
  · rw [if_neg z1, if_pos (hz.mpr (by rw [if_neg z0, if_neg z1]))]
theorem many_sm {r : Row} {i : Nat} (hr : Rn r) : sm (sX7_many r i) 8 ∧ nn (sX7_many r i) = cntL r i (qs r) := by
  have h8 := hr.1.1.le
  have := cntL_len (w := r) (i := i) (qs r)
  rw [qs_len] at this
  rw [many_L hr.1, nn_nI (by omega)]
  exact ⟨sm_nI (by omega) (by omega), rfl⟩
theorem waits_rel (h : RG g) : sX6_waits g x y = sX7_waits (g.2.2.1 0) x y := by
  have hI := h.2.1.1 0 (by omega)
  have hR := h.2.2.1
  unfold sX6_waits sX7_waits
  rw [bridgeOf_E hI.1.1 hR]
  by_cases t1 : sX7_isBridge (g.2.2.1 0) x = 0
  · rw [if_pos t1, if_pos t1, oe_none rfl]
  rw [if_neg t1, if_neg t1, oe_some rfl]
  have hB := isBridge_of hI.1.1 t1
  have em : g.1 0 (360 + nn x) = sX7_many (g.2.2.1 0) (nn x) := by rw [many_L hI.1.1]; exact hR.2.2.2.2.2.2.1 _ hB.2.2
  obtain ⟨m1, m2⟩ := many_sm (i := nn x) hI.1
  have hb : sX6_isBelow y (g.1 0 (360 + nn x)) = 0 ↔ sX7_in y.toInt64 0 (((sX7_many (g.2.2.1 0) (nn x)) - 1).toInt64) = 0 := by
    rw [← Decidable.not_iff_not, isB_iff, in_cnt m1, em]
  by_cases t2 : sX7_in y.toInt64 0 (((sX7_many (g.2.2.1 0) (nn x)) - 1).toInt64) = 0
  · rw [if_pos t2, if_pos (hb.mpr t2)]
  rw [if_neg t2, if_neg (fun q => t2 (hb.mp q))]
  have hy := (in_cnt m1).mp t2
  have sy := sm_of m1 hy.1 hy.2
  rw [m2] at sy
  have e5 := wa5 (w := g.1 0) (i := nn x) (r := nn y) (hR.cn hI.1.1) hR.2.2.1 (hR.q6 hI) (by omega)
  have e7 := waiter_L (w := g.2.2.1 0) (i := nn x) (r := nn y) hI.1.1 (by omega)
  rw [← sy.1] at e5 e7
  rw [e5, e7, hR.nthE hI]
  cases ho : nthL (g.2.2.1 0) (nn x) (qs (g.2.2.1 0)) (nn y) with
  | none => have := (nthL_none _ _).mp ho; omega
  | some a => rw [oe_some rfl]; rfl
theorem next_rel (h : RG g) : sX6_next g x = sX7_next (g.2.2.1 0) x := by
  have hI := h.2.1.1 0 (by omega)
  have hR := h.2.2.1
  unfold sX6_next sX7_next
  rw [bridgeOf_E hI.1.1 hR]
  by_cases t1 : sX7_isBridge (g.2.2.1 0) x = 0
  · rw [if_pos t1, if_pos t1, oe_none rfl]
  rw [if_neg t1, if_neg t1, oe_some rfl]
  have hB := isBridge_of hI.1.1 t1
  rw [hR.comer hI hB.2.2, cmr_eq hI.1]
  cases cmr (g.2.2.1 0) (nn x) with
  | none => rw [oe_none rfl]; rfl
  | some a => rw [oe_some rfl]; rfl
theorem why_rel (h : RG g) : sX6_why g x = sX7_why (g.2.2.1 0) x := by
  have hI := h.2.1.1 0 (by omega)
  have hR := h.2.2.1
  have hr := hI.1
  have h5 := hr.1.2.1.le
  unfold sX6_why sX7_why
  rw [cartOf_E hr.1 hR]
  by_cases t1 : sX7_isCart (g.2.2.1 0) x = 0
  · rw [if_pos t1, if_pos t1, oe_none rfl]
  rw [if_neg t1, if_neg t1, oe_some rfl]
  have hC := isCart_of hr.1 t1
  unfold sX5_reasonToStay
  rw [hR.c (c := nn x) (f := 2) hC.2.2 (by omega) (fun _ => hC.2.1), bridgeOf_E hr.1 hR]
  by_cases t4 : g.2.2.1 0 (104 + 8 * nn x + 2) = -6
  · have nb : sX7_isBridge (g.2.2.1 0) (-6) = 0 := Decidable.byContradiction fun q => by
      have := (in_cnt hr.1.2.1).mp q
      exact absurd this.1 (by decide)
    rw [if_pos t4, t4, if_pos nb, oe_none rfl]
  rw [if_neg t4]
  have hm := (hI.2.1.2.2 (nn x) hC.2.1).resolve_left t4
  obtain ⟨-, i, hi, hai⟩ := hI.2.1.2.1 _ hm
  have sb : ¬ sX7_isBridge (g.2.2.1 0) (nI i) = 0 := (in_cnt hr.1.2.1).mpr (by
    rw [nI_toInt (by omega)]
    have := nn_toInt hr.1.2.1.1
    omega)
  rw [hai, if_neg sb, oe_some rfl, nn_nI (by omega)]
  have cw := hR.cn hr.1
  have e0 : sX5_waiterAt (g.1 0) i 0 = nthL (g.2.2.1 0) i (qs (g.2.2.1 0)) 0 := (wa5 (r := 0) cw hR.2.2.1 (hR.q6 hI) (by omega)).trans (hR.nthE hI)
  have e1 : sX5_waiterAt (g.1 0) i 1 = nthL (g.2.2.1 0) i (qs (g.2.2.1 0)) 1 := (wa5 (r := 1) cw hR.2.2.1 (hR.q6 hI) (by omega)).trans (hR.nthE hI)
  have f0 : sX7_waiter (g.2.2.1 0) i 0 = enc (nthL (g.2.2.1 0) i (qs (g.2.2.1 0)) 0) := waiter_L (r := 0) hr.1 (by omega)
  have f1 : sX7_waiter (g.2.2.1 0) i 1 = enc (nthL (g.2.2.1 0) i (qs (g.2.2.1 0)) 1) := waiter_L (r := 1) hr.1 (by omega)
  have em : g.1 0 (360 + i) = sX7_many (g.2.2.1 0) i := by rw [many_L hr.1]; exact hR.2.2.2.2.2.2.1 _ (by omega)
  rw [hR.comer hI (by omega), hR.tied hI (by omega), e0, e1, f0, f1, em, cmr_eq hr]
  exact why_g hC.2.2 (fun a ha => qs_8 hr a (cmr_mem ha).1) (fun a ha => qs_8 hr a (nthL_some _ _ ha).1) (fun a ha => qs_8 hr a (nthL_some _ _ ha).1)
theorem count_rel (h : RG g) : sX6_count g x = sX7_count g x := by
  have hI := h.2.1.1 0 (by omega)
  have hR := h.2.2.1
  unfold sX6_count
  by_cases t : sX6_isBelow x 15 = 0
  · rw [if_pos t]
    have nx : ∀ k : Nat, k < 15 → ¬ x = nI k := fun k hk q => by
      have : ¬ sX6_isBelow x 15 = 0 := isB_iff.mpr (by
        rw [q, nI_toInt (by omega), show (15 : Int32).toInt = 15 from by decide]; omega)
      exact this t
    unfold sX7_count
    rw [if_neg (show ¬ x = 0 from nx 0 (by omega)), if_neg (show ¬ x = 1 from nx 1 (by omega)), if_neg (show ¬ x = 2 from nx 2 (by omega)), if_neg (show ¬ x = 3 from nx 3 (by omega)), if_neg (show ¬ x = 4 from nx 4 (by omega)), if_neg (show ¬ x = 5 from nx 5 (by omega)), if_neg (show ¬ x = 6 from nx 6 (by omega)), if_neg (show ¬ x = 7 from nx 7 (by omega)), if_neg (show ¬ x = 8 from nx 8 (by omega)), if_neg (show ¬ x = 9 from nx 9 (by omega)), if_neg (show ¬ x = 10 from nx 10 (by omega)), if_neg (show ¬ x = 11 from nx 11 (by omega)), if_neg (show ¬ x = 12 from nx 12 (by omega)), if_neg (show ¬ x = 13 from nx 13 (by omega)), if_neg (show ¬ x = 14 from nx 14 (by omega))]
  rw [if_neg t]
  have b := isB_iff.mp t
  rw [show (15 : Int32).toInt = 15 from by decide] at b
  have e := nI_nn b.1
  have en := nn_toInt b.1
  unfold sX7_count sX5_total
  have st : ∀ j : Nat, j < 4 → x = nI (9 + j) → ¬ sX6_isBelow (x - 9) 4 = 0 ∧ nn (x - 9) = j := fun j hj q => by
    have e9 : x - 9 = nI j := by
      rw [q, show (9 : Int32) = nI 9 from rfl, pk_sub (by omega), Nat.add_sub_cancel_left]
    rw [e9, nn_nI (by omega)]
    exact ⟨isB_iff.mpr (by rw [nI_toInt (by omega), show (4 : Int32).toInt = 4 from by decide]; omega), rfl⟩
  by_cases k13 : x = 13
  · rw [if_pos k13, k13, if_neg (show ¬ (13 : Int32) = 0 by decide), if_neg (show ¬ (13 : Int32) = 1 by decide), if_neg (show ¬ (13 : Int32) = 2 by decide), if_neg (show ¬ (13 : Int32) = 3 by decide), if_neg (show ¬ (13 : Int32) = 4 by decide), if_neg (show ¬ (13 : Int32) = 5 by decide), if_neg (show ¬ (13 : Int32) = 6 by decide), if_neg (show ¬ (13 : Int32) = 7 by decide), if_neg (show ¬ (13 : Int32) = 8 by decide), if_neg (show ¬ (13 : Int32) = 9 by decide), if_neg (show ¬ (13 : Int32) = 10 by decide), if_neg (show ¬ (13 : Int32) = 11 by decide), if_neg (show ¬ (13 : Int32) = 12 by decide), if_pos rfl]
    exact h.2.2.2.2.2.1
  rw [if_neg k13]
  by_cases k14 : x = 14
  · rw [if_pos k14, k14, if_neg (show ¬ (14 : Int32) = 0 by decide), if_neg (show ¬ (14 : Int32) = 1 by decide), if_neg (show ¬ (14 : Int32) = 2 by decide), if_neg (show ¬ (14 : Int32) = 3 by decide), if_neg (show ¬ (14 : Int32) = 4 by decide), if_neg (show ¬ (14 : Int32) = 5 by decide), if_neg (show ¬ (14 : Int32) = 6 by decide), if_neg (show ¬ (14 : Int32) = 7 by decide), if_neg (show ¬ (14 : Int32) = 8 by decide), if_neg (show ¬ (14 : Int32) = 9 by decide), if_neg (show ¬ (14 : Int32) = 10 by decide), if_neg (show ¬ (14 : Int32) = 11 by decide), if_neg (show ¬ (14 : Int32) = 12 by decide), if_neg (show ¬ (14 : Int32) = 13 by decide), if_pos rfl]
    exact h.2.2.2.1.1
  rw [if_neg k14]
  by_cases k0 : x = 0
  · rw [if_pos k0, if_pos k0]; exact hR.j (by omega)
  rw [if_neg k0, if_neg k0]
  by_cases k1 : x = 1
  · rw [if_pos k1, if_pos k1]; exact hR.j (by omega)
  rw [if_neg k1, if_neg k1]
  by_cases k2 : x = 2
  · rw [if_pos k2, if_pos k2]; exact hR.j (by omega)
  rw [if_neg k2, if_neg k2]
  by_cases k3 : x = 3
  · rw [if_pos k3, if_pos k3]; exact ws_rel hI hR
  rw [if_neg k3, if_neg k3]
  by_cases k4 : x = 4
  · rw [if_pos k4, if_pos k4]; exact cross_rel hI hR
  rw [if_neg k4, if_neg k4]
  by_cases k5 : x = 5
  · rw [if_pos k5, if_pos k5]; exact sumC1 hI hR
  rw [if_neg k5, if_neg k5]
  by_cases k6 : x = 6
  · rw [if_pos k6, if_pos k6]; exact till_rel hI hR
  rw [if_neg k6, if_neg k6]
  by_cases k7 : x = 7
  · rw [if_pos k7, if_pos k7]; exact hR.j (by omega)
  rw [if_neg k7, if_neg k7]
  by_cases k8 : x = 8
  · rw [if_pos k8, if_pos k8]; exact hR.j (by omega)
  rw [if_neg k8, if_neg k8]
  have S : ∀ j : Nat, j < 4 → x = nI (9 + j) → (if sX6_isBelow (x - 9) 4 = 0 then (-2 : Int32) else g.1 0 (nn (x - 9))) = g.2.2.1 0 (nn (x - 9)) := fun j hj q => by
    obtain ⟨s1, s2⟩ := st j hj q
    rw [if_neg s1, s2]; exact hR.j (by omega)
  by_cases k9 : x = 9
  · rw [if_pos k9]; exact S 0 (by omega) k9
  rw [if_neg k9]
  by_cases k10 : x = 10
  · rw [if_pos k10]; exact S 1 (by omega) k10
  rw [if_neg k10]
  by_cases k11 : x = 11
  · rw [if_pos k11]; exact S 2 (by omega) k11
  rw [if_neg k11]
  by_cases k12 : x = 12
  · rw [if_pos k12]; exact S 3 (by omega) k12
  exfalso
  have q : ∀ k : Nat, k < 15 → ¬ x = nI k → ¬ nn x = k := fun k _ hne q => hne (by rw [← q]; exact e)
  have := q 0 (by omega) k0
  have := q 1 (by omega) k1
  have := q 2 (by omega) k2
  have := q 3 (by omega) k3
  have := q 4 (by omega) k4
  have := q 5 (by omega) k5
  have := q 6 (by omega) k6
  have := q 7 (by omega) k7
  have := q 8 (by omega) k8
  have := q 9 (by omega) k9
  have := q 10 (by omega) k10
  have := q 11 (by omega) k11
  have := q 12 (by omega) k12
  have := q 13 (by omega) k13
  have := q 14 (by omega) k14
  omega
end RD
