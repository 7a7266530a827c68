/-! what holds at the law's start -/
section ST0
variable {args : Array Value} {s : State}
theorem arr_p {ty : FieldType} (h : (Cond.arrayClass ty).before args s = true) : ∃ cA : ClassId, ArrOfT s cA ty ∧ s.vm.findClass ("[" ++ ty.toString) = some cA := by
  obtain ⟨cA, kA, comp, h1, h2, h3⟩ := Cond.arrayClass_spec h
  exact ⟨cA, fun n z => ⟨fun k h => (by cases h), kA, h2, comp, h3⟩, h1⟩
theorem arr_o {C : String} (h : (Cond.arrayOver (.object C)).before args s = true) : ∃ cA : ClassId, ArrOfT s cA (.object C) ∧ va_RA s cA (.object C) := by
  obtain ⟨comp, cA, kA, h1, h2, h3, h4, h5⟩ := Cond.arrayOver_spec h
  exact ⟨cA, fun n z => ⟨fun k h => (by cases h), kA, h3, comp, h4⟩, kA, comp, h3, h4, h1, h5⟩
theorem st_one {nm : String} {f : Row} (hl : (Cond.laysStatic RX6 nm "[I").before args s = true) (hini : (Cond.initialized RX6).before args s = true) (harr : (Cond.arrayOf (.static RX6 nm "[I") .int).before args s = true) (hlen : (Cond.eq (.length (.static RX6 nm "[I")) (.int 4)).before args s = true)
    (h0 : (Cond.eq (.elem (.static RX6 nm "[I") (.int 0)) (.int (f 0))).before args s = true) (h1 : (Cond.eq (.elem (.static RX6 nm "[I") (.int 1)) (.int (f 1))).before args s = true) (h2 : (Cond.eq (.elem (.static RX6 nm "[I") (.int 2)) (.int (f 2))).before args s = true) (h3 : (Cond.eq (.elem (.static RX6 nm "[I") (.int 3)) (.int (f 3))).before args s = true) : ST1 nm f s.heap.size s s.heap := by
  have hA : ∀ a : Nat, a < s.heap.size → ¬ fB s.heap.size a := fun a h => Nat.not_le.mpr h
  obtain ⟨t, ht, hT⟩ := va_Tof (N := 4) (f := fun j => .int (f j)) (A := fB s.heap.size) (by decide) harr (va_eqt hlen) (fun j hj => by
    rcases (show j = 0 ∨ j = 1 ∨ j = 2 ∨ j = 3 by omega) with rfl | rfl | rfl | rfl
    · exact va_eqt h0
    · exact va_eqt h1
    · exact va_eqt h2
    · exact va_eqt h3) hA
  exact ⟨t, va_Zref hl hini ht hA, hT⟩
theorem st_K (hts : ∀ w ∈ TW, w.before args s = true) (hao : ∀ w ∈ lw_tbl, w.before args s = true) : ∃ E : EE, va_K E.1 vwCl (tys E) s := by
  obtain ⟨c0, i0, k0⟩ := u_known (C := RX0) (T := TX0) (N := 9) (n := 9) hts inT0 (hts _ (tw (i := 41) (by decide +kernel) (by decide)))
  obtain ⟨c1, i1, k1⟩ := u_known (C := RX1) (T := TX1) (N := 11) (n := 11) hts inT1 (hts _ (tw (i := 89) (by decide +kernel) (by decide)))
  obtain ⟨c2, i2, k2⟩ := u_known (C := RX2) (T := TX2) (N := 3) (n := 3) hts inT2 (hts _ (tw (i := 173) (by decide +kernel) (by decide)))
  obtain ⟨c3, i3, k3⟩ := u_known (C := RX3) (T := TX3) (N := 6) (n := 6) hts inT3 (hts _ (tw (i := 208) (by decide +kernel) (by decide)))
  obtain ⟨c4, i4, k4⟩ := u_known (C := RX4) (T := TX4) (N := 2) (n := 2) hts inT4 (hts _ (tw (i := 193) (by decide +kernel) (by decide)))
  obtain ⟨c5, i5, k5⟩ := u_known (C := RX5) (T := TX5) (N := 11) (n := 11) hts inT5 (hts _ (tw (i := 27) (by decide +kernel) (by decide)))
  obtain ⟨c6, i6, k6⟩ := u_known (C := RX6) (T := TX6) (N := 7) (n := 7) hts inT6 (hts _ (tw (i := 19) (by decide +kernel) (by decide)))
  obtain ⟨a0, p0, q0⟩ := arr_p (hts _ tw_aI)
  obtain ⟨a1, p1, q1⟩ := arr_p (hts _ tw_aZ)
  obtain ⟨a2, p2, q2⟩ := arr_o (C := RX0) (hao _ (List.mem_of_getElem? (i := 33) (by decide +kernel)))
  obtain ⟨a3, p3, q3⟩ := arr_o (C := RX1) (hao _ (List.mem_of_getElem? (i := 35) (by decide +kernel)))
  obtain ⟨a4, p4, q4⟩ := arr_o (C := RX5) (hao _ (List.mem_of_getElem? (i := 179) (by decide +kernel)))
  refine ⟨((fun k => match k with | 0 => c0 | 1 => c1 | 2 => c2 | 3 => c3 | 4 => c4 | 5 => c5 | _ => c6, fun k => match k with | 0 => i0 | 1 => i1 | 2 => i2 | 3 => i3 | 4 => i4 | 5 => i5 | _ => i6), fun k => match k with | 0 => a0 | 1 => a1 | 2 => a2 | 3 => a3 | _ => a4), ?_, ?_⟩
  · intro k q hq
    match k, hq with
    | 0, hq => cases hq; exact k0
    | 1, hq => cases hq; exact k1
    | 2, hq => cases hq; exact k2
    | 3, hq => cases hq; exact k3
    | 4, hq => cases hq; exact k4
    | 5, hq => cases hq; exact k5
    | 6, hq => cases hq; exact k6
    | k + 7, hq => exact absurd hq (by simp [vwCl])
  · intro k q hq
    match k, hq with
    | 0, hq => cases hq; exact ⟨p0, q0⟩
    | 1, hq => cases hq; exact ⟨p1, q1⟩
    | 2, hq => cases hq; exact ⟨p2, q2⟩
    | 3, hq => cases hq; exact ⟨p3, q3⟩
    | 4, hq => cases hq; exact ⟨p4, q4⟩
    | k + 5, hq => exact absurd hq (by simp [tys])
theorem st_NW (hao : ∀ w ∈ lw_tbl, w.before args s = true) : NW s :=
  ⟨va_Nw.of rfl (hao _ (List.mem_of_getElem? (i := 36) (by decide +kernel))), va_Nw.of rfl (hao _ (List.mem_of_getElem? (i := 565) (by decide +kernel))), va_Nw.of rfl (hao _ (List.mem_of_getElem? (i := 567) (by decide +kernel))),
   va_Nw.of rfl (hao _ (List.mem_of_getElem? (i := 194) (by decide +kernel))), va_Nw.of rfl (hao _ (List.mem_of_getElem? (i := 274) (by decide +kernel))),
   va_AO.of (hao _ (List.mem_of_getElem? (i := 33) (by decide +kernel))), va_AO.of (hao _ (List.mem_of_getElem? (i := 35) (by decide +kernel))), va_AO.of (hao _ (List.mem_of_getElem? (i := 179) (by decide +kernel)))⟩
theorem st_ST (hao : ∀ w ∈ lw_tbl, w.before args s = true) (hgv : (Jvm.Cond.and given_1 narrow_1).before args s = true) : ST s.heap.size s s.heap := by
  have hs := flat_of_before _ hgv
  have hini : (Cond.initialized RX6).before args s = true := hao _ (List.mem_of_getElem? (i := 9) (by decide +kernel))
  refine ⟨?_, ?_, ?_⟩
  · exact st_one (hao _ (List.mem_of_getElem? (i := 37) (by decide +kernel))) hini (hs _ (by decide +kernel)) (hs _ (by decide +kernel)) (hs _ (by decide +kernel)) (hs _ (by decide +kernel)) (hs _ (by decide +kernel)) (hs _ (by decide +kernel))
  · exact st_one (hao _ (List.mem_of_getElem? (i := 566) (by decide +kernel))) hini (hs _ (by decide +kernel)) (hs _ (by decide +kernel)) (hs _ (by decide +kernel)) (hs _ (by decide +kernel)) (hs _ (by decide +kernel)) (hs _ (by decide +kernel))
  · exact st_one (hao _ (List.mem_of_getElem? (i := 568) (by decide +kernel))) hini (hs _ (by decide +kernel)) (hs _ (by decide +kernel)) (hs _ (by decide +kernel)) (hs _ (by decide +kernel)) (hs _ (by decide +kernel)) (hs _ (by decide +kernel))
end ST0
