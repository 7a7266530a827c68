/-! texts: an order is obeyed alike -/
section OB
variable {N M : GS} {w q c r : Row}
def Gc_ (N : GS) (w c : Row) : GS := upC (upW N 0 w) c
def Gr_ (M : GS) (q r : Row) : GS := upR (upS M 0 q) r
theorem Gc_0 : (Gc_ N w c).1 0 = w := by
  show (upW N 0 w).1 0 = w
  exact upW_1
theorem Gr_0 : (Gr_ M q r).2.2.1 0 = q := by
  show (upS M 0 q).2.2.1 0 = q
  exact upS_1
theorem Gc_c : (Gc_ N w c).2.1 = c := rfl
theorem Gr_r : (Gr_ M q r).2.2.2 = r := rfl
theorem Gc_up {w' : Row} : upW (Gc_ N w c) 0 w' = Gc_ N w' c := by
  show upC (upW (upW N 0 w) 0 w') c = _
  rw [upW_upW]; rfl
theorem Gr_up {q' : Row} : upS (Gr_ M q r) 0 q' = Gr_ M q' r := by
  show upR (upS (upS M 0 q) 0 q') r = _
  rw [upS_upS]; rfl
def OB (N M : GS) (w q c r : Row) : Prop := (¬ sX7_orderError (Gr_ M q r) = 0 → (sX6_obey (Gc_ N w c)).1 < 0 ∧ (sX6_obey (Gc_ N w c)).2 = Gc_ N w c) ∧
  (sX7_orderError (Gr_ M q r) = 0 → ¬ (sX6_obey (Gc_ N w c)).1 < 0 ∧ ∃ w' q', (sX6_obey (Gc_ N w c)).2 = Gc_ N w' c ∧ (sX7_does (Gr_ M q r)).2 = Gr_ M q' r ∧ Rel w' q' ∧ Inv q')
theorem OB_of {E : Int32} {A B : Int32 × Row} (hG : Gi (Gr_ M q r)) (e1 : sX7_orderError (Gr_ M q r) = E) (e2 : sX6_obey (Gc_ N w c) = (A.1, upW (Gc_ N w c) 0 A.2)) (e3 : sX7_does (Gr_ M q r) = (B.1, upS (Gr_ M q r) 0 B.2))
    (h : (¬ E = 0 → A = (E, w) ∧ E < 0) ∧ (E = 0 → A.1 = B.1 ∧ 0 ≤ A.1 ∧ Rel A.2 B.2)) : OB N M w q c r := by
  have gd := Gi_does hG
  refine ⟨fun k => ?_, fun k => ?_⟩
  · rw [e1] at k
    have a := h.1 k
    rw [e2, Gc_up, a.1]
    exact ⟨a.2, rfl⟩
  · have g2 := (gd k).1 0 (by omega)
    rw [e3] at g2
    rw [e1] at k
    have a := h.2 k
    rw [e2, e3, Gc_up, Gr_up]
    rw [show (B.1, upS (Gr_ M q r) 0 B.2).2.2.2.1 0 = B.2 from upS_1] at g2
    refine ⟨fun z => ?_, A.2, B.2, rfl, rfl, a.2.2, g2⟩
    have z' : A.1 < 0 := z
    have p := a.2.1
    rw [Int32.lt_iff_toInt_lt] at z'
    rw [Int32.le_iff_toInt_le] at p
    omega
theorem obey_rel (hK : KM c r) (hI : Inv q) (hR : Rel w q) (hG : Gi (Gr_ M q r)) : OB N M w q c r := by
  obtain ⟨k5, k98, k99, k103, k104, k108, kO⟩ := hK
  by_cases a : r 3 = 98
  · obtain ⟨x1, x2, x3⟩ := k98 a
    refine OB_of (E := sX7_bridgeError q (r 4) (r 5) (r 6)) (A := sX5_addBridge w (c 6) (c 7) (c 8)) (B := sX7_builds q (r 4) (r 5) (r 6)) hG ?_ ?_ ?_ (by rw [x1, x2, x3]; exact addBridge_rel hI hR)
    · unfold sX7_orderError; rw [Gr_0, Gr_r]; exact slC98 a
    · unfold sX6_obey; rw [Gc_0, Gc_c]; exact slC98 (k5.trans a)
    · unfold sX7_does; rw [Gr_0, Gr_r]; exact slC98 a
  by_cases a2 : r 3 = 99
  · obtain ⟨x1, x2⟩ := k99 a2
    refine OB_of (E := sX7_cartError q (r 4) (r 6)) (A := sX5_addCart w (c 6) (c 7)) (B := sX7_comes q (r 4) (r 6)) hG ?_ ?_ ?_ (by rw [x1, x2]; exact addCart_rel hI hR)
    · unfold sX7_orderError; rw [Gr_0, Gr_r]; exact slC99 a2
    · unfold sX6_obey; rw [Gc_0, Gc_c]; exact slC99 (k5.trans a2)
    · unfold sX7_does; rw [Gr_0, Gr_r]; exact slC99 a2
  by_cases a3 : r 3 = 103
  · obtain ⟨x1, x2, x3⟩ := k103 a3
    refine OB_of (E := sX7_guessError q (r 4) (r 5) (r 6)) (A := sX5_comeToWait w (c 6) (c 7) (c 8)) (B := sX7_guesses q (nn (r 4)) (nn (r 5)) (r 6)) hG ?_ ?_ ?_ (by rw [x1, x2, x3]; exact guess_rel hI hR)
    · unfold sX7_orderError; rw [Gr_0, Gr_r]; exact slC103 a3
    · unfold sX6_obey; rw [Gc_0, Gc_c]; exact slC103 (k5.trans a3)
    · unfold sX7_does; rw [Gr_0, Gr_r]; exact slC103 a3
  by_cases a4 : r 3 = 104
  · obtain ⟨x1, x2⟩ := k104 a4
    refine OB_of (E := sX7_hintError q (r 4) (r 5)) (A := sX5_buyHint w (c 6) (c 7)) (B := sX7_hints q (nn (r 4)) (nn (r 5))) hG ?_ ?_ ?_ (by rw [x1, x2]; exact hint_rel hI hR)
    · unfold sX7_orderError; rw [Gr_0, Gr_r]; exact slC104 a4
    · unfold sX6_obey; rw [Gc_0, Gc_c]; exact slC104 (k5.trans a4)
    · unfold sX7_does; rw [Gr_0, Gr_r]; exact slC104 a4
  by_cases a5 : r 3 = 108
  · have x1 := k108 a5
    refine OB_of (E := sX7_leaveError q (r 4)) (A := sX5_stopWaiting w (c 6)) (B := sX7_leaves q (nn (r 4))) hG ?_ ?_ ?_ (by rw [x1]; exact leave_rel hI hR)
    · unfold sX7_orderError; rw [Gr_0, Gr_r]; exact slC108 a5
    · unfold sX6_obey; rw [Gc_0, Gc_c]; exact slC108 (k5.trans a5)
    · unfold sX7_does; rw [Gr_0, Gr_r]; exact slC108 a5
  obtain ⟨a6, x1⟩ := kO a a2 a3 a4 a5
  have P := pass_rel (x := r 6) hI hR
  refine OB_of (E := sX7_passError q (r 6)) (A := sX5_passHours w (c 6)) (B := sX7_hours q (r 6)) hG ?_ ?_ ?_ ⟨by rw [x1]; exact P.1, fun k => by
    rw [x1]
    have b := P.2 k
    refine ⟨b.1, ?_, b.2⟩
    rw [b.1, Int32.le_iff_toInt_le, show (0 : Int32).toInt = 0 from by decide]
    exact hours_sm.1⟩
  · unfold sX7_orderError; rw [Gr_0, Gr_r]; exact slC112 a6
  · unfold sX6_obey; rw [Gc_0, Gc_c]; exact slC112 (k5.trans a6)
  · unfold sX7_does; rw [Gr_0, Gr_r]; exact slC112 a6
end OB
