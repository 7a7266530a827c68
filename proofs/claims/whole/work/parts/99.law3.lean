/-! the cases of the law: next why overIn wins bestGuess route would -/
section LC3
variable {p : Program} {l : Launch} {e : Env} {s : State} {m : MethodId} {below : List Frame} {meth : Method} {c : Code} {H : Heap} {locs : List Loc} {Q : State → Prop} {E : EE} {B : Nat} {ls : Array Slot}
set_option maxHeartbeats 4000000 in
set_option maxRecDepth 100000 in
theorem lc_next {b L i : Nat} {xs : Nat → Int32} {g : GS} (X : Cx p s m #[Value.ref b] c code 4 RL E B) (hX : va_X b L xs s s.heap) (hbl : b < s.heap.size) (hbB : b < B) (hL : L ≤ 2560) (hi : i + 5 ≤ L) (hl : lv_has ls 4 [(0, .ref b), (1, .ref (B + 0)), (2, .ref (B + 459)), (3, .int (nI i))]) (hR : RG g) (hJ : JG E B s g H locs)
    (next : ∀ (g1 : GS) (H : Heap) (locs : List Loc), RG g1 → JG E B s g1 H locs → W p l e room_1 s m #[Value.ref b] below meth c H locs 464 8551 Q (F0 m 1004 ls [])) : W p l e room_1 s m #[Value.ref b] below meth c H locs 464 8551 Q (F0 m 602 ls []) := by
  have hx := X.1
  have hb := X.2.1
  refine lv_aload_n hx hb dL_law_602 rfl (lv_at hl 1 rfl) ?_
  refine relem X hJ hX hbl hbB hL hl (k := 1) (by omega) (by decide) dL_law_603 dL_law_604 dL_law_605 dL_law_606 dL_law_607 ?_
  refine kL_72 X hJ (mX6_next l E B g (xs (i + 1)) hR.1) rfl (by omega) pcT_0 hl.1 ⟨Nat.le_of_ble_eq_true rfl, Nat.le_of_ble_eq_true rfl⟩ ⟨Nat.le_of_ble_eq_true rfl, Nat.le_of_ble_eq_true rfl⟩ (rest := []) rfl (Nat.le_of_ble_eq_true rfl) dL_law_608 (fun H locs hJ => ?_)
  refine lv_aload_n hx hb dL_law_611 rfl (lv_at hl 2 rfl) ?_
  refine relem X hJ hX hbl hbB hL hl (k := 1) (by omega) (by decide) dL_law_612 dL_law_613 dL_law_614 dL_law_615 dL_law_616 ?_
  refine kL_75 X hJ (mX7_next l E B g (xs (i + 1)) (g.2.2.1 0) rfl (hR.2.1.1 0 (by omega)).1) rfl (by omega) pcT_459 hl.1 ⟨Nat.le_of_ble_eq_true rfl, Nat.le_of_ble_eq_true rfl⟩ ⟨Nat.le_of_ble_eq_true rfl, Nat.le_of_ble_eq_true rfl⟩ (rest := [.int (sX6_next g (xs (i + 1)))]) rfl (Nat.le_of_ble_eq_true rfl) dL_law_617 (fun H locs hJ => ?_)
  refine lv_icmp_eq (tgt := 1004) hx hb dL_law_620 (by decide) (fun q => ?_) (fun q => ?_)
  · exact next _ _ _ hR hJ
  · exact absurd (next_rel hR) q
set_option maxHeartbeats 4000000 in
set_option maxRecDepth 100000 in
theorem lc_why {b L i : Nat} {xs : Nat → Int32} {g : GS} (X : Cx p s m #[Value.ref b] c code 4 RL E B) (hX : va_X b L xs s s.heap) (hbl : b < s.heap.size) (hbB : b < B) (hL : L ≤ 2560) (hi : i + 5 ≤ L) (hl : lv_has ls 4 [(0, .ref b), (1, .ref (B + 0)), (2, .ref (B + 459)), (3, .int (nI i))]) (hR : RG g) (hJ : JG E B s g H locs)
    (next : ∀ (g1 : GS) (H : Heap) (locs : List Loc), RG g1 → JG E B s g1 H locs → W p l e room_1 s m #[Value.ref b] below meth c H locs 464 8551 Q (F0 m 1004 ls [])) : W p l e room_1 s m #[Value.ref b] below meth c H locs 464 8551 Q (F0 m 625 ls []) := by
  have hx := X.1
  have hb := X.2.1
  refine lv_aload_n hx hb dL_law_625 rfl (lv_at hl 1 rfl) ?_
  refine relem X hJ hX hbl hbB hL hl (k := 1) (by omega) (by decide) dL_law_626 dL_law_627 dL_law_628 dL_law_629 dL_law_630 ?_
  refine kL_76 X hJ (mX6_why l E B g (xs (i + 1)) hR.1) rfl (by omega) pcT_0 hl.1 ⟨Nat.le_of_ble_eq_true rfl, Nat.le_of_ble_eq_true rfl⟩ ⟨Nat.le_of_ble_eq_true rfl, Nat.le_of_ble_eq_true rfl⟩ (rest := []) rfl (Nat.le_of_ble_eq_true rfl) dL_law_631 (fun H locs hJ => ?_)
  refine lv_aload_n hx hb dL_law_634 rfl (lv_at hl 2 rfl) ?_
  refine relem X hJ hX hbl hbB hL hl (k := 1) (by omega) (by decide) dL_law_635 dL_law_636 dL_law_637 dL_law_638 dL_law_639 ?_
  refine kL_79 X hJ (mX7_whyn l E B g (xs (i + 1)) (g.2.2.1 0) rfl (hR.2.1.1 0 (by omega)).1 (Atn_of (hR.2.1.1 0 (by omega)))) rfl (by omega) pcT_459 hl.1 ⟨Nat.le_of_ble_eq_true rfl, Nat.le_of_ble_eq_true rfl⟩ ⟨Nat.le_of_ble_eq_true rfl, Nat.le_of_ble_eq_true rfl⟩ (rest := [.int (sX6_why g (xs (i + 1)))]) rfl (Nat.le_of_ble_eq_true rfl) dL_law_640 (fun H locs hJ => ?_)
  refine lv_icmp_eq (tgt := 1004) hx hb dL_law_643 (by decide) (fun q => ?_) (fun q => ?_)
  · exact next _ _ _ hR hJ
  · exact absurd (why_rel hR) q
set_option maxHeartbeats 4000000 in
set_option maxRecDepth 100000 in
theorem lc_overIn {b L i : Nat} {xs : Nat → Int32} {g : GS} (X : Cx p s m #[Value.ref b] c code 4 RL E B) (hX : va_X b L xs s s.heap) (hbl : b < s.heap.size) (hbB : b < B) (hL : L ≤ 2560) (hi : i + 5 ≤ L) (hl : lv_has ls 4 [(0, .ref b), (1, .ref (B + 0)), (2, .ref (B + 459)), (3, .int (nI i))]) (hR : RG g) (hJ : JG E B s g H locs)
    (next : ∀ (g1 : GS) (H : Heap) (locs : List Loc), RG g1 → JG E B s g1 H locs → W p l e room_1 s m #[Value.ref b] below meth c H locs 464 8551 Q (F0 m 1004 ls [])) : W p l e room_1 s m #[Value.ref b] below meth c H locs 464 8551 Q (F0 m 648 ls []) := by
  have hx := X.1
  have hb := X.2.1
  refine lv_aload_n hx hb dL_law_648 rfl (lv_at hl 1 rfl) ?_
  refine relem X hJ hX hbl hbB hL hl (k := 1) (by omega) (by decide) dL_law_649 dL_law_650 dL_law_651 dL_law_652 dL_law_653 ?_
  refine kL_80 X hJ (mX6_overIn l E B g (xs (i + 1)) hR.1) rfl (by omega) pcT_0 hl.1 ⟨Nat.le_of_ble_eq_true rfl, Nat.le_of_ble_eq_true rfl⟩ ⟨Nat.le_of_ble_eq_true rfl, Nat.le_of_ble_eq_true rfl⟩ (rest := []) rfl (Nat.le_of_ble_eq_true rfl) dL_law_654 (fun H locs hJ => ?_)
  refine lv_aload_n hx hb dL_law_657 rfl (lv_at hl 2 rfl) ?_
  refine relem X hJ hX hbl hbB hL hl (k := 1) (by omega) (by decide) dL_law_658 dL_law_659 dL_law_660 dL_law_661 dL_law_662 ?_
  have ok : OKs g (sX6_overIn g (xs (i + 1))) (sX7_overIn (sX6_overIn g (xs (i + 1))).2 (xs (i + 1))) := overIn_ok hR
  have hgi := gi_of ok.1 hR
  refine kL_83 X hJ (mX7_overIn l E B _ (xs (i + 1)) hgi.gm) rfl (by omega) pcT_459 hl.1 ⟨Nat.le_of_ble_eq_true rfl, Nat.le_of_ble_eq_true rfl⟩ ⟨Nat.le_of_ble_eq_true rfl, Nat.le_of_ble_eq_true rfl⟩ (rest := [.int (sX6_overIn g (xs (i + 1))).1]) rfl (Nat.le_of_ble_eq_true rfl) dL_law_663 (fun H locs hJ => ?_)
  refine lv_icmp_eq (tgt := 1004) hx hb dL_law_666 (by decide) (fun q => ?_) (fun q => ?_)
  · exact next _ _ _ ok.2.2 hJ
  · exact absurd ok.2.1 q
set_option maxHeartbeats 4000000 in
set_option maxRecDepth 100000 in
theorem lc_wins {b L i : Nat} {xs : Nat → Int32} {g : GS} (X : Cx p s m #[Value.ref b] c code 4 RL E B) (hX : va_X b L xs s s.heap) (hbl : b < s.heap.size) (hbB : b < B) (hL : L ≤ 2560) (hi : i + 5 ≤ L) (hl : lv_has ls 4 [(0, .ref b), (1, .ref (B + 0)), (2, .ref (B + 459)), (3, .int (nI i))]) (hR : RG g) (hJ : JG E B s g H locs)
    (next : ∀ (g1 : GS) (H : Heap) (locs : List Loc), RG g1 → JG E B s g1 H locs → W p l e room_1 s m #[Value.ref b] below meth c H locs 464 8551 Q (F0 m 1004 ls [])) : W p l e room_1 s m #[Value.ref b] below meth c H locs 464 8551 Q (F0 m 671 ls []) := by
  have hx := X.1
  have hb := X.2.1
  refine lv_aload_n hx hb dL_law_671 rfl (lv_at hl 1 rfl) ?_
  refine relem X hJ hX hbl hbB hL hl (k := 1) (by omega) (by decide) dL_law_672 dL_law_673 dL_law_674 dL_law_675 dL_law_676 ?_
  refine relem X hJ hX hbl hbB hL hl (k := 2) (by omega) (by decide) dL_law_677 dL_law_678 dL_law_679 dL_law_680 dL_law_681 ?_
  refine relem X hJ hX hbl hbB hL hl (k := 3) (by omega) (by decide) dL_law_682 dL_law_683 dL_law_684 dL_law_685 dL_law_686 ?_
  refine relem X hJ hX hbl hbB hL hl (k := 4) (by omega) (by decide) dL_law_687 dL_law_688 dL_law_689 dL_law_690 dL_law_691 ?_
  refine kL_84 X hJ (mX6_wins l E B g (xs (i + 1)) (xs (i + 2)) (xs (i + 3)) (xs (i + 4)) hR.1) rfl (by omega) pcT_0 hl.1 ⟨Nat.le_of_ble_eq_true rfl, Nat.le_of_ble_eq_true rfl⟩ ⟨Nat.le_of_ble_eq_true rfl, Nat.le_of_ble_eq_true rfl⟩ (rest := []) rfl (Nat.le_of_ble_eq_true rfl) dL_law_692 (fun H locs hJ => ?_)
  refine lv_aload_n hx hb dL_law_695 rfl (lv_at hl 2 rfl) ?_
  refine relem X hJ hX hbl hbB hL hl (k := 1) (by omega) (by decide) dL_law_696 dL_law_697 dL_law_698 dL_law_699 dL_law_700 ?_
  refine relem X hJ hX hbl hbB hL hl (k := 2) (by omega) (by decide) dL_law_701 dL_law_702 dL_law_703 dL_law_704 dL_law_705 ?_
  refine relem X hJ hX hbl hbB hL hl (k := 3) (by omega) (by decide) dL_law_706 dL_law_707 dL_law_708 dL_law_709 dL_law_710 ?_
  refine relem X hJ hX hbl hbB hL hl (k := 4) (by omega) (by decide) dL_law_711 dL_law_712 dL_law_713 dL_law_714 dL_law_715 ?_
  refine kL_88 X hJ (mX7_wins l E B g (xs (i + 1)) (xs (i + 2)) (xs (i + 3)) (xs (i + 4)) (g.2.2.1 0) rfl (hR.2.1.1 0 (by omega)).1 (Rg_of (hR.2.1.1 0 (by omega)))) rfl (by omega) pcT_459 hl.1 ⟨Nat.le_of_ble_eq_true rfl, Nat.le_of_ble_eq_true rfl⟩ ⟨Nat.le_of_ble_eq_true rfl, Nat.le_of_ble_eq_true rfl⟩ (rest := [.int (sX6_wins g (xs (i + 1)) (xs (i + 2)) (xs (i + 3)) (xs (i + 4)))]) rfl (Nat.le_of_ble_eq_true rfl) dL_law_716 (fun H locs hJ => ?_)
  refine lv_icmp_eq (tgt := 1004) hx hb dL_law_719 (by decide) (fun q => ?_) (fun q => ?_)
  · exact next _ _ _ hR hJ
  · exact absurd (wins_rel hR) q
set_option maxHeartbeats 4000000 in
set_option maxRecDepth 100000 in
theorem lc_bestGuess {b L i : Nat} {xs : Nat → Int32} {g : GS} (X : Cx p s m #[Value.ref b] c code 4 RL E B) (hX : va_X b L xs s s.heap) (hbl : b < s.heap.size) (hbB : b < B) (hL : L ≤ 2560) (hi : i + 5 ≤ L) (hl : lv_has ls 4 [(0, .ref b), (1, .ref (B + 0)), (2, .ref (B + 459)), (3, .int (nI i))]) (hR : RG g) (hJ : JG E B s g H locs)
    (next : ∀ (g1 : GS) (H : Heap) (locs : List Loc), RG g1 → JG E B s g1 H locs → W p l e room_1 s m #[Value.ref b] below meth c H locs 464 8551 Q (F0 m 1004 ls [])) : W p l e room_1 s m #[Value.ref b] below meth c H locs 464 8551 Q (F0 m 724 ls []) := by
  have hx := X.1
  have hb := X.2.1
  refine lv_aload_n hx hb dL_law_724 rfl (lv_at hl 1 rfl) ?_
  refine relem X hJ hX hbl hbB hL hl (k := 1) (by omega) (by decide) dL_law_725 dL_law_726 dL_law_727 dL_law_728 dL_law_729 ?_
  refine relem X hJ hX hbl hbB hL hl (k := 2) (by omega) (by decide) dL_law_730 dL_law_731 dL_law_732 dL_law_733 dL_law_734 ?_
  refine relem X hJ hX hbl hbB hL hl (k := 3) (by omega) (by decide) dL_law_735 dL_law_736 dL_law_737 dL_law_738 dL_law_739 ?_
  refine relem X hJ hX hbl hbB hL hl (k := 4) (by omega) (by decide) dL_law_740 dL_law_741 dL_law_742 dL_law_743 dL_law_744 ?_
  refine kL_89 X hJ (mX6_bestGuess l E B g (xs (i + 1)) (xs (i + 2)) (xs (i + 3)) (xs (i + 4)) hR.1) rfl (by omega) pcT_0 hl.1 ⟨Nat.le_of_ble_eq_true rfl, Nat.le_of_ble_eq_true rfl⟩ ⟨Nat.le_of_ble_eq_true rfl, Nat.le_of_ble_eq_true rfl⟩ (rest := []) rfl (Nat.le_of_ble_eq_true rfl) dL_law_745 (fun H locs hJ => ?_)
  refine lv_aload_n hx hb dL_law_748 rfl (lv_at hl 2 rfl) ?_
  refine relem X hJ hX hbl hbB hL hl (k := 1) (by omega) (by decide) dL_law_749 dL_law_750 dL_law_751 dL_law_752 dL_law_753 ?_
  refine relem X hJ hX hbl hbB hL hl (k := 2) (by omega) (by decide) dL_law_754 dL_law_755 dL_law_756 dL_law_757 dL_law_758 ?_
  refine relem X hJ hX hbl hbB hL hl (k := 3) (by omega) (by decide) dL_law_759 dL_law_760 dL_law_761 dL_law_762 dL_law_763 ?_
  refine relem X hJ hX hbl hbB hL hl (k := 4) (by omega) (by decide) dL_law_764 dL_law_765 dL_law_766 dL_law_767 dL_law_768 ?_
  refine kL_92 X hJ (mX7_bestGuess l E B g (xs (i + 1)) (xs (i + 2)) (xs (i + 3)) (xs (i + 4)) (g.2.2.1 0) rfl (hR.2.1.1 0 (by omega)).1 (Rg_of (hR.2.1.1 0 (by omega)))) rfl (by omega) pcT_459 hl.1 ⟨Nat.le_of_ble_eq_true rfl, Nat.le_of_ble_eq_true rfl⟩ ⟨Nat.le_of_ble_eq_true rfl, Nat.le_of_ble_eq_true rfl⟩ (rest := [.int (sX6_bestGuess g (xs (i + 1)) (xs (i + 2)) (xs (i + 3)) (xs (i + 4)))]) rfl (Nat.le_of_ble_eq_true rfl) dL_law_769 (fun H locs hJ => ?_)
  refine lv_icmp_eq (tgt := 1004) hx hb dL_law_772 (by decide) (fun q => ?_) (fun q => ?_)
  · exact next _ _ _ hR hJ
  · exact absurd (best_rel hR) q
set_option maxHeartbeats 4000000 in
set_option maxRecDepth 100000 in
theorem lc_route {b L i : Nat} {xs : Nat → Int32} {g : GS} (X : Cx p s m #[Value.ref b] c code 4 RL E B) (hX : va_X b L xs s s.heap) (hbl : b < s.heap.size) (hbB : b < B) (hL : L ≤ 2560) (hi : i + 5 ≤ L) (hl : lv_has ls 4 [(0, .ref b), (1, .ref (B + 0)), (2, .ref (B + 459)), (3, .int (nI i))]) (hR : RG g) (hJ : JG E B s g H locs)
    (next : ∀ (g1 : GS) (H : Heap) (locs : List Loc), RG g1 → JG E B s g1 H locs → W p l e room_1 s m #[Value.ref b] below meth c H locs 464 8551 Q (F0 m 1004 ls [])) : W p l e room_1 s m #[Value.ref b] below meth c H locs 464 8551 Q (F0 m 777 ls []) := by
  have hx := X.1
  have hb := X.2.1
  refine lv_aload_n hx hb dL_law_777 rfl (lv_at hl 1 rfl) ?_
  refine relem X hJ hX hbl hbB hL hl (k := 1) (by omega) (by decide) dL_law_778 dL_law_779 dL_law_780 dL_law_781 dL_law_782 ?_
  refine relem X hJ hX hbl hbB hL hl (k := 2) (by omega) (by decide) dL_law_783 dL_law_784 dL_law_785 dL_law_786 dL_law_787 ?_
  refine relem X hJ hX hbl hbB hL hl (k := 3) (by omega) (by decide) dL_law_788 dL_law_789 dL_law_790 dL_law_791 dL_law_792 ?_
  refine kL_93 X hJ (mX6_route l E B g (xs (i + 1)) (xs (i + 2)) (xs (i + 3)) hR.1) rfl (by omega) pcT_0 hl.1 ⟨Nat.le_of_ble_eq_true rfl, Nat.le_of_ble_eq_true rfl⟩ ⟨Nat.le_of_ble_eq_true rfl, Nat.le_of_ble_eq_true rfl⟩ (rest := []) rfl (Nat.le_of_ble_eq_true rfl) dL_law_793 (fun H locs hJ => ?_)
  refine lv_aload_n hx hb dL_law_796 rfl (lv_at hl 2 rfl) ?_
  refine relem X hJ hX hbl hbB hL hl (k := 1) (by omega) (by decide) dL_law_797 dL_law_798 dL_law_799 dL_law_800 dL_law_801 ?_
  refine relem X hJ hX hbl hbB hL hl (k := 2) (by omega) (by decide) dL_law_802 dL_law_803 dL_law_804 dL_law_805 dL_law_806 ?_
  refine relem X hJ hX hbl hbB hL hl (k := 3) (by omega) (by decide) dL_law_807 dL_law_808 dL_law_809 dL_law_810 dL_law_811 ?_
  have hJ : JG E B s (upR g g.2.2.2) H locs := hJ
  refine kL_96 X hJ (mX7_route l E B g (xs (i + 1)) (xs (i + 2)) (xs (i + 3)) g.2.2.2 (g.2.2.1 0) rfl (hR.2.1.1 0 (by omega)).1) rfl (by omega) pcT_459 hl.1 ⟨Nat.le_of_ble_eq_true rfl, Nat.le_of_ble_eq_true rfl⟩ ⟨Nat.le_of_ble_eq_true rfl, Nat.le_of_ble_eq_true rfl⟩ (rest := [.int (sX6_route g (xs (i + 1)) (xs (i + 2)) (xs (i + 3)))]) rfl (Nat.le_of_ble_eq_true rfl) dL_law_812 (fun H locs hJ => ?_)
  have ok := route_ok (x := (xs (i + 1))) (y := (xs (i + 2))) (z := (xs (i + 3))) hR
  refine lv_icmp_eq (tgt := 1004) hx hb dL_law_815 (by decide) (fun q => ?_) (fun q => ?_)
  · exact next _ _ _ ok.2 hJ
  · exact absurd ok.1 q
set_option maxHeartbeats 4000000 in
set_option maxRecDepth 100000 in
theorem lc_would {b L i : Nat} {xs : Nat → Int32} {g : GS} (X : Cx p s m #[Value.ref b] c code 4 RL E B) (hX : va_X b L xs s s.heap) (hbl : b < s.heap.size) (hbB : b < B) (hL : L ≤ 2560) (hi : i + 5 ≤ L) (hl : lv_has ls 4 [(0, .ref b), (1, .ref (B + 0)), (2, .ref (B + 459)), (3, .int (nI i))]) (hR : RG g) (hJ : JG E B s g H locs)
    (next : ∀ (g1 : GS) (H : Heap) (locs : List Loc), RG g1 → JG E B s g1 H locs → W p l e room_1 s m #[Value.ref b] below meth c H locs 464 8551 Q (F0 m 1004 ls [])) : W p l e room_1 s m #[Value.ref b] below meth c H locs 464 8551 Q (F0 m 820 ls []) := by
  have hx := X.1
  have hb := X.2.1
  refine lv_aload_n hx hb dL_law_820 rfl (lv_at hl 1 rfl) ?_
  refine relem X hJ hX hbl hbB hL hl (k := 1) (by omega) (by decide) dL_law_821 dL_law_822 dL_law_823 dL_law_824 dL_law_825 ?_
  refine relem X hJ hX hbl hbB hL hl (k := 2) (by omega) (by decide) dL_law_826 dL_law_827 dL_law_828 dL_law_829 dL_law_830 ?_
  refine kL_97 X hJ (mX6_would l E B g (xs (i + 1)) (xs (i + 2)) hR.1) rfl (by omega) pcT_0 hl.1 ⟨Nat.le_of_ble_eq_true rfl, Nat.le_of_ble_eq_true rfl⟩ ⟨Nat.le_of_ble_eq_true rfl, Nat.le_of_ble_eq_true rfl⟩ (rest := []) rfl (Nat.le_of_ble_eq_true rfl) dL_law_831 (fun H locs hJ => ?_)
  refine lv_aload_n hx hb dL_law_834 rfl (lv_at hl 2 rfl) ?_
  refine relem X hJ hX hbl hbB hL hl (k := 1) (by omega) (by decide) dL_law_835 dL_law_836 dL_law_837 dL_law_838 dL_law_839 ?_
  refine relem X hJ hX hbl hbB hL hl (k := 2) (by omega) (by decide) dL_law_840 dL_law_841 dL_law_842 dL_law_843 dL_law_844 ?_
  have ok : OKs g (sX6_would g (xs (i + 1)) (xs (i + 2))) (sX7_would (sX6_would g (xs (i + 1)) (xs (i + 2))).2 (xs (i + 1)) (xs (i + 2))) := would_ok hR
  have hgi := gi_of ok.1 hR
  refine kL_100 X hJ (mX7_would l E B _ (xs (i + 1)) (xs (i + 2)) hgi.gm) rfl (by omega) pcT_459 hl.1 ⟨Nat.le_of_ble_eq_true rfl, Nat.le_of_ble_eq_true rfl⟩ ⟨Nat.le_of_ble_eq_true rfl, Nat.le_of_ble_eq_true rfl⟩ (rest := [.int (sX6_would g (xs (i + 1)) (xs (i + 2))).1]) rfl (Nat.le_of_ble_eq_true rfl) dL_law_845 (fun H locs hJ => ?_)
  refine lv_icmp_eq (tgt := 1004) hx hb dL_law_848 (by decide) (fun q => ?_) (fun q => ?_)
  · exact next _ _ _ ok.2.2 hJ
  · exact absurd ok.2.1 q
end LC3
