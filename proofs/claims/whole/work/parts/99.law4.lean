/-! the cases of the law: put wipe fault carryOut undo save restore -/
section LC4
variable {p : Program} {l : Launch} {e : Env} {s : State} {m : MethodId} {below : List Frame} {meth : Method} {c : Code} {H : Heap} {locs : List Loc} {Q : State → Prop} {E : EE} {B : Nat} {ls : Array Slot}
set_option maxHeartbeats 4000000 in
set_option maxRecDepth 100000 in
theorem lc_put {b L i : Nat} {xs : Nat → Int32} {g : GS} (X : Cx p s m #[Value.ref b] c code 4 RL E B) (hX : va_X b L xs s s.heap) (hbl : b < s.heap.size) (hbB : b < B) (hL : L ≤ 2560) (hi : i + 5 ≤ L) (hl : lv_has ls 4 [(0, .ref b), (1, .ref (B + 0)), (2, .ref (B + 459)), (3, .int (nI i))]) (hR : RG g) (hJ : JG E B s g H locs)
    (next : ∀ (g1 : GS) (H : Heap) (locs : List Loc), RG g1 → JG E B s g1 H locs → W p l e room_1 s m #[Value.ref b] below meth c H locs 464 8551 Q (F0 m 1004 ls [])) : W p l e room_1 s m #[Value.ref b] below meth c H locs 464 8551 Q (F0 m 853 ls []) := by
  have hx := X.1
  have hb := X.2.1
  refine lv_aload_n hx hb dL_law_853 rfl (lv_at hl 1 rfl) ?_
  refine relem X hJ hX hbl hbB hL hl (k := 1) (by omega) (by decide) dL_law_854 dL_law_855 dL_law_856 dL_law_857 dL_law_858 ?_
  refine lv_i2l hx hb dL_law_859 rfl ?_
  refine lv_bipush (v := 32) hx hb dL_law_860 (by decide) ?_
  refine lv_lshl hx hb dL_law_862 rfl ?_
  refine relem X hJ hX hbl hbB hL hl (k := 2) (by omega) (by decide) dL_law_863 dL_law_864 dL_law_865 dL_law_866 dL_law_867 ?_
  refine lv_i2l hx hb dL_law_868 rfl ?_
  refine lv_ldc2 (own := RL) (v := 4294967295) hx hb X.2.2.2.1 (X.2.2.2.2.1 _ tw_c32) dL_law_869 ?_
  refine lv_land hx hb dL_law_872 ?_
  refine lv_lor hx hb dL_law_873 ?_
  refine lv_topl (fun z0 e0 => ?_)
  have hJ : JG E B s (upC g g.2.1) H locs := hJ
  refine kL_103 X hJ (mX6_put l E B g z0 g.2.1 hR.1.2.1) rfl (by omega) pcT_0 hl.1 ⟨Nat.le_of_ble_eq_true rfl, Nat.le_of_ble_eq_true rfl⟩ ⟨Nat.le_of_ble_eq_true rfl, Nat.le_of_ble_eq_true rfl⟩ (rest := []) rfl (Nat.le_of_ble_eq_true rfl) dL_law_874 (fun H locs hJ => ?_)
  refine lv_aload_n hx hb dL_law_877 rfl (lv_at hl 2 rfl) ?_
  refine relem X hJ hX hbl hbB hL hl (k := 1) (by omega) (by decide) dL_law_878 dL_law_879 dL_law_880 dL_law_881 dL_law_882 ?_
  refine lv_i2l hx hb dL_law_883 rfl ?_
  refine lv_bipush (v := 32) hx hb dL_law_884 (by decide) ?_
  refine lv_lshl hx hb dL_law_886 rfl ?_
  refine relem X hJ hX hbl hbB hL hl (k := 2) (by omega) (by decide) dL_law_887 dL_law_888 dL_law_889 dL_law_890 dL_law_891 ?_
  refine lv_i2l hx hb dL_law_892 rfl ?_
  refine lv_ldc2 (own := RL) (v := 4294967295) hx hb X.2.2.2.1 (X.2.2.2.2.1 _ tw_c32) dL_law_893 ?_
  refine lv_land hx hb dL_law_896 ?_
  refine lv_lor hx hb dL_law_897 ?_
  refine lv_topl (fun z1 e1 => ?_)
  obtain rfl : z0 = z1 := e0.trans e1.symm
  have hJ : JG E B s (upR (upC g (sX6_put g.2.1 z0).2) g.2.2.2) H locs := hJ
  refine kL_107 X hJ (mX7_put l E B (upC g (sX6_put g.2.1 z0).2) z0 g.2.2.2 ⟨hR.2.1.2.1, Nat.zero_le _⟩) rfl (by omega) pcT_459 hl.1 ⟨Nat.le_of_ble_eq_true rfl, Nat.le_of_ble_eq_true rfl⟩ ⟨Nat.le_of_ble_eq_true rfl, Nat.le_of_ble_eq_true rfl⟩ (rest := [.int (sX6_put g.2.1 z0).1]) rfl (Nat.le_of_ble_eq_true rfl) dL_law_898 (fun H locs hJ => ?_)
  have ok := put_ok (z := z0) hR
  refine lv_icmp_eq (tgt := 1004) hx hb dL_law_901 (by decide) (fun q => ?_) (fun q => ?_)
  · exact next _ _ _ ok.2 hJ
  · exact absurd ok.1 q
set_option maxHeartbeats 4000000 in
set_option maxRecDepth 100000 in
theorem lc_wipe {b L i : Nat} {xs : Nat → Int32} {g : GS} (X : Cx p s m #[Value.ref b] c code 4 RL E B) (hX : va_X b L xs s s.heap) (hbl : b < s.heap.size) (hbB : b < B) (hL : L ≤ 2560) (hi : i + 5 ≤ L) (hl : lv_has ls 4 [(0, .ref b), (1, .ref (B + 0)), (2, .ref (B + 459)), (3, .int (nI i))]) (hR : RG g) (hJ : JG E B s g H locs)
    (next : ∀ (g1 : GS) (H : Heap) (locs : List Loc), RG g1 → JG E B s g1 H locs → W p l e room_1 s m #[Value.ref b] below meth c H locs 464 8551 Q (F0 m 1004 ls [])) : W p l e room_1 s m #[Value.ref b] below meth c H locs 464 8551 Q (F0 m 906 ls []) := by
  have hx := X.1
  have hb := X.2.1
  refine lv_aload_n hx hb dL_law_906 rfl (lv_at hl 1 rfl) ?_
  have hJ : JG E B s (upC g g.2.1) H locs := hJ
  refine kL_108 X hJ (mX6_wipe l E B g g.2.1) rfl (by omega) pcT_0 hl.1 ⟨Nat.le_of_ble_eq_true rfl, Nat.le_of_ble_eq_true rfl⟩ ⟨Nat.le_of_ble_eq_true rfl, Nat.le_of_ble_eq_true rfl⟩ (rest := []) rfl (Nat.le_of_ble_eq_true rfl) dL_law_907 (fun H locs hJ => ?_)
  refine lv_aload_n hx hb dL_law_910 rfl (lv_at hl 2 rfl) ?_
  have hJ : JG E B s (upR (upC g (sX6_wipe g.2.1).2) g.2.2.2) H locs := hJ
  refine kL_112 X hJ (mX7_wipe l E B (upC g (sX6_wipe g.2.1).2) g.2.2.2) rfl (by omega) pcT_459 hl.1 ⟨Nat.le_of_ble_eq_true rfl, Nat.le_of_ble_eq_true rfl⟩ ⟨Nat.le_of_ble_eq_true rfl, Nat.le_of_ble_eq_true rfl⟩ (rest := [.int (sX6_wipe g.2.1).1]) rfl (Nat.le_of_ble_eq_true rfl) dL_law_911 (fun H locs hJ => ?_)
  have ok := wipe_ok hR
  refine lv_icmp_eq (tgt := 1004) hx hb dL_law_914 (by decide) (fun q => ?_) (fun q => ?_)
  · exact next _ _ _ ok.2 hJ
  · exact absurd ok.1 q
set_option maxHeartbeats 4000000 in
set_option maxRecDepth 100000 in
theorem lc_fault {b L i : Nat} {xs : Nat → Int32} {g : GS} (X : Cx p s m #[Value.ref b] c code 4 RL E B) (hX : va_X b L xs s s.heap) (hbl : b < s.heap.size) (hbB : b < B) (hL : L ≤ 2560) (hi : i + 5 ≤ L) (hl : lv_has ls 4 [(0, .ref b), (1, .ref (B + 0)), (2, .ref (B + 459)), (3, .int (nI i))]) (hR : RG g) (hJ : JG E B s g H locs)
    (next : ∀ (g1 : GS) (H : Heap) (locs : List Loc), RG g1 → JG E B s g1 H locs → W p l e room_1 s m #[Value.ref b] below meth c H locs 464 8551 Q (F0 m 1004 ls [])) : W p l e room_1 s m #[Value.ref b] below meth c H locs 464 8551 Q (F0 m 919 ls []) := by
  have hx := X.1
  have hb := X.2.1
  refine lv_aload_n hx hb dL_law_919 rfl (lv_at hl 1 rfl) ?_
  have hJ : JG E B s (upC g g.2.1) H locs := hJ
  refine kL_113 X hJ (mX6_fault l E B g g.2.1 hR.1.2.1) rfl (by omega) pcT_0 hl.1 ⟨Nat.le_of_ble_eq_true rfl, Nat.le_of_ble_eq_true rfl⟩ ⟨Nat.le_of_ble_eq_true rfl, Nat.le_of_ble_eq_true rfl⟩ (rest := []) rfl (Nat.le_of_ble_eq_true rfl) dL_law_920 (fun H locs hJ => ?_)
  refine lv_aload_n hx hb dL_law_923 rfl (lv_at hl 2 rfl) ?_
  have hJ : JG E B s (upR (upC g (sX6_fault g.2.1).2) g.2.2.2) H locs := hJ
  refine kL_116 X hJ (mX7_fault l E B (upC g (sX6_fault g.2.1).2) g.2.2.2 ⟨hR.2.1.2.1, Nat.zero_le _⟩) rfl (by omega) pcT_459 hl.1 ⟨Nat.le_of_ble_eq_true rfl, Nat.le_of_ble_eq_true rfl⟩ ⟨Nat.le_of_ble_eq_true rfl, Nat.le_of_ble_eq_true rfl⟩ (rest := [.int (sX6_fault g.2.1).1]) rfl (Nat.le_of_ble_eq_true rfl) dL_law_924 (fun H locs hJ => ?_)
  have ok := fault_ok hR
  refine lv_icmp_eq (tgt := 1004) hx hb dL_law_927 (by decide) (fun q => ?_) (fun q => ?_)
  · exact next _ _ _ ok.2 hJ
  · exact absurd ok.1 q
set_option maxHeartbeats 4000000 in
set_option maxRecDepth 100000 in
theorem lc_carryOut {b L i : Nat} {xs : Nat → Int32} {g : GS} (X : Cx p s m #[Value.ref b] c code 4 RL E B) (hX : va_X b L xs s s.heap) (hbl : b < s.heap.size) (hbB : b < B) (hL : L ≤ 2560) (hi : i + 5 ≤ L) (hl : lv_has ls 4 [(0, .ref b), (1, .ref (B + 0)), (2, .ref (B + 459)), (3, .int (nI i))]) (hR : RG g) (hJ : JG E B s g H locs)
    (next : ∀ (g1 : GS) (H : Heap) (locs : List Loc), RG g1 → JG E B s g1 H locs → W p l e room_1 s m #[Value.ref b] below meth c H locs 464 8551 Q (F0 m 1004 ls [])) : W p l e room_1 s m #[Value.ref b] below meth c H locs 464 8551 Q (F0 m 932 ls []) := by
  have hx := X.1
  have hb := X.2.1
  refine lv_aload_n hx hb dL_law_932 rfl (lv_at hl 1 rfl) ?_
  refine kL_117 X hJ (mX6_carryOut l E B g hR.1) rfl (by omega) pcT_0 hl.1 ⟨Nat.le_of_ble_eq_true rfl, Nat.le_of_ble_eq_true rfl⟩ ⟨Nat.le_of_ble_eq_true rfl, Nat.le_of_ble_eq_true rfl⟩ (rest := []) rfl (Nat.le_of_ble_eq_true rfl) dL_law_933 (fun H locs hJ => ?_)
  refine lv_aload_n hx hb dL_law_936 rfl (lv_at hl 2 rfl) ?_
  have ok : OKs g (sX6_carryOut g) (sX7_carryOut (sX6_carryOut g).2) := carryOut_ok hR
  have hgi := gi_of ok.1 hR
  refine kL_120 X hJ (mX7_carryOut l E B _ hgi) rfl (by omega) pcT_459 hl.1 ⟨Nat.le_of_ble_eq_true rfl, Nat.le_of_ble_eq_true rfl⟩ ⟨Nat.le_of_ble_eq_true rfl, Nat.le_of_ble_eq_true rfl⟩ (rest := [.int (sX6_carryOut g).1]) rfl (Nat.le_of_ble_eq_true rfl) dL_law_937 (fun H locs hJ => ?_)
  refine lv_icmp_eq (tgt := 1004) hx hb dL_law_940 (by decide) (fun q => ?_) (fun q => ?_)
  · exact next _ _ _ ok.2.2 hJ
  · exact absurd ok.2.1 q
set_option maxHeartbeats 4000000 in
set_option maxRecDepth 100000 in
theorem lc_undo {b L i : Nat} {xs : Nat → Int32} {g : GS} (X : Cx p s m #[Value.ref b] c code 4 RL E B) (hX : va_X b L xs s s.heap) (hbl : b < s.heap.size) (hbB : b < B) (hL : L ≤ 2560) (hi : i + 5 ≤ L) (hl : lv_has ls 4 [(0, .ref b), (1, .ref (B + 0)), (2, .ref (B + 459)), (3, .int (nI i))]) (hR : RG g) (hJ : JG E B s g H locs)
    (next : ∀ (g1 : GS) (H : Heap) (locs : List Loc), RG g1 → JG E B s g1 H locs → W p l e room_1 s m #[Value.ref b] below meth c H locs 464 8551 Q (F0 m 1004 ls [])) : W p l e room_1 s m #[Value.ref b] below meth c H locs 464 8551 Q (F0 m 945 ls []) := by
  have hx := X.1
  have hb := X.2.1
  refine lv_aload_n hx hb dL_law_945 rfl (lv_at hl 1 rfl) ?_
  refine kL_121 X hJ (mX6_undo l E B g hR.1) rfl (by omega) pcT_0 hl.1 ⟨Nat.le_of_ble_eq_true rfl, Nat.le_of_ble_eq_true rfl⟩ ⟨Nat.le_of_ble_eq_true rfl, Nat.le_of_ble_eq_true rfl⟩ (rest := []) rfl (Nat.le_of_ble_eq_true rfl) dL_law_946 (fun H locs hJ => ?_)
  refine lv_aload_n hx hb dL_law_949 rfl (lv_at hl 2 rfl) ?_
  have ok : OKs g (sX6_undo g) (sX7_undo (sX6_undo g).2) := undo_ok hR
  have hgi := gi_of ok.1 hR
  refine kL_124 X hJ (mX7_undo l E B _ hgi.gm) rfl (by omega) pcT_459 hl.1 ⟨Nat.le_of_ble_eq_true rfl, Nat.le_of_ble_eq_true rfl⟩ ⟨Nat.le_of_ble_eq_true rfl, Nat.le_of_ble_eq_true rfl⟩ (rest := [.int (sX6_undo g).1]) rfl (Nat.le_of_ble_eq_true rfl) dL_law_950 (fun H locs hJ => ?_)
  refine lv_icmp_eq (tgt := 1004) hx hb dL_law_953 (by decide) (fun q => ?_) (fun q => ?_)
  · exact next _ _ _ ok.2.2 hJ
  · exact absurd ok.2.1 q
set_option maxHeartbeats 4000000 in
set_option maxRecDepth 100000 in
theorem lc_save {b L i : Nat} {xs : Nat → Int32} {g : GS} (X : Cx p s m #[Value.ref b] c code 4 RL E B) (hX : va_X b L xs s s.heap) (hbl : b < s.heap.size) (hbB : b < B) (hL : L ≤ 2560) (hi : i + 5 ≤ L) (hl : lv_has ls 4 [(0, .ref b), (1, .ref (B + 0)), (2, .ref (B + 459)), (3, .int (nI i))]) (hR : RG g) (hJ : JG E B s g H locs)
    (next : ∀ (g1 : GS) (H : Heap) (locs : List Loc), RG g1 → JG E B s g1 H locs → W p l e room_1 s m #[Value.ref b] below meth c H locs 464 8551 Q (F0 m 1004 ls [])) : W p l e room_1 s m #[Value.ref b] below meth c H locs 464 8551 Q (F0 m 958 ls []) := by
  have hx := X.1
  have hb := X.2.1
  refine lv_aload_n hx hb dL_law_958 rfl (lv_at hl 1 rfl) ?_
  refine relem X hJ hX hbl hbB hL hl (k := 1) (by omega) (by decide) dL_law_959 dL_law_960 dL_law_961 dL_law_962 dL_law_963 ?_
  refine kL_125 X hJ (mX6_save l E B g (xs (i + 1)) hR.1) rfl (by omega) pcT_0 hl.1 ⟨Nat.le_of_ble_eq_true rfl, Nat.le_of_ble_eq_true rfl⟩ ⟨Nat.le_of_ble_eq_true rfl, Nat.le_of_ble_eq_true rfl⟩ (rest := []) rfl (Nat.le_of_ble_eq_true rfl) dL_law_964 (fun H locs hJ => ?_)
  refine lv_aload_n hx hb dL_law_967 rfl (lv_at hl 2 rfl) ?_
  refine relem X hJ hX hbl hbB hL hl (k := 1) (by omega) (by decide) dL_law_968 dL_law_969 dL_law_970 dL_law_971 dL_law_972 ?_
  have ok : OKs g (sX6_save g (xs (i + 1))) (sX7_save (sX6_save g (xs (i + 1))).2 (xs (i + 1))) := save_ok hR
  have hgi := gi_of ok.1 hR
  refine kL_128 X hJ (mX7_save l E B _ (xs (i + 1)) hgi.gm) rfl (by omega) pcT_459 hl.1 ⟨Nat.le_of_ble_eq_true rfl, Nat.le_of_ble_eq_true rfl⟩ ⟨Nat.le_of_ble_eq_true rfl, Nat.le_of_ble_eq_true rfl⟩ (rest := [.int (sX6_save g (xs (i + 1))).1]) rfl (Nat.le_of_ble_eq_true rfl) dL_law_973 (fun H locs hJ => ?_)
  refine lv_icmp_eq (tgt := 1004) hx hb dL_law_976 (by decide) (fun q => ?_) (fun q => ?_)
  · exact next _ _ _ ok.2.2 hJ
  · exact absurd ok.2.1 q
set_option maxHeartbeats 4000000 in
set_option maxRecDepth 100000 in
theorem lc_restore {b L i : Nat} {xs : Nat → Int32} {g : GS} (X : Cx p s m #[Value.ref b] c code 4 RL E B) (hX : va_X b L xs s s.heap) (hbl : b < s.heap.size) (hbB : b < B) (hL : L ≤ 2560) (hi : i + 5 ≤ L) (hl : lv_has ls 4 [(0, .ref b), (1, .ref (B + 0)), (2, .ref (B + 459)), (3, .int (nI i))]) (hR : RG g) (hJ : JG E B s g H locs)
    (next : ∀ (g1 : GS) (H : Heap) (locs : List Loc), RG g1 → JG E B s g1 H locs → W p l e room_1 s m #[Value.ref b] below meth c H locs 464 8551 Q (F0 m 1004 ls [])) : W p l e room_1 s m #[Value.ref b] below meth c H locs 464 8551 Q (F0 m 981 ls []) := by
  have hx := X.1
  have hb := X.2.1
  refine lv_aload_n hx hb dL_law_981 rfl (lv_at hl 1 rfl) ?_
  refine relem X hJ hX hbl hbB hL hl (k := 1) (by omega) (by decide) dL_law_982 dL_law_983 dL_law_984 dL_law_985 dL_law_986 ?_
  refine kL_129 X hJ (mX6_restore l E B g (xs (i + 1)) hR.1) rfl (by omega) pcT_0 hl.1 ⟨Nat.le_of_ble_eq_true rfl, Nat.le_of_ble_eq_true rfl⟩ ⟨Nat.le_of_ble_eq_true rfl, Nat.le_of_ble_eq_true rfl⟩ (rest := []) rfl (Nat.le_of_ble_eq_true rfl) dL_law_987 (fun H locs hJ => ?_)
  refine lv_aload_n hx hb dL_law_990 rfl (lv_at hl 2 rfl) ?_
  refine relem X hJ hX hbl hbB hL hl (k := 1) (by omega) (by decide) dL_law_991 dL_law_992 dL_law_993 dL_law_994 dL_law_995 ?_
  have ok : OKs g (sX6_restore g (xs (i + 1))) (sX7_restore (sX6_restore g (xs (i + 1))).2 (xs (i + 1))) := restore_ok hR
  have hgi := gi_of ok.1 hR
  refine kL_132 X hJ (mX7_restore l E B _ (xs (i + 1)) hgi.gm) rfl (by omega) pcT_459 hl.1 ⟨Nat.le_of_ble_eq_true rfl, Nat.le_of_ble_eq_true rfl⟩ ⟨Nat.le_of_ble_eq_true rfl, Nat.le_of_ble_eq_true rfl⟩ (rest := [.int (sX6_restore g (xs (i + 1))).1]) rfl (Nat.le_of_ble_eq_true rfl) dL_law_996 (fun H locs hJ => ?_)
  refine lv_icmp_eq (tgt := 1004) hx hb dL_law_999 (by decide) (fun q => ?_) (fun q => ?_)
  · exact next _ _ _ ok.2.2 hJ
  · exact absurd ok.2.1 q
end LC4
