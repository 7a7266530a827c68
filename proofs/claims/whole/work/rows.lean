section
-- ===== PART A: goes FIRST, ahead of the names: the tables' words, and 'selects' of the private methods out of them =====
/-- a private method of a class that the tables say can be made, by its rows of tables_1 -/
def lw_okq (q : MethodName × Nat) : Prop := (q.1.cls ≠ "java/lang/invoke/MethodHandle" ∧ q.1.cls ≠ "java/lang/invoke/VarHandle") ∧ Cond.instantiable q.1.cls q.2 ∈ tables_1 ∧ Cond.privateMethod q.1 ∈ tables_1 ∧ Cond.instanceMethod q.1 ∈ tables_1
theorem lw_p0 : lw_okq (⟨"BridgeWardens", "recorded", "(I)I"⟩, 7) := ⟨⟨by decide +kernel, by decide +kernel⟩, List.mem_of_getElem? (i := 12) (by decide +kernel), List.mem_of_getElem? (i := 286) (by decide +kernel), List.mem_of_getElem? (i := 287) (by decide +kernel)⟩
theorem lw_p1 : lw_okq (⟨"BridgeWardens$World", "drawRiddle", "(LBridgeWardens$Bridge;)V"⟩, 11) := ⟨⟨by decide +kernel, by decide +kernel⟩, List.mem_of_getElem? (i := 20) (by decide +kernel), List.mem_of_getElem? (i := 305) (by decide +kernel), List.mem_of_getElem? (i := 306) (by decide +kernel)⟩
theorem lw_p2 : lw_okq (⟨"BridgeWardens$World", "release", "(LBridgeWardens$Cart;LBridgeWardens$Bridge;)V"⟩, 11) := ⟨⟨by decide +kernel, by decide +kernel⟩, List.mem_of_getElem? (i := 20) (by decide +kernel), List.mem_of_getElem? (i := 358) (by decide +kernel), List.mem_of_getElem? (i := 359) (by decide +kernel)⟩
theorem lw_p3 : lw_okq (⟨"BridgeWardens$World", "letOver", "(LBridgeWardens$Bridge;)I"⟩, 11) := ⟨⟨by decide +kernel, by decide +kernel⟩, List.mem_of_getElem? (i := 20) (by decide +kernel), List.mem_of_getElem? (i := 402) (by decide +kernel), List.mem_of_getElem? (i := 403) (by decide +kernel)⟩
theorem lw_p4 : lw_okq (⟨"BridgeWardens$World", "isTied", "(LBridgeWardens$Bridge;)Z"⟩, 11) := ⟨⟨by decide +kernel, by decide +kernel⟩, List.mem_of_getElem? (i := 20) (by decide +kernel), List.mem_of_getElem? (i := 406) (by decide +kernel), List.mem_of_getElem? (i := 407) (by decide +kernel)⟩
theorem lw_p5 : lw_okq (⟨"BridgeWardens$World", "payerOfTie", "(LBridgeWardens$Cart;LBridgeWardens$Cart;)LBridgeWardens$Cart;"⟩, 11) := ⟨⟨by decide +kernel, by decide +kernel⟩, List.mem_of_getElem? (i := 20) (by decide +kernel), List.mem_of_getElem? (i := 425) (by decide +kernel), List.mem_of_getElem? (i := 426) (by decide +kernel)⟩
theorem lw_p6 : lw_okq (⟨"BridgeWardens", "appendNote", "(LBridgeWardens$Cart;)V"⟩, 7) := ⟨⟨by decide +kernel, by decide +kernel⟩, List.mem_of_getElem? (i := 12) (by decide +kernel), List.mem_of_getElem? (i := 448) (by decide +kernel), List.mem_of_getElem? (i := 449) (by decide +kernel)⟩
theorem lw_p7 : lw_okq (⟨"BridgeWardens$World", "sumOverBridges", "(I)I"⟩, 11) := ⟨⟨by decide +kernel, by decide +kernel⟩, List.mem_of_getElem? (i := 20) (by decide +kernel), List.mem_of_getElem? (i := 515) (by decide +kernel), List.mem_of_getElem? (i := 516) (by decide +kernel)⟩
theorem lw_p8 : lw_okq (⟨"BridgeWardens$World", "withNeighbours", "(I)I"⟩, 11) := ⟨⟨by decide +kernel, by decide +kernel⟩, List.mem_of_getElem? (i := 20) (by decide +kernel), List.mem_of_getElem? (i := 568) (by decide +kernel), List.mem_of_getElem? (i := 569) (by decide +kernel)⟩
theorem lw_p9 : lw_okq (⟨"BridgeWardens$OrderReader", "readDigitPair", "()Z"⟩, 6) := ⟨⟨by decide +kernel, by decide +kernel⟩, List.mem_of_getElem? (i := 203) (by decide +kernel), List.mem_of_getElem? (i := 618) (by decide +kernel), List.mem_of_getElem? (i := 619) (by decide +kernel)⟩
theorem lw_p10 : lw_okq (⟨"BridgeWardens$OrderReader", "readDigit", "()Z"⟩, 6) := ⟨⟨by decide +kernel, by decide +kernel⟩, List.mem_of_getElem? (i := 203) (by decide +kernel), List.mem_of_getElem? (i := 622) (by decide +kernel), List.mem_of_getElem? (i := 623) (by decide +kernel)⟩
theorem lw_p11 : lw_okq (⟨"BridgeWardens$OrderReader", "nextDigit", "()I"⟩, 6) := ⟨⟨by decide +kernel, by decide +kernel⟩, List.mem_of_getElem? (i := 203) (by decide +kernel), List.mem_of_getElem? (i := 626) (by decide +kernel), List.mem_of_getElem? (i := 627) (by decide +kernel)⟩
theorem lw_p12 : lw_okq (⟨"BridgeWardens$OrderReader", "readThird", "()Z"⟩, 6) := ⟨⟨by decide +kernel, by decide +kernel⟩, List.mem_of_getElem? (i := 203) (by decide +kernel), List.mem_of_getElem? (i := 634) (by decide +kernel), List.mem_of_getElem? (i := 635) (by decide +kernel)⟩
theorem lw_p13 : lw_okq (⟨"BridgeWardens$OrderReader", "readNumber", "()I"⟩, 6) := ⟨⟨by decide +kernel, by decide +kernel⟩, List.mem_of_getElem? (i := 203) (by decide +kernel), List.mem_of_getElem? (i := 638) (by decide +kernel), List.mem_of_getElem? (i := 639) (by decide +kernel)⟩
theorem lw_p14 : lw_okq (⟨"BridgeWardens$OrderReader", "readSecond", "()Z"⟩, 6) := ⟨⟨by decide +kernel, by decide +kernel⟩, List.mem_of_getElem? (i := 203) (by decide +kernel), List.mem_of_getElem? (i := 642) (by decide +kernel), List.mem_of_getElem? (i := 643) (by decide +kernel)⟩
theorem lw_p15 : lw_okq (⟨"BridgeWardens", "obey", "()I"⟩, 7) := ⟨⟨by decide +kernel, by decide +kernel⟩, List.mem_of_getElem? (i := 12) (by decide +kernel), List.mem_of_getElem? (i := 652) (by decide +kernel), List.mem_of_getElem? (i := 653) (by decide +kernel)⟩
def lw_privs_1 : List (MethodName × Nat) := [(⟨"BridgeWardens", "recorded", "(I)I"⟩, 7), (⟨"BridgeWardens$World", "drawRiddle", "(LBridgeWardens$Bridge;)V"⟩, 11), (⟨"BridgeWardens$World", "release", "(LBridgeWardens$Cart;LBridgeWardens$Bridge;)V"⟩, 11), (⟨"BridgeWardens$World", "letOver", "(LBridgeWardens$Bridge;)I"⟩, 11), (⟨"BridgeWardens$World", "isTied", "(LBridgeWardens$Bridge;)Z"⟩, 11), (⟨"BridgeWardens$World", "payerOfTie", "(LBridgeWardens$Cart;LBridgeWardens$Cart;)LBridgeWardens$Cart;"⟩, 11), (⟨"BridgeWardens", "appendNote", "(LBridgeWardens$Cart;)V"⟩, 7), (⟨"BridgeWardens$World", "sumOverBridges", "(I)I"⟩, 11), (⟨"BridgeWardens$World", "withNeighbours", "(I)I"⟩, 11), (⟨"BridgeWardens$OrderReader", "readDigitPair", "()Z"⟩, 6), (⟨"BridgeWardens$OrderReader", "readDigit", "()Z"⟩, 6), (⟨"BridgeWardens$OrderReader", "nextDigit", "()I"⟩, 6), (⟨"BridgeWardens$OrderReader", "readThird", "()Z"⟩, 6), (⟨"BridgeWardens$OrderReader", "readNumber", "()I"⟩, 6), (⟨"BridgeWardens$OrderReader", "readSecond", "()Z"⟩, 6), (⟨"BridgeWardens", "obey", "()I"⟩, 7)]
theorem lw_r1 : ∀ q ∈ lw_privs_1, lw_okq q := List.forall_mem_cons.mpr ⟨lw_p0, List.forall_mem_cons.mpr ⟨lw_p1, List.forall_mem_cons.mpr ⟨lw_p2, List.forall_mem_cons.mpr ⟨lw_p3, List.forall_mem_cons.mpr ⟨lw_p4, List.forall_mem_cons.mpr ⟨lw_p5, List.forall_mem_cons.mpr ⟨lw_p6, List.forall_mem_cons.mpr ⟨lw_p7, List.forall_mem_cons.mpr ⟨lw_p8, List.forall_mem_cons.mpr ⟨lw_p9, List.forall_mem_cons.mpr ⟨lw_p10, List.forall_mem_cons.mpr ⟨lw_p11, List.forall_mem_cons.mpr ⟨lw_p12, List.forall_mem_cons.mpr ⟨lw_p13, List.forall_mem_cons.mpr ⟨lw_p14, List.forall_mem_cons.mpr ⟨lw_p15, fun _ h => absurd h List.not_mem_nil⟩⟩⟩⟩⟩⟩⟩⟩⟩⟩⟩⟩⟩⟩⟩⟩
theorem lw_p16 : lw_okq (⟨"BridgeWardensModel", "changes", "()V"⟩, 11) := ⟨⟨by decide +kernel, by decide +kernel⟩, List.mem_of_getElem? (i := 673) (by decide +kernel), List.mem_of_getElem? (i := 725) (by decide +kernel), List.mem_of_getElem? (i := 726) (by decide +kernel)⟩
theorem lw_p17 : lw_okq (⟨"BridgeWardensModel", "copies", "(II)V"⟩, 11) := ⟨⟨by decide +kernel, by decide +kernel⟩, List.mem_of_getElem? (i := 673) (by decide +kernel), List.mem_of_getElem? (i := 729) (by decide +kernel), List.mem_of_getElem? (i := 730) (by decide +kernel)⟩
theorem lw_p18 : lw_okq (⟨"BridgeWardensModel", "bridgeError", "(III)I"⟩, 11) := ⟨⟨by decide +kernel, by decide +kernel⟩, List.mem_of_getElem? (i := 673) (by decide +kernel), List.mem_of_getElem? (i := 737) (by decide +kernel), List.mem_of_getElem? (i := 738) (by decide +kernel)⟩
theorem lw_p19 : lw_okq (⟨"BridgeWardensModel", "builds", "(III)I"⟩, 11) := ⟨⟨by decide +kernel, by decide +kernel⟩, List.mem_of_getElem? (i := 673) (by decide +kernel), List.mem_of_getElem? (i := 747) (by decide +kernel), List.mem_of_getElem? (i := 748) (by decide +kernel)⟩
theorem lw_p20 : lw_okq (⟨"BridgeWardensModel", "draws", "(II)V"⟩, 11) := ⟨⟨by decide +kernel, by decide +kernel⟩, List.mem_of_getElem? (i := 673) (by decide +kernel), List.mem_of_getElem? (i := 754) (by decide +kernel), List.mem_of_getElem? (i := 755) (by decide +kernel)⟩
theorem lw_p21 : lw_okq (⟨"BridgeWardensModel", "cartError", "(II)I"⟩, 11) := ⟨⟨by decide +kernel, by decide +kernel⟩, List.mem_of_getElem? (i := 673) (by decide +kernel), List.mem_of_getElem? (i := 766) (by decide +kernel), List.mem_of_getElem? (i := 767) (by decide +kernel)⟩
theorem lw_p22 : lw_okq (⟨"BridgeWardensModel", "comes", "(II)I"⟩, 11) := ⟨⟨by decide +kernel, by decide +kernel⟩, List.mem_of_getElem? (i := 673) (by decide +kernel), List.mem_of_getElem? (i := 771) (by decide +kernel), List.mem_of_getElem? (i := 772) (by decide +kernel)⟩
theorem lw_p23 : lw_okq (⟨"BridgeWardensModel", "guessError", "(III)I"⟩, 11) := ⟨⟨by decide +kernel, by decide +kernel⟩, List.mem_of_getElem? (i := 673) (by decide +kernel), List.mem_of_getElem? (i := 782) (by decide +kernel), List.mem_of_getElem? (i := 783) (by decide +kernel)⟩
theorem lw_p24 : lw_okq (⟨"BridgeWardensModel", "isCart", "(I)Z"⟩, 11) := ⟨⟨by decide +kernel, by decide +kernel⟩, List.mem_of_getElem? (i := 673) (by decide +kernel), List.mem_of_getElem? (i := 786) (by decide +kernel), List.mem_of_getElem? (i := 787) (by decide +kernel)⟩
theorem lw_p25 : lw_okq (⟨"BridgeWardensModel", "isBridge", "(I)Z"⟩, 11) := ⟨⟨by decide +kernel, by decide +kernel⟩, List.mem_of_getElem? (i := 673) (by decide +kernel), List.mem_of_getElem? (i := 790) (by decide +kernel), List.mem_of_getElem? (i := 791) (by decide +kernel)⟩
theorem lw_p26 : lw_okq (⟨"BridgeWardensModel", "isNumber", "(II)Z"⟩, 11) := ⟨⟨by decide +kernel, by decide +kernel⟩, List.mem_of_getElem? (i := 673) (by decide +kernel), List.mem_of_getElem? (i := 794) (by decide +kernel), List.mem_of_getElem? (i := 795) (by decide +kernel)⟩
theorem lw_p27 : lw_okq (⟨"BridgeWardensModel", "isAt", "(III)Z"⟩, 11) := ⟨⟨by decide +kernel, by decide +kernel⟩, List.mem_of_getElem? (i := 673) (by decide +kernel), List.mem_of_getElem? (i := 798) (by decide +kernel), List.mem_of_getElem? (i := 799) (by decide +kernel)⟩
theorem lw_p28 : lw_okq (⟨"BridgeWardensModel", "guesses", "(III)I"⟩, 11) := ⟨⟨by decide +kernel, by decide +kernel⟩, List.mem_of_getElem? (i := 673) (by decide +kernel), List.mem_of_getElem? (i := 802) (by decide +kernel), List.mem_of_getElem? (i := 803) (by decide +kernel)⟩
theorem lw_p29 : lw_okq (⟨"BridgeWardensModel", "many", "(II)I"⟩, 11) := ⟨⟨by decide +kernel, by decide +kernel⟩, List.mem_of_getElem? (i := 673) (by decide +kernel), List.mem_of_getElem? (i := 806) (by decide +kernel), List.mem_of_getElem? (i := 807) (by decide +kernel)⟩
theorem lw_p30 : lw_okq (⟨"BridgeWardensModel", "leaveError", "(I)I"⟩, 11) := ⟨⟨by decide +kernel, by decide +kernel⟩, List.mem_of_getElem? (i := 673) (by decide +kernel), List.mem_of_getElem? (i := 814) (by decide +kernel), List.mem_of_getElem? (i := 815) (by decide +kernel)⟩
theorem lw_p31 : lw_okq (⟨"BridgeWardensModel", "leaves", "(I)I"⟩, 11) := ⟨⟨by decide +kernel, by decide +kernel⟩, List.mem_of_getElem? (i := 673) (by decide +kernel), List.mem_of_getElem? (i := 818) (by decide +kernel), List.mem_of_getElem? (i := 819) (by decide +kernel)⟩
def lw_privs_2 : List (MethodName × Nat) := [(⟨"BridgeWardensModel", "changes", "()V"⟩, 11), (⟨"BridgeWardensModel", "copies", "(II)V"⟩, 11), (⟨"BridgeWardensModel", "bridgeError", "(III)I"⟩, 11), (⟨"BridgeWardensModel", "builds", "(III)I"⟩, 11), (⟨"BridgeWardensModel", "draws", "(II)V"⟩, 11), (⟨"BridgeWardensModel", "cartError", "(II)I"⟩, 11), (⟨"BridgeWardensModel", "comes", "(II)I"⟩, 11), (⟨"BridgeWardensModel", "guessError", "(III)I"⟩, 11), (⟨"BridgeWardensModel", "isCart", "(I)Z"⟩, 11), (⟨"BridgeWardensModel", "isBridge", "(I)Z"⟩, 11), (⟨"BridgeWardensModel", "isNumber", "(II)Z"⟩, 11), (⟨"BridgeWardensModel", "isAt", "(III)Z"⟩, 11), (⟨"BridgeWardensModel", "guesses", "(III)I"⟩, 11), (⟨"BridgeWardensModel", "many", "(II)I"⟩, 11), (⟨"BridgeWardensModel", "leaveError", "(I)I"⟩, 11), (⟨"BridgeWardensModel", "leaves", "(I)I"⟩, 11)]
theorem lw_r2 : ∀ q ∈ lw_privs_2, lw_okq q := List.forall_mem_cons.mpr ⟨lw_p16, List.forall_mem_cons.mpr ⟨lw_p17, List.forall_mem_cons.mpr ⟨lw_p18, List.forall_mem_cons.mpr ⟨lw_p19, List.forall_mem_cons.mpr ⟨lw_p20, List.forall_mem_cons.mpr ⟨lw_p21, List.forall_mem_cons.mpr ⟨lw_p22, List.forall_mem_cons.mpr ⟨lw_p23, List.forall_mem_cons.mpr ⟨lw_p24, List.forall_mem_cons.mpr ⟨lw_p25, List.forall_mem_cons.mpr ⟨lw_p26, List.forall_mem_cons.mpr ⟨lw_p27, List.forall_mem_cons.mpr ⟨lw_p28, List.forall_mem_cons.mpr ⟨lw_p29, List.forall_mem_cons.mpr ⟨lw_p30, List.forall_mem_cons.mpr ⟨lw_p31, fun _ h => absurd h List.not_mem_nil⟩⟩⟩⟩⟩⟩⟩⟩⟩⟩⟩⟩⟩⟩⟩⟩
theorem lw_p32 : lw_okq (⟨"BridgeWardensModel", "stopsWaiting", "(II)V"⟩, 11) := ⟨⟨by decide +kernel, by decide +kernel⟩, List.mem_of_getElem? (i := 673) (by decide +kernel), List.mem_of_getElem? (i := 822) (by decide +kernel), List.mem_of_getElem? (i := 823) (by decide +kernel)⟩
theorem lw_p33 : lw_okq (⟨"BridgeWardensModel", "hintError", "(II)I"⟩, 11) := ⟨⟨by decide +kernel, by decide +kernel⟩, List.mem_of_getElem? (i := 673) (by decide +kernel), List.mem_of_getElem? (i := 830) (by decide +kernel), List.mem_of_getElem? (i := 831) (by decide +kernel)⟩
theorem lw_p34 : lw_okq (⟨"BridgeWardensModel", "hints", "(II)I"⟩, 11) := ⟨⟨by decide +kernel, by decide +kernel⟩, List.mem_of_getElem? (i := 673) (by decide +kernel), List.mem_of_getElem? (i := 834) (by decide +kernel), List.mem_of_getElem? (i := 835) (by decide +kernel)⟩
theorem lw_p35 : lw_okq (⟨"BridgeWardensModel", "pays", "(IIII)V"⟩, 11) := ⟨⟨by decide +kernel, by decide +kernel⟩, List.mem_of_getElem? (i := 673) (by decide +kernel), List.mem_of_getElem? (i := 838) (by decide +kernel), List.mem_of_getElem? (i := 839) (by decide +kernel)⟩
theorem lw_p36 : lw_okq (⟨"BridgeWardensModel", "passError", "(I)I"⟩, 11) := ⟨⟨by decide +kernel, by decide +kernel⟩, List.mem_of_getElem? (i := 673) (by decide +kernel), List.mem_of_getElem? (i := 846) (by decide +kernel), List.mem_of_getElem? (i := 847) (by decide +kernel)⟩
theorem lw_p37 : lw_okq (⟨"BridgeWardensModel", "hours", "(II)I"⟩, 11) := ⟨⟨by decide +kernel, by decide +kernel⟩, List.mem_of_getElem? (i := 673) (by decide +kernel), List.mem_of_getElem? (i := 851) (by decide +kernel), List.mem_of_getElem? (i := 852) (by decide +kernel)⟩
theorem lw_p38 : lw_okq (⟨"BridgeWardensModel", "hour", "(I)I"⟩, 11) := ⟨⟨by decide +kernel, by decide +kernel⟩, List.mem_of_getElem? (i := 673) (by decide +kernel), List.mem_of_getElem? (i := 855) (by decide +kernel), List.mem_of_getElem? (i := 856) (by decide +kernel)⟩
theorem lw_p39 : lw_okq (⟨"BridgeWardensModel", "opens", "(II)Z"⟩, 11) := ⟨⟨by decide +kernel, by decide +kernel⟩, List.mem_of_getElem? (i := 673) (by decide +kernel), List.mem_of_getElem? (i := 859) (by decide +kernel), List.mem_of_getElem? (i := 860) (by decide +kernel)⟩
theorem lw_p40 : lw_okq (⟨"BridgeWardensModel", "areAsNear", "(II)Z"⟩, 11) := ⟨⟨by decide +kernel, by decide +kernel⟩, List.mem_of_getElem? (i := 673) (by decide +kernel), List.mem_of_getElem? (i := 863) (by decide +kernel), List.mem_of_getElem? (i := 864) (by decide +kernel)⟩
theorem lw_p41 : lw_okq (⟨"BridgeWardensModel", "waiter", "(III)I"⟩, 11) := ⟨⟨by decide +kernel, by decide +kernel⟩, List.mem_of_getElem? (i := 673) (by decide +kernel), List.mem_of_getElem? (i := 867) (by decide +kernel), List.mem_of_getElem? (i := 868) (by decide +kernel)⟩
theorem lw_p42 : lw_okq (⟨"BridgeWardensModel", "far", "(II)I"⟩, 11) := ⟨⟨by decide +kernel, by decide +kernel⟩, List.mem_of_getElem? (i := 673) (by decide +kernel), List.mem_of_getElem? (i := 871) (by decide +kernel), List.mem_of_getElem? (i := 872) (by decide +kernel)⟩
theorem lw_p43 : lw_okq (⟨"BridgeWardensModel", "comer", "(II)I"⟩, 11) := ⟨⟨by decide +kernel, by decide +kernel⟩, List.mem_of_getElem? (i := 673) (by decide +kernel), List.mem_of_getElem? (i := 878) (by decide +kernel), List.mem_of_getElem? (i := 879) (by decide +kernel)⟩
theorem lw_p44 : lw_okq (⟨"BridgeWardensModel", "types", "(I)V"⟩, 11) := ⟨⟨by decide +kernel, by decide +kernel⟩, List.mem_of_getElem? (i := 673) (by decide +kernel), List.mem_of_getElem? (i := 886) (by decide +kernel), List.mem_of_getElem? (i := 887) (by decide +kernel)⟩
theorem lw_p45 : lw_okq (⟨"BridgeWardensModel", "typesNumber", "(I)V"⟩, 11) := ⟨⟨by decide +kernel, by decide +kernel⟩, List.mem_of_getElem? (i := 673) (by decide +kernel), List.mem_of_getElem? (i := 890) (by decide +kernel), List.mem_of_getElem? (i := 891) (by decide +kernel)⟩
theorem lw_p46 : lw_okq (⟨"BridgeWardensModel", "waitingSet", "(I)I"⟩, 11) := ⟨⟨by decide +kernel, by decide +kernel⟩, List.mem_of_getElem? (i := 673) (by decide +kernel), List.mem_of_getElem? (i := 919) (by decide +kernel), List.mem_of_getElem? (i := 920) (by decide +kernel)⟩
theorem lw_p47 : lw_okq (⟨"BridgeWardensModel", "ofCarts", "(II)I"⟩, 11) := ⟨⟨by decide +kernel, by decide +kernel⟩, List.mem_of_getElem? (i := 673) (by decide +kernel), List.mem_of_getElem? (i := 923) (by decide +kernel), List.mem_of_getElem? (i := 924) (by decide +kernel)⟩
def lw_privs_3 : List (MethodName × Nat) := [(⟨"BridgeWardensModel", "stopsWaiting", "(II)V"⟩, 11), (⟨"BridgeWardensModel", "hintError", "(II)I"⟩, 11), (⟨"BridgeWardensModel", "hints", "(II)I"⟩, 11), (⟨"BridgeWardensModel", "pays", "(IIII)V"⟩, 11), (⟨"BridgeWardensModel", "passError", "(I)I"⟩, 11), (⟨"BridgeWardensModel", "hours", "(II)I"⟩, 11), (⟨"BridgeWardensModel", "hour", "(I)I"⟩, 11), (⟨"BridgeWardensModel", "opens", "(II)Z"⟩, 11), (⟨"BridgeWardensModel", "areAsNear", "(II)Z"⟩, 11), (⟨"BridgeWardensModel", "waiter", "(III)I"⟩, 11), (⟨"BridgeWardensModel", "far", "(II)I"⟩, 11), (⟨"BridgeWardensModel", "comer", "(II)I"⟩, 11), (⟨"BridgeWardensModel", "types", "(I)V"⟩, 11), (⟨"BridgeWardensModel", "typesNumber", "(I)V"⟩, 11), (⟨"BridgeWardensModel", "waitingSet", "(I)I"⟩, 11), (⟨"BridgeWardensModel", "ofCarts", "(II)I"⟩, 11)]
theorem lw_r3 : ∀ q ∈ lw_privs_3, lw_okq q := List.forall_mem_cons.mpr ⟨lw_p32, List.forall_mem_cons.mpr ⟨lw_p33, List.forall_mem_cons.mpr ⟨lw_p34, List.forall_mem_cons.mpr ⟨lw_p35, List.forall_mem_cons.mpr ⟨lw_p36, List.forall_mem_cons.mpr ⟨lw_p37, List.forall_mem_cons.mpr ⟨lw_p38, List.forall_mem_cons.mpr ⟨lw_p39, List.forall_mem_cons.mpr ⟨lw_p40, List.forall_mem_cons.mpr ⟨lw_p41, List.forall_mem_cons.mpr ⟨lw_p42, List.forall_mem_cons.mpr ⟨lw_p43, List.forall_mem_cons.mpr ⟨lw_p44, List.forall_mem_cons.mpr ⟨lw_p45, List.forall_mem_cons.mpr ⟨lw_p46, List.forall_mem_cons.mpr ⟨lw_p47, fun _ h => absurd h List.not_mem_nil⟩⟩⟩⟩⟩⟩⟩⟩⟩⟩⟩⟩⟩⟩⟩⟩
theorem lw_p48 : lw_okq (⟨"BridgeWardensModel", "inTills", "()I"⟩, 11) := ⟨⟨by decide +kernel, by decide +kernel⟩, List.mem_of_getElem? (i := 673) (by decide +kernel), List.mem_of_getElem? (i := 927) (by decide +kernel), List.mem_of_getElem? (i := 928) (by decide +kernel)⟩
theorem lw_p49 : lw_okq (⟨"BridgeWardensModel", "measures", "(I)V"⟩, 11) := ⟨⟨by decide +kernel, by decide +kernel⟩, List.mem_of_getElem? (i := 673) (by decide +kernel), List.mem_of_getElem? (i := 958) (by decide +kernel), List.mem_of_getElem? (i := 959) (by decide +kernel)⟩
theorem lw_p50 : lw_okq (⟨"BridgeWardensModel", "firstBridge", "(I)I"⟩, 11) := ⟨⟨by decide +kernel, by decide +kernel⟩, List.mem_of_getElem? (i := 673) (by decide +kernel), List.mem_of_getElem? (i := 962) (by decide +kernel), List.mem_of_getElem? (i := 963) (by decide +kernel)⟩
theorem lw_p51 : lw_okq (⟨"BridgeWardensModel", "readsOrder", "()Z"⟩, 11) := ⟨⟨by decide +kernel, by decide +kernel⟩, List.mem_of_getElem? (i := 673) (by decide +kernel), List.mem_of_getElem? (i := 989) (by decide +kernel), List.mem_of_getElem? (i := 990) (by decide +kernel)⟩
theorem lw_p52 : lw_okq (⟨"BridgeWardensModel", "readsOne", "()Z"⟩, 11) := ⟨⟨by decide +kernel, by decide +kernel⟩, List.mem_of_getElem? (i := 673) (by decide +kernel), List.mem_of_getElem? (i := 993) (by decide +kernel), List.mem_of_getElem? (i := 994) (by decide +kernel)⟩
theorem lw_p53 : lw_okq (⟨"BridgeWardensModel", "digit", "()I"⟩, 11) := ⟨⟨by decide +kernel, by decide +kernel⟩, List.mem_of_getElem? (i := 673) (by decide +kernel), List.mem_of_getElem? (i := 997) (by decide +kernel), List.mem_of_getElem? (i := 998) (by decide +kernel)⟩
theorem lw_p54 : lw_okq (⟨"BridgeWardensModel", "isHere", "(II)Z"⟩, 11) := ⟨⟨by decide +kernel, by decide +kernel⟩, List.mem_of_getElem? (i := 673) (by decide +kernel), List.mem_of_getElem? (i := 1001) (by decide +kernel), List.mem_of_getElem? (i := 1002) (by decide +kernel)⟩
theorem lw_p55 : lw_okq (⟨"BridgeWardensModel", "readsTwo", "(Z)Z"⟩, 11) := ⟨⟨by decide +kernel, by decide +kernel⟩, List.mem_of_getElem? (i := 673) (by decide +kernel), List.mem_of_getElem? (i := 1005) (by decide +kernel), List.mem_of_getElem? (i := 1006) (by decide +kernel)⟩
theorem lw_p56 : lw_okq (⟨"BridgeWardensModel", "number", "()I"⟩, 11) := ⟨⟨by decide +kernel, by decide +kernel⟩, List.mem_of_getElem? (i := 673) (by decide +kernel), List.mem_of_getElem? (i := 1009) (by decide +kernel), List.mem_of_getElem? (i := 1010) (by decide +kernel)⟩
theorem lw_p57 : lw_okq (⟨"BridgeWardensModel", "takes", "(I)Z"⟩, 11) := ⟨⟨by decide +kernel, by decide +kernel⟩, List.mem_of_getElem? (i := 673) (by decide +kernel), List.mem_of_getElem? (i := 1014) (by decide +kernel), List.mem_of_getElem? (i := 1015) (by decide +kernel)⟩
theorem lw_p58 : lw_okq (⟨"BridgeWardensModel", "readsThree", "()Z"⟩, 11) := ⟨⟨by decide +kernel, by decide +kernel⟩, List.mem_of_getElem? (i := 673) (by decide +kernel), List.mem_of_getElem? (i := 1018) (by decide +kernel), List.mem_of_getElem? (i := 1019) (by decide +kernel)⟩
theorem lw_p59 : lw_okq (⟨"BridgeWardensModel", "orderError", "()I"⟩, 11) := ⟨⟨by decide +kernel, by decide +kernel⟩, List.mem_of_getElem? (i := 673) (by decide +kernel), List.mem_of_getElem? (i := 1027) (by decide +kernel), List.mem_of_getElem? (i := 1028) (by decide +kernel)⟩
theorem lw_p60 : lw_okq (⟨"BridgeWardensModel", "does", "()I"⟩, 11) := ⟨⟨by decide +kernel, by decide +kernel⟩, List.mem_of_getElem? (i := 673) (by decide +kernel), List.mem_of_getElem? (i := 1031) (by decide +kernel), List.mem_of_getElem? (i := 1032) (by decide +kernel)⟩
def lw_privs_4 : List (MethodName × Nat) := [(⟨"BridgeWardensModel", "inTills", "()I"⟩, 11), (⟨"BridgeWardensModel", "measures", "(I)V"⟩, 11), (⟨"BridgeWardensModel", "firstBridge", "(I)I"⟩, 11), (⟨"BridgeWardensModel", "readsOrder", "()Z"⟩, 11), (⟨"BridgeWardensModel", "readsOne", "()Z"⟩, 11), (⟨"BridgeWardensModel", "digit", "()I"⟩, 11), (⟨"BridgeWardensModel", "isHere", "(II)Z"⟩, 11), (⟨"BridgeWardensModel", "readsTwo", "(Z)Z"⟩, 11), (⟨"BridgeWardensModel", "number", "()I"⟩, 11), (⟨"BridgeWardensModel", "takes", "(I)Z"⟩, 11), (⟨"BridgeWardensModel", "readsThree", "()Z"⟩, 11), (⟨"BridgeWardensModel", "orderError", "()I"⟩, 11), (⟨"BridgeWardensModel", "does", "()I"⟩, 11)]
theorem lw_r4 : ∀ q ∈ lw_privs_4, lw_okq q := List.forall_mem_cons.mpr ⟨lw_p48, List.forall_mem_cons.mpr ⟨lw_p49, List.forall_mem_cons.mpr ⟨lw_p50, List.forall_mem_cons.mpr ⟨lw_p51, List.forall_mem_cons.mpr ⟨lw_p52, List.forall_mem_cons.mpr ⟨lw_p53, List.forall_mem_cons.mpr ⟨lw_p54, List.forall_mem_cons.mpr ⟨lw_p55, List.forall_mem_cons.mpr ⟨lw_p56, List.forall_mem_cons.mpr ⟨lw_p57, List.forall_mem_cons.mpr ⟨lw_p58, List.forall_mem_cons.mpr ⟨lw_p59, List.forall_mem_cons.mpr ⟨lw_p60, fun _ h => absurd h List.not_mem_nil⟩⟩⟩⟩⟩⟩⟩⟩⟩⟩⟩⟩⟩
def lw_privs : List (MethodName × Nat) := lw_privs_1 ++ (lw_privs_2 ++ (lw_privs_3 ++ (lw_privs_4)))
def lw_tbl : List Cond := k2_sels lw_privs ++ tables_1
theorem lw_privs_ok : ∀ q ∈ lw_privs, lw_okq q := by
  show ∀ q ∈ lw_privs_1 ++ (lw_privs_2 ++ (lw_privs_3 ++ (lw_privs_4))), lw_okq q
  exact List.forall_mem_append.mpr ⟨lw_r1, List.forall_mem_append.mpr ⟨lw_r2, List.forall_mem_append.mpr ⟨lw_r3, lw_r4⟩⟩⟩
def RX0 : String := "BridgeWardens$Bridge"
def TX0 : u_T := fun k => match k with
  | 0 => ("BridgeWardens$Bridge", "number", "I", true)
  | 1 => ("BridgeWardens$Bridge", "town", "I", false)
  | 2 => ("BridgeWardens$Bridge", "other", "I", false)
  | 3 => ("BridgeWardens$Bridge", "size", "I", false)
  | 4 => ("BridgeWardens$Bridge", "riddle", "I", false)
  | 5 => ("BridgeWardens$Bridge", "waiting", "I", false)
  | 6 => ("BridgeWardens$Bridge", "till", "I", false)
  | 7 => ("BridgeWardens$Bridge", "crossings", "I", false)
  | _ => ("BridgeWardens$Bridge", "ties", "I", false)
def tyX0 : Nat → FieldType := fun k => match k with
  | 0 => .int
  | 1 => .int
  | 2 => .int
  | 3 => .int
  | 4 => .int
  | 5 => .int
  | 6 => .int
  | 7 => .int
  | _ => .int
abbrev wsX00 : List Cond := u_ws RX0 TX0 9
theorem nmX0 : ∀ a, a < 9 → ∀ b, b < 9 → a ≠ b → (TX0 a).2.1 ≠ (TX0 b).2.1 := by decide +kernel
theorem tyX0_ok : ∀ k, k < 9 → parseFieldDescriptor (TX0 k).2.2.1 = some (tyX0 k) := by decide +kernel
abbrev cX0_init : ByteArray := prog_2_method_1_code
def yX0_init : MethodName := ⟨RX0, "<init>", "(I)V"⟩
abbrev cX0_copyFrom : ByteArray := prog_2_method_2_code
def yX0_copyFrom : MethodName := ⟨RX0, "copyFrom", "(LBridgeWardens$Bridge;)V"⟩
abbrev cX0_part : ByteArray := prog_2_method_3_code
def yX0_part : MethodName := ⟨RX0, "part", "(I)I"⟩
abbrev cX0_isAt : ByteArray := prog_2_method_4_code
def yX0_isAt : MethodName := ⟨RX0, "isAt", "(I)Z"⟩
abbrev cX0_farFrom : ByteArray := prog_2_method_5_code
def yX0_farFrom : MethodName := ⟨RX0, "farFrom", "(I)I"⟩
abbrev cX0_endsSet : ByteArray := prog_2_method_6_code
def yX0_endsSet : MethodName := ⟨RX0, "endsSet", "()I"⟩
abbrev cX0_distance : ByteArray := prog_2_method_7_code
def yX0_distance : MethodName := ⟨RX0, "distance", "(I)I"⟩
abbrev cX0_takeRiddle : ByteArray := prog_2_method_8_code
def yX0_takeRiddle : MethodName := ⟨RX0, "takeRiddle", "(I)V"⟩
def RX1 : String := "BridgeWardens$Cart"
def TX1 : u_T := fun k => match k with
  | 0 => ("BridgeWardens$Cart", "number", "I", true)
  | 1 => ("BridgeWardens$Cart", "town", "I", false)
  | 2 => ("BridgeWardens$Cart", "coins", "I", false)
  | 3 => ("BridgeWardens$Cart", "bridge", "I", false)
  | 4 => ("BridgeWardens$Cart", "guess", "I", false)
  | 5 => ("BridgeWardens$Cart", "waited", "I", false)
  | 6 => ("BridgeWardens$Cart", "crossings", "I", false)
  | 7 => ("BridgeWardens$Cart", "paid", "I", false)
  | 8 => ("BridgeWardens$Cart", "gifts", "I", false)
  | 9 => ("BridgeWardens$Cart", "lowerEnds", "[I", true)
  | _ => ("BridgeWardens$Cart", "upperEnds", "[I", true)
def tyX1 : Nat → FieldType := fun k => match k with
  | 0 => .int
  | 1 => .int
  | 2 => .int
  | 3 => .int
  | 4 => .int
  | 5 => .int
  | 6 => .int
  | 7 => .int
  | 8 => .int
  | 9 => .array .int
  | _ => .array .int
abbrev wsX10 : List Cond := u_ws RX1 TX1 11
theorem nmX1 : ∀ a, a < 11 → ∀ b, b < 11 → a ≠ b → (TX1 a).2.1 ≠ (TX1 b).2.1 := by decide +kernel
theorem tyX1_ok : ∀ k, k < 11 → parseFieldDescriptor (TX1 k).2.2.1 = some (tyX1 k) := by decide +kernel
abbrev cX1_init : ByteArray := prog_3_method_1_code
def yX1_init : MethodName := ⟨RX1, "<init>", "(I)V"⟩
abbrev cX1_copyFrom : ByteArray := prog_3_method_2_code
def yX1_copyFrom : MethodName := ⟨RX1, "copyFrom", "(LBridgeWardens$Cart;)V"⟩
abbrev cX1_part : ByteArray := prog_3_method_3_code
def yX1_part : MethodName := ⟨RX1, "part", "(I)I"⟩
abbrev cX1_isWaiting : ByteArray := prog_3_method_4_code
def yX1_isWaiting : MethodName := ⟨RX1, "isWaiting", "()Z"⟩
abbrev cX1_lowest : ByteArray := prog_3_method_5_code
def yX1_lowest : MethodName := ⟨RX1, "lowest", "(LBridgeWardens$Bridge;)I"⟩
abbrev cX1_highest : ByteArray := prog_3_method_6_code
def yX1_highest : MethodName := ⟨RX1, "highest", "(LBridgeWardens$Bridge;)I"⟩
abbrev cX1_numbersLeft : ByteArray := prog_3_method_7_code
def yX1_numbersLeft : MethodName := ⟨RX1, "numbersLeft", "(LBridgeWardens$Bridge;)I"⟩
abbrev cX1_forget : ByteArray := prog_3_method_8_code
def yX1_forget : MethodName := ⟨RX1, "forget", "(LBridgeWardens$Bridge;)V"⟩
abbrev cX1_halve : ByteArray := prog_3_method_9_code
def yX1_halve : MethodName := ⟨RX1, "halve", "(LBridgeWardens$Bridge;)V"⟩
abbrev cX1_numbersNearer : ByteArray := prog_3_method_10_code
def yX1_numbersNearer : MethodName := ⟨RX1, "numbersNearer", "(LBridgeWardens$Bridge;II)I"⟩
abbrev cX1_pay : ByteArray := prog_3_method_11_code
def yX1_pay : MethodName := ⟨RX1, "pay", "(ILBridgeWardens$Bridge;)V"⟩
abbrev cX1_takeGift : ByteArray := prog_3_method_12_code
def yX1_takeGift : MethodName := ⟨RX1, "takeGift", "(ILBridgeWardens$Bridge;)V"⟩
def RX2 : String := "BridgeWardens$History"
def TX2 : u_T := fun k => match k with
  | 0 => ("BridgeWardens$History", "states", "[LBridgeWardens$World;", true)
  | 1 => ("BridgeWardens$History", "spare", "I", false)
  | _ => ("BridgeWardens$History", "undoable", "I", false)
def tyX2 : Nat → FieldType := fun k => match k with
  | 0 => .array (.object "BridgeWardens$World")
  | 1 => .int
  | _ => .int
abbrev wsX20 : List Cond := u_ws RX2 TX2 3
theorem nmX2 : ∀ a, a < 3 → ∀ b, b < 3 → a ≠ b → (TX2 a).2.1 ≠ (TX2 b).2.1 := by decide +kernel
theorem tyX2_ok : ∀ k, k < 3 → parseFieldDescriptor (TX2 k).2.2.1 = some (tyX2 k) := by decide +kernel
abbrev cX2_init : ByteArray := prog_4_method_1_code
def yX2_init : MethodName := ⟨RX2, "<init>", "()V"⟩
abbrev cX2_note : ByteArray := prog_4_method_2_code
def yX2_note : MethodName := ⟨RX2, "note", "(LBridgeWardens$World;)V"⟩
abbrev cX2_keepNoted : ByteArray := prog_4_method_3_code
def yX2_keepNoted : MethodName := ⟨RX2, "keepNoted", "()V"⟩
abbrev cX2_takeBack : ByteArray := prog_4_method_4_code
def yX2_takeBack : MethodName := ⟨RX2, "takeBack", "(LBridgeWardens$World;)V"⟩
def RX3 : String := "BridgeWardens$OrderReader"
def TX3 : u_T := fun k => match k with
  | 0 => ("BridgeWardens$OrderReader", "pad", "LBridgeWardens$Pad;", true)
  | 1 => ("BridgeWardens$OrderReader", "place", "I", false)
  | 2 => ("BridgeWardens$OrderReader", "kind", "I", false)
  | 3 => ("BridgeWardens$OrderReader", "first", "I", false)
  | 4 => ("BridgeWardens$OrderReader", "second", "I", false)
  | _ => ("BridgeWardens$OrderReader", "third", "I", false)
def tyX3 : Nat → FieldType := fun k => match k with
  | 0 => .object "BridgeWardens$Pad"
  | 1 => .int
  | 2 => .int
  | 3 => .int
  | 4 => .int
  | _ => .int
abbrev wsX30 : List Cond := u_ws RX3 TX3 6
theorem nmX3 : ∀ a, a < 6 → ∀ b, b < 6 → a ≠ b → (TX3 a).2.1 ≠ (TX3 b).2.1 := by decide +kernel
theorem tyX3_ok : ∀ k, k < 6 → parseFieldDescriptor (TX3 k).2.2.1 = some (tyX3 k) := by decide +kernel
abbrev cX3_init : ByteArray := prog_5_method_1_code
def yX3_init : MethodName := ⟨RX3, "<init>", "(LBridgeWardens$Pad;)V"⟩
abbrev cX3_goToStart : ByteArray := prog_5_method_2_code
def yX3_goToStart : MethodName := ⟨RX3, "goToStart", "()V"⟩
abbrev cX3_faultPlace : ByteArray := prog_5_method_3_code
def yX3_faultPlace : MethodName := ⟨RX3, "faultPlace", "()I"⟩
abbrev cX3_readOrder : ByteArray := prog_5_method_4_code
def yX3_readOrder : MethodName := ⟨RX3, "readOrder", "()Z"⟩
abbrev cX3_readSign : ByteArray := prog_5_method_5_code
def yX3_readSign : MethodName := ⟨RX3, "readSign", "(I)Z"⟩
abbrev cX3_isKind : ByteArray := prog_5_method_6_code
def yX3_isKind : MethodName := ⟨RX3, "isKind", "(I)Z"⟩
abbrev cX3_readDigit : ByteArray := prog_5_method_7_code
def yX3_readDigit : MethodName := ⟨RX3, "readDigit", "()Z"⟩
abbrev cX3_readDigitPair : ByteArray := prog_5_method_8_code
def yX3_readDigitPair : MethodName := ⟨RX3, "readDigitPair", "()Z"⟩
abbrev cX3_readSecond : ByteArray := prog_5_method_9_code
def yX3_readSecond : MethodName := ⟨RX3, "readSecond", "()Z"⟩
abbrev cX3_readThird : ByteArray := prog_5_method_10_code
def yX3_readThird : MethodName := ⟨RX3, "readThird", "()Z"⟩
abbrev cX3_readNumber : ByteArray := prog_5_method_11_code
def yX3_readNumber : MethodName := ⟨RX3, "readNumber", "()I"⟩
abbrev cX3_nextDigit : ByteArray := prog_5_method_12_code
def yX3_nextDigit : MethodName := ⟨RX3, "nextDigit", "()I"⟩
def RX4 : String := "BridgeWardens$Pad"
def TX4 : u_T := fun k => match k with
  | 0 => ("BridgeWardens$Pad", "codes", "[I", true)
  | _ => ("BridgeWardens$Pad", "length", "I", false)
def tyX4 : Nat → FieldType := fun k => match k with
  | 0 => .array .int
  | _ => .int
abbrev wsX40 : List Cond := u_ws RX4 TX4 2
theorem nmX4 : ∀ a, a < 2 → ∀ b, b < 2 → a ≠ b → (TX4 a).2.1 ≠ (TX4 b).2.1 := by decide +kernel
theorem tyX4_ok : ∀ k, k < 2 → parseFieldDescriptor (TX4 k).2.2.1 = some (tyX4 k) := by decide +kernel
abbrev cX4_init : ByteArray := prog_6_method_1_code
def yX4_init : MethodName := ⟨RX4, "<init>", "()V"⟩
abbrev cX4_clear : ByteArray := prog_6_method_2_code
def yX4_clear : MethodName := ⟨RX4, "clear", "()V"⟩
abbrev cX4_codeAt : ByteArray := prog_6_method_3_code
def yX4_codeAt : MethodName := ⟨RX4, "codeAt", "(I)I"⟩
abbrev cX4_append : ByteArray := prog_6_method_4_code
def yX4_append : MethodName := ⟨RX4, "append", "(I)V"⟩
abbrev cX4_appendNumber : ByteArray := prog_6_method_5_code
def yX4_appendNumber : MethodName := ⟨RX4, "appendNumber", "(I)V"⟩
def RX5 : String := "BridgeWardens$World"
def TX5 : u_T := fun k => match k with
  | 0 => ("BridgeWardens$World", "settings", "[I", true)
  | 1 => ("BridgeWardens$World", "bridges", "[LBridgeWardens$Bridge;", true)
  | 2 => ("BridgeWardens$World", "carts", "[LBridgeWardens$Cart;", true)
  | 3 => ("BridgeWardens$World", "line", "[I", true)
  | 4 => ("BridgeWardens$World", "lineLength", "I", false)
  | 5 => ("BridgeWardens$World", "bridgeCount", "I", false)
  | 6 => ("BridgeWardens$World", "cartCount", "I", false)
  | 7 => ("BridgeWardens$World", "seed", "I", false)
  | 8 => ("BridgeWardens$World", "hours", "I", false)
  | 9 => ("BridgeWardens$World", "coinsBrought", "I", false)
  | _ => ("BridgeWardens$World", "hints", "I", false)
def tyX5 : Nat → FieldType := fun k => match k with
  | 0 => .array .int
  | 1 => .array (.object "BridgeWardens$Bridge")
  | 2 => .array (.object "BridgeWardens$Cart")
  | 3 => .array .int
  | 4 => .int
  | 5 => .int
  | 6 => .int
  | 7 => .int
  | 8 => .int
  | 9 => .int
  | _ => .int
abbrev wsX50 : List Cond := u_ws RX5 TX5 11
theorem nmX5 : ∀ a, a < 11 → ∀ b, b < 11 → a ≠ b → (TX5 a).2.1 ≠ (TX5 b).2.1 := by decide +kernel
theorem tyX5_ok : ∀ k, k < 11 → parseFieldDescriptor (TX5 k).2.2.1 = some (tyX5 k) := by decide +kernel
abbrev cX5_init : ByteArray := prog_7_method_1_code
def yX5_init : MethodName := ⟨RX5, "<init>", "()V"⟩
abbrev cX5_copyFrom : ByteArray := prog_7_method_2_code
def yX5_copyFrom : MethodName := ⟨RX5, "copyFrom", "(LBridgeWardens$World;)V"⟩
abbrev cX5_bridgeOf : ByteArray := prog_7_method_3_code
def yX5_bridgeOf : MethodName := ⟨RX5, "bridgeOf", "(I)LBridgeWardens$Bridge;"⟩
abbrev cX5_cartOf : ByteArray := prog_7_method_4_code
def yX5_cartOf : MethodName := ⟨RX5, "cartOf", "(I)LBridgeWardens$Cart;"⟩
abbrev cX5_changeSetting : ByteArray := prog_7_method_5_code
def yX5_changeSetting : MethodName := ⟨RX5, "changeSetting", "(II)I"⟩
abbrev cX5_addBridge : ByteArray := prog_7_method_6_code
def yX5_addBridge : MethodName := ⟨RX5, "addBridge", "(III)I"⟩
abbrev cX5_addCart : ByteArray := prog_7_method_7_code
def yX5_addCart : MethodName := ⟨RX5, "addCart", "(II)I"⟩
abbrev cX5_comeToWait : ByteArray := prog_7_method_8_code
def yX5_comeToWait : MethodName := ⟨RX5, "comeToWait", "(III)I"⟩
abbrev cX5_stopWaiting : ByteArray := prog_7_method_9_code
def yX5_stopWaiting : MethodName := ⟨RX5, "stopWaiting", "(I)I"⟩
abbrev cX5_buyHint : ByteArray := prog_7_method_10_code
def yX5_buyHint : MethodName := ⟨RX5, "buyHint", "(II)I"⟩
abbrev cX5_passHours : ByteArray := prog_7_method_11_code
def yX5_passHours : MethodName := ⟨RX5, "passHours", "(I)I"⟩
abbrev cX5_playHour : ByteArray := prog_7_method_12_code
def yX5_playHour : MethodName := ⟨RX5, "playHour", "()I"⟩
abbrev cX5_letOver : ByteArray := prog_7_method_13_code
def yX5_letOver : MethodName := ⟨RX5, "letOver", "(LBridgeWardens$Bridge;)I"⟩
abbrev cX5_comerOver : ByteArray := prog_7_method_14_code
def yX5_comerOver : MethodName := ⟨RX5, "comerOver", "(LBridgeWardens$Bridge;)LBridgeWardens$Cart;"⟩
abbrev cX5_isTied : ByteArray := prog_7_method_15_code
def yX5_isTied : MethodName := ⟨RX5, "isTied", "(LBridgeWardens$Bridge;)Z"⟩
abbrev cX5_payerOfTie : ByteArray := prog_7_method_16_code
def yX5_payerOfTie : MethodName := ⟨RX5, "payerOfTie", "(LBridgeWardens$Cart;LBridgeWardens$Cart;)LBridgeWardens$Cart;"⟩
abbrev cX5_release : ByteArray := prog_7_method_17_code
def yX5_release : MethodName := ⟨RX5, "release", "(LBridgeWardens$Cart;LBridgeWardens$Bridge;)V"⟩
abbrev cX5_drawRiddle : ByteArray := prog_7_method_18_code
def yX5_drawRiddle : MethodName := ⟨RX5, "drawRiddle", "(LBridgeWardens$Bridge;)V"⟩
abbrev cX5_waiterAt : ByteArray := prog_7_method_19_code
def yX5_waiterAt : MethodName := ⟨RX5, "waiterAt", "(LBridgeWardens$Bridge;I)LBridgeWardens$Cart;"⟩
abbrev cX5_reasonToStay : ByteArray := prog_7_method_20_code
def yX5_reasonToStay : MethodName := ⟨RX5, "reasonToStay", "(LBridgeWardens$Cart;)I"⟩
abbrev cX5_total : ByteArray := prog_7_method_21_code
def yX5_total : MethodName := ⟨RX5, "total", "(I)I"⟩
abbrev cX5_waitingSet : ByteArray := prog_7_method_22_code
def yX5_waitingSet : MethodName := ⟨RX5, "waitingSet", "()I"⟩
abbrev cX5_sumOverCarts : ByteArray := prog_7_method_23_code
def yX5_sumOverCarts : MethodName := ⟨RX5, "sumOverCarts", "(I)I"⟩
abbrev cX5_sumOverBridges : ByteArray := prog_7_method_24_code
def yX5_sumOverBridges : MethodName := ⟨RX5, "sumOverBridges", "(I)I"⟩
abbrev cX5_stepsBetween : ByteArray := prog_7_method_25_code
def yX5_stepsBetween : MethodName := ⟨RX5, "stepsBetween", "(II)I"⟩
abbrev cX5_withNeighbours : ByteArray := prog_7_method_26_code
def yX5_withNeighbours : MethodName := ⟨RX5, "withNeighbours", "(I)I"⟩
abbrev cX5_firstBridge : ByteArray := prog_7_method_27_code
def yX5_firstBridge : MethodName := ⟨RX5, "firstBridge", "(III)I"⟩
def RX6 : String := "BridgeWardens"
def TX6 : u_T := fun k => match k with
  | 0 => ("BridgeWardens", "now", "LBridgeWardens$World;", true)
  | 1 => ("BridgeWardens", "trial", "LBridgeWardens$World;", true)
  | 2 => ("BridgeWardens", "history", "LBridgeWardens$History;", true)
  | 3 => ("BridgeWardens", "slots", "[LBridgeWardens$World;", true)
  | 4 => ("BridgeWardens", "saved", "[Z", true)
  | 5 => ("BridgeWardens", "pad", "LBridgeWardens$Pad;", true)
  | _ => ("BridgeWardens", "orders", "LBridgeWardens$OrderReader;", true)
def tyX6 : Nat → FieldType := fun k => match k with
  | 0 => .object "BridgeWardens$World"
  | 1 => .object "BridgeWardens$World"
  | 2 => .object "BridgeWardens$History"
  | 3 => .array (.object "BridgeWardens$World")
  | 4 => .array .boolean
  | 5 => .object "BridgeWardens$Pad"
  | _ => .object "BridgeWardens$OrderReader"
abbrev wsX60 : List Cond := u_ws RX6 TX6 7
theorem nmX6 : ∀ a, a < 7 → ∀ b, b < 7 → a ≠ b → (TX6 a).2.1 ≠ (TX6 b).2.1 := by decide +kernel
theorem tyX6_ok : ∀ k, k < 7 → parseFieldDescriptor (TX6 k).2.2.1 = some (tyX6 k) := by decide +kernel
abbrev cX6_init : ByteArray := prog_1_method_1_code
def yX6_init : MethodName := ⟨RX6, "<init>", "()V"⟩
abbrev cX6_set : ByteArray := prog_1_method_2_code
def yX6_set : MethodName := ⟨RX6, "set", "(II)I"⟩
abbrev cX6_bridge : ByteArray := prog_1_method_3_code
def yX6_bridge : MethodName := ⟨RX6, "bridge", "(III)I"⟩
abbrev cX6_cart : ByteArray := prog_1_method_4_code
def yX6_cart : MethodName := ⟨RX6, "cart", "(II)I"⟩
abbrev cX6_guess : ByteArray := prog_1_method_5_code
def yX6_guess : MethodName := ⟨RX6, "guess", "(III)I"⟩
abbrev cX6_leave : ByteArray := prog_1_method_6_code
def yX6_leave : MethodName := ⟨RX6, "leave", "(I)I"⟩
abbrev cX6_hint : ByteArray := prog_1_method_7_code
def yX6_hint : MethodName := ⟨RX6, "hint", "(II)I"⟩
abbrev cX6_pass : ByteArray := prog_1_method_8_code
def yX6_pass : MethodName := ⟨RX6, "pass", "(I)I"⟩
abbrev cX6_write : ByteArray := prog_1_method_9_code
def yX6_write : MethodName := ⟨RX6, "write", "(I)I"⟩
abbrev cX6_ofBridge : ByteArray := prog_1_method_10_code
def yX6_ofBridge : MethodName := ⟨RX6, "ofBridge", "(II)I"⟩
abbrev cX6_ofCart : ByteArray := prog_1_method_11_code
def yX6_ofCart : MethodName := ⟨RX6, "ofCart", "(II)I"⟩
abbrev cX6_knows : ByteArray := prog_1_method_12_code
def yX6_knows : MethodName := ⟨RX6, "knows", "(III)I"⟩
abbrev cX6_waits : ByteArray := prog_1_method_13_code
def yX6_waits : MethodName := ⟨RX6, "waits", "(II)I"⟩
abbrev cX6_sign : ByteArray := prog_1_method_14_code
def yX6_sign : MethodName := ⟨RX6, "sign", "(I)I"⟩
abbrev cX6_count : ByteArray := prog_1_method_15_code
def yX6_count : MethodName := ⟨RX6, "count", "(I)I"⟩
abbrev cX6_next : ByteArray := prog_1_method_16_code
def yX6_next : MethodName := ⟨RX6, "next", "(I)I"⟩
abbrev cX6_why : ByteArray := prog_1_method_17_code
def yX6_why : MethodName := ⟨RX6, "why", "(I)I"⟩
abbrev cX6_overIn : ByteArray := prog_1_method_18_code
def yX6_overIn : MethodName := ⟨RX6, "overIn", "(I)I"⟩
abbrev cX6_wins : ByteArray := prog_1_method_19_code
def yX6_wins : MethodName := ⟨RX6, "wins", "(IIII)I"⟩
abbrev cX6_bestGuess : ByteArray := prog_1_method_20_code
def yX6_bestGuess : MethodName := ⟨RX6, "bestGuess", "(IIII)I"⟩
abbrev cX6_route : ByteArray := prog_1_method_21_code
def yX6_route : MethodName := ⟨RX6, "route", "(III)I"⟩
abbrev cX6_would : ByteArray := prog_1_method_22_code
def yX6_would : MethodName := ⟨RX6, "would", "(II)I"⟩
abbrev cX6_put : ByteArray := prog_1_method_23_code
def yX6_put : MethodName := ⟨RX6, "put", "(J)I"⟩
abbrev cX6_wipe : ByteArray := prog_1_method_24_code
def yX6_wipe : MethodName := ⟨RX6, "wipe", "()I"⟩
abbrev cX6_fault : ByteArray := prog_1_method_25_code
def yX6_fault : MethodName := ⟨RX6, "fault", "()I"⟩
abbrev cX6_carryOut : ByteArray := prog_1_method_26_code
def yX6_carryOut : MethodName := ⟨RX6, "carryOut", "()I"⟩
abbrev cX6_undo : ByteArray := prog_1_method_27_code
def yX6_undo : MethodName := ⟨RX6, "undo", "()I"⟩
abbrev cX6_save : ByteArray := prog_1_method_28_code
def yX6_save : MethodName := ⟨RX6, "save", "(I)I"⟩
abbrev cX6_restore : ByteArray := prog_1_method_29_code
def yX6_restore : MethodName := ⟨RX6, "restore", "(I)I"⟩
abbrev cX6_isBelow : ByteArray := prog_1_method_30_code
def yX6_isBelow : MethodName := ⟨RX6, "isBelow", "(II)Z"⟩
abbrev cX6_numberOf : ByteArray := prog_1_method_31_code
def yX6_numberOf : MethodName := ⟨RX6, "numberOf", "(LBridgeWardens$Cart;I)I"⟩
abbrev cX6_recorded : ByteArray := prog_1_method_32_code
def yX6_recorded : MethodName := ⟨RX6, "recorded", "(I)I"⟩
abbrev cX6_signsIn : ByteArray := prog_1_method_33_code
def yX6_signsIn : MethodName := ⟨RX6, "signsIn", "(J)I"⟩
abbrev cX6_appendNote : ByteArray := prog_1_method_34_code
def yX6_appendNote : MethodName := ⟨RX6, "appendNote", "(LBridgeWardens$Cart;)V"⟩
abbrev cX6_obey : ByteArray := prog_1_method_35_code
def yX6_obey : MethodName := ⟨RX6, "obey", "()I"⟩
def RX7 : String := "BridgeWardensModel"
def TX7 : u_T := fun k => match k with
  | 0 => ("BridgeWardensModel", "s", "[I", true)
  | 1 => ("BridgeWardensModel", "states", "I", false)
  | 2 => ("BridgeWardensModel", "isSaved", "[Z", true)
  | 3 => ("BridgeWardensModel", "text", "[I", true)
  | 4 => ("BridgeWardensModel", "typed", "I", false)
  | 5 => ("BridgeWardensModel", "spot", "I", false)
  | 6 => ("BridgeWardensModel", "kind", "C", false)
  | 7 => ("BridgeWardensModel", "one", "I", false)
  | 8 => ("BridgeWardensModel", "two", "I", false)
  | 9 => ("BridgeWardensModel", "three", "I", false)
  | _ => ("BridgeWardensModel", "away", "[I", true)
def tyX7 : Nat → FieldType := fun k => match k with
  | 0 => .array .int
  | 1 => .int
  | 2 => .array .boolean
  | 3 => .array .int
  | 4 => .int
  | 5 => .int
  | 6 => .char
  | 7 => .int
  | 8 => .int
  | 9 => .int
  | _ => .array .int
abbrev wsX70 : List Cond := u_ws RX7 TX7 11
theorem nmX7 : ∀ a, a < 11 → ∀ b, b < 11 → a ≠ b → (TX7 a).2.1 ≠ (TX7 b).2.1 := by decide +kernel
theorem tyX7_ok : ∀ k, k < 11 → parseFieldDescriptor (TX7 k).2.2.1 = some (tyX7 k) := by decide +kernel
abbrev cX7_init : ByteArray := prog_9_method_1_code
def yX7_init : MethodName := ⟨RX7, "<init>", "()V"⟩
abbrev cX7_in : ByteArray := prog_9_method_3_code
def yX7_in : MethodName := ⟨RX7, "in", "(JJJ)Z"⟩
abbrev cX7_copies : ByteArray := prog_9_method_4_code
def yX7_copies : MethodName := ⟨RX7, "copies", "(II)V"⟩
abbrev cX7_changes : ByteArray := prog_9_method_5_code
def yX7_changes : MethodName := ⟨RX7, "changes", "()V"⟩
abbrev cX7_bridgeAt : ByteArray := prog_9_method_6_code
def yX7_bridgeAt : MethodName := ⟨RX7, "bridgeAt", "(II)I"⟩
abbrev cX7_cartAt : ByteArray := prog_9_method_7_code
def yX7_cartAt : MethodName := ⟨RX7, "cartAt", "(II)I"⟩
abbrev cX7_rangeAt : ByteArray := prog_9_method_8_code
def yX7_rangeAt : MethodName := ⟨RX7, "rangeAt", "(III)I"⟩
abbrev cX7_isAt : ByteArray := prog_9_method_9_code
def yX7_isAt : MethodName := ⟨RX7, "isAt", "(III)Z"⟩
abbrev cX7_draws : ByteArray := prog_9_method_10_code
def yX7_draws : MethodName := ⟨RX7, "draws", "(II)V"⟩
abbrev cX7_many : ByteArray := prog_9_method_11_code
def yX7_many : MethodName := ⟨RX7, "many", "(II)I"⟩
abbrev cX7_waiter : ByteArray := prog_9_method_12_code
def yX7_waiter : MethodName := ⟨RX7, "waiter", "(III)I"⟩
abbrev cX7_size : ByteArray := prog_9_method_13_code
def yX7_size : MethodName := ⟨RX7, "size", "(I)I"⟩
abbrev cX7_far : ByteArray := prog_9_method_14_code
def yX7_far : MethodName := ⟨RX7, "far", "(II)I"⟩
abbrev cX7_areAsNear : ByteArray := prog_9_method_15_code
def yX7_areAsNear : MethodName := ⟨RX7, "areAsNear", "(II)Z"⟩
abbrev cX7_comer : ByteArray := prog_9_method_16_code
def yX7_comer : MethodName := ⟨RX7, "comer", "(II)I"⟩
abbrev cX7_pays : ByteArray := prog_9_method_17_code
def yX7_pays : MethodName := ⟨RX7, "pays", "(IIII)V"⟩
abbrev cX7_stopsWaiting : ByteArray := prog_9_method_18_code
def yX7_stopsWaiting : MethodName := ⟨RX7, "stopsWaiting", "(II)V"⟩
abbrev cX7_opens : ByteArray := prog_9_method_19_code
def yX7_opens : MethodName := ⟨RX7, "opens", "(II)Z"⟩
abbrev cX7_hour : ByteArray := prog_9_method_20_code
def yX7_hour : MethodName := ⟨RX7, "hour", "(I)I"⟩
abbrev cX7_hours : ByteArray := prog_9_method_21_code
def yX7_hours : MethodName := ⟨RX7, "hours", "(II)I"⟩
abbrev cX7_ofCarts : ByteArray := prog_9_method_22_code
def yX7_ofCarts : MethodName := ⟨RX7, "ofCarts", "(II)I"⟩
abbrev cX7_waitingSet : ByteArray := prog_9_method_23_code
def yX7_waitingSet : MethodName := ⟨RX7, "waitingSet", "(I)I"⟩
abbrev cX7_isTown : ByteArray := prog_9_method_24_code
def yX7_isTown : MethodName := ⟨RX7, "isTown", "(I)Z"⟩
abbrev cX7_isBridge : ByteArray := prog_9_method_25_code
def yX7_isBridge : MethodName := ⟨RX7, "isBridge", "(I)Z"⟩
abbrev cX7_isCart : ByteArray := prog_9_method_26_code
def yX7_isCart : MethodName := ⟨RX7, "isCart", "(I)Z"⟩
abbrev cX7_isNumber : ByteArray := prog_9_method_27_code
def yX7_isNumber : MethodName := ⟨RX7, "isNumber", "(II)Z"⟩
abbrev cX7_bridgeError : ByteArray := prog_9_method_28_code
def yX7_bridgeError : MethodName := ⟨RX7, "bridgeError", "(III)I"⟩
abbrev cX7_cartError : ByteArray := prog_9_method_29_code
def yX7_cartError : MethodName := ⟨RX7, "cartError", "(II)I"⟩
abbrev cX7_guessError : ByteArray := prog_9_method_30_code
def yX7_guessError : MethodName := ⟨RX7, "guessError", "(III)I"⟩
abbrev cX7_leaveError : ByteArray := prog_9_method_31_code
def yX7_leaveError : MethodName := ⟨RX7, "leaveError", "(I)I"⟩
abbrev cX7_hintError : ByteArray := prog_9_method_32_code
def yX7_hintError : MethodName := ⟨RX7, "hintError", "(II)I"⟩
abbrev cX7_passError : ByteArray := prog_9_method_33_code
def yX7_passError : MethodName := ⟨RX7, "passError", "(I)I"⟩
abbrev cX7_builds : ByteArray := prog_9_method_34_code
def yX7_builds : MethodName := ⟨RX7, "builds", "(III)I"⟩
abbrev cX7_comes : ByteArray := prog_9_method_35_code
def yX7_comes : MethodName := ⟨RX7, "comes", "(II)I"⟩
abbrev cX7_guesses : ByteArray := prog_9_method_36_code
def yX7_guesses : MethodName := ⟨RX7, "guesses", "(III)I"⟩
abbrev cX7_leaves : ByteArray := prog_9_method_37_code
def yX7_leaves : MethodName := ⟨RX7, "leaves", "(I)I"⟩
abbrev cX7_hints : ByteArray := prog_9_method_38_code
def yX7_hints : MethodName := ⟨RX7, "hints", "(II)I"⟩
abbrev cX7_isValue : ByteArray := prog_9_method_39_code
def yX7_isValue : MethodName := ⟨RX7, "isValue", "(II)Z"⟩
abbrev cX7_set : ByteArray := prog_9_method_40_code
def yX7_set : MethodName := ⟨RX7, "set", "(II)I"⟩
abbrev cX7_bridge : ByteArray := prog_9_method_41_code
def yX7_bridge : MethodName := ⟨RX7, "bridge", "(III)I"⟩
abbrev cX7_cart : ByteArray := prog_9_method_42_code
def yX7_cart : MethodName := ⟨RX7, "cart", "(II)I"⟩
abbrev cX7_guess : ByteArray := prog_9_method_43_code
def yX7_guess : MethodName := ⟨RX7, "guess", "(III)I"⟩
abbrev cX7_leave : ByteArray := prog_9_method_44_code
def yX7_leave : MethodName := ⟨RX7, "leave", "(I)I"⟩
abbrev cX7_hint : ByteArray := prog_9_method_45_code
def yX7_hint : MethodName := ⟨RX7, "hint", "(II)I"⟩
abbrev cX7_pass : ByteArray := prog_9_method_46_code
def yX7_pass : MethodName := ⟨RX7, "pass", "(I)I"⟩
abbrev cX7_types : ByteArray := prog_9_method_47_code
def yX7_types : MethodName := ⟨RX7, "types", "(I)V"⟩
abbrev cX7_typesNumber : ByteArray := prog_9_method_48_code
def yX7_typesNumber : MethodName := ⟨RX7, "typesNumber", "(I)V"⟩
abbrev cX7_write : ByteArray := prog_9_method_49_code
def yX7_write : MethodName := ⟨RX7, "write", "(I)I"⟩
abbrev cX7_ofBridge : ByteArray := prog_9_method_50_code
def yX7_ofBridge : MethodName := ⟨RX7, "ofBridge", "(II)I"⟩
abbrev cX7_ofCart : ByteArray := prog_9_method_51_code
def yX7_ofCart : MethodName := ⟨RX7, "ofCart", "(II)I"⟩
abbrev cX7_knows : ByteArray := prog_9_method_52_code
def yX7_knows : MethodName := ⟨RX7, "knows", "(III)I"⟩
abbrev cX7_waits : ByteArray := prog_9_method_53_code
def yX7_waits : MethodName := ⟨RX7, "waits", "(II)I"⟩
abbrev cX7_sign : ByteArray := prog_9_method_54_code
def yX7_sign : MethodName := ⟨RX7, "sign", "(I)I"⟩
abbrev cX7_inTills : ByteArray := prog_9_method_55_code
def yX7_inTills : MethodName := ⟨RX7, "inTills", "()I"⟩
abbrev cX7_count : ByteArray := prog_9_method_56_code
def yX7_count : MethodName := ⟨RX7, "count", "(I)I"⟩
abbrev cX7_next : ByteArray := prog_9_method_57_code
def yX7_next : MethodName := ⟨RX7, "next", "(I)I"⟩
abbrev cX7_why : ByteArray := prog_9_method_58_code
def yX7_why : MethodName := ⟨RX7, "why", "(I)I"⟩
abbrev cX7_overIn : ByteArray := prog_9_method_59_code
def yX7_overIn : MethodName := ⟨RX7, "overIn", "(I)I"⟩
abbrev cX7_nearer : ByteArray := prog_9_method_60_code
def yX7_nearer : MethodName := ⟨RX7, "nearer", "(IIII)I"⟩
abbrev cX7_wins : ByteArray := prog_9_method_61_code
def yX7_wins : MethodName := ⟨RX7, "wins", "(IIII)I"⟩
abbrev cX7_bestGuess : ByteArray := prog_9_method_62_code
def yX7_bestGuess : MethodName := ⟨RX7, "bestGuess", "(IIII)I"⟩
abbrev cX7_measures : ByteArray := prog_9_method_63_code
def yX7_measures : MethodName := ⟨RX7, "measures", "(I)V"⟩
abbrev cX7_firstBridge : ByteArray := prog_9_method_64_code
def yX7_firstBridge : MethodName := ⟨RX7, "firstBridge", "(I)I"⟩
abbrev cX7_route : ByteArray := prog_9_method_65_code
def yX7_route : MethodName := ⟨RX7, "route", "(III)I"⟩
abbrev cX7_would : ByteArray := prog_9_method_66_code
def yX7_would : MethodName := ⟨RX7, "would", "(II)I"⟩
abbrev cX7_charactersOf : ByteArray := prog_9_method_67_code
def yX7_charactersOf : MethodName := ⟨RX7, "charactersOf", "(J)I"⟩
abbrev cX7_put : ByteArray := prog_9_method_68_code
def yX7_put : MethodName := ⟨RX7, "put", "(J)I"⟩
abbrev cX7_wipe : ByteArray := prog_9_method_69_code
def yX7_wipe : MethodName := ⟨RX7, "wipe", "()I"⟩
abbrev cX7_isHere : ByteArray := prog_9_method_70_code
def yX7_isHere : MethodName := ⟨RX7, "isHere", "(II)Z"⟩
abbrev cX7_takes : ByteArray := prog_9_method_71_code
def yX7_takes : MethodName := ⟨RX7, "takes", "(I)Z"⟩
abbrev cX7_digit : ByteArray := prog_9_method_72_code
def yX7_digit : MethodName := ⟨RX7, "digit", "()I"⟩
abbrev cX7_number : ByteArray := prog_9_method_73_code
def yX7_number : MethodName := ⟨RX7, "number", "()I"⟩
abbrev cX7_readsOne : ByteArray := prog_9_method_74_code
def yX7_readsOne : MethodName := ⟨RX7, "readsOne", "()Z"⟩
abbrev cX7_readsTwo : ByteArray := prog_9_method_75_code
def yX7_readsTwo : MethodName := ⟨RX7, "readsTwo", "(Z)Z"⟩
abbrev cX7_readsThree : ByteArray := prog_9_method_76_code
def yX7_readsThree : MethodName := ⟨RX7, "readsThree", "()Z"⟩
abbrev cX7_readsOrder : ByteArray := prog_9_method_77_code
def yX7_readsOrder : MethodName := ⟨RX7, "readsOrder", "()Z"⟩
abbrev cX7_fault : ByteArray := prog_9_method_78_code
def yX7_fault : MethodName := ⟨RX7, "fault", "()I"⟩
abbrev cX7_orderError : ByteArray := prog_9_method_79_code
def yX7_orderError : MethodName := ⟨RX7, "orderError", "()I"⟩
abbrev cX7_does : ByteArray := prog_9_method_80_code
def yX7_does : MethodName := ⟨RX7, "does", "()I"⟩
abbrev cX7_carryOut : ByteArray := prog_9_method_81_code
def yX7_carryOut : MethodName := ⟨RX7, "carryOut", "()I"⟩
abbrev cX7_undo : ByteArray := prog_9_method_82_code
def yX7_undo : MethodName := ⟨RX7, "undo", "()I"⟩
abbrev cX7_isSlot : ByteArray := prog_9_method_83_code
def yX7_isSlot : MethodName := ⟨RX7, "isSlot", "(I)Z"⟩
abbrev cX7_save : ByteArray := prog_9_method_84_code
def yX7_save : MethodName := ⟨RX7, "save", "(I)I"⟩
abbrev cX7_restore : ByteArray := prog_9_method_85_code
def yX7_restore : MethodName := ⟨RX7, "restore", "(I)I"⟩
def RJ9 : String := "java/lang/Math"
def RJ10 : String := "java/lang/System"
def RL : String := "BridgeWardensLaw"
abbrev cL_law : ByteArray := code
def yL_law : MethodName := ⟨RL, "law", "([I)Z"⟩
abbrev vwCl : List vw_C := [(RX0, TX0, 9), (RX1, TX1, 11), (RX2, TX2, 3), (RX3, TX3, 6), (RX4, TX4, 2), (RX5, TX5, 11), (RX6, TX6, 7), (RX7, TX7, 11)]
end
section
theorem dX0_init_0 : decode cX0_init 0 = .ok (.aload_n 0, 1) := by decide +kernel
theorem dX0_init_1 : decode cX0_init 1 = .ok (.invokespecial 3, 3) := by decide +kernel
theorem dX0_init_4 : decode cX0_init 4 = .ok (.aload_n 0, 1) := by decide +kernel
theorem dX0_init_5 : decode cX0_init 5 = .ok (.iload_n 1, 1) := by decide +kernel
theorem dX0_init_6 : decode cX0_init 6 = .ok (.putfield 9, 3) := by decide +kernel
theorem dX0_init_9 : decode cX0_init 9 = .ok (.return_, 1) := by decide +kernel
theorem dX0_copyFrom_0 : decode cX0_copyFrom 0 = .ok (.aload_n 0, 1) := by decide +kernel
theorem dX0_copyFrom_1 : decode cX0_copyFrom 1 = .ok (.aload_n 1, 1) := by decide +kernel
theorem dX0_copyFrom_2 : decode cX0_copyFrom 2 = .ok (.getfield 15, 3) := by decide +kernel
theorem dX0_copyFrom_5 : decode cX0_copyFrom 5 = .ok (.putfield 15, 3) := by decide +kernel
theorem dX0_copyFrom_8 : decode cX0_copyFrom 8 = .ok (.aload_n 0, 1) := by decide +kernel
theorem dX0_copyFrom_9 : decode cX0_copyFrom 9 = .ok (.aload_n 1, 1) := by decide +kernel
theorem dX0_copyFrom_10 : decode cX0_copyFrom 10 = .ok (.getfield 18, 3) := by decide +kernel
theorem dX0_copyFrom_13 : decode cX0_copyFrom 13 = .ok (.putfield 18, 3) := by decide +kernel
theorem dX0_copyFrom_16 : decode cX0_copyFrom 16 = .ok (.aload_n 0, 1) := by decide +kernel
theorem dX0_copyFrom_17 : decode cX0_copyFrom 17 = .ok (.aload_n 1, 1) := by decide +kernel
theorem dX0_copyFrom_18 : decode cX0_copyFrom 18 = .ok (.getfield 21, 3) := by decide +kernel
theorem dX0_copyFrom_21 : decode cX0_copyFrom 21 = .ok (.putfield 21, 3) := by decide +kernel
theorem dX0_copyFrom_24 : decode cX0_copyFrom 24 = .ok (.aload_n 0, 1) := by decide +kernel
theorem dX0_copyFrom_25 : decode cX0_copyFrom 25 = .ok (.aload_n 1, 1) := by decide +kernel
theorem dX0_copyFrom_26 : decode cX0_copyFrom 26 = .ok (.getfield 24, 3) := by decide +kernel
theorem dX0_copyFrom_29 : decode cX0_copyFrom 29 = .ok (.putfield 24, 3) := by decide +kernel
theorem dX0_copyFrom_32 : decode cX0_copyFrom 32 = .ok (.aload_n 0, 1) := by decide +kernel
theorem dX0_copyFrom_33 : decode cX0_copyFrom 33 = .ok (.aload_n 1, 1) := by decide +kernel
theorem dX0_copyFrom_34 : decode cX0_copyFrom 34 = .ok (.getfield 27, 3) := by decide +kernel
theorem dX0_copyFrom_37 : decode cX0_copyFrom 37 = .ok (.putfield 27, 3) := by decide +kernel
theorem dX0_copyFrom_40 : decode cX0_copyFrom 40 = .ok (.aload_n 0, 1) := by decide +kernel
theorem dX0_copyFrom_41 : decode cX0_copyFrom 41 = .ok (.aload_n 1, 1) := by decide +kernel
theorem dX0_copyFrom_42 : decode cX0_copyFrom 42 = .ok (.getfield 30, 3) := by decide +kernel
theorem dX0_copyFrom_45 : decode cX0_copyFrom 45 = .ok (.putfield 30, 3) := by decide +kernel
theorem dX0_copyFrom_48 : decode cX0_copyFrom 48 = .ok (.aload_n 0, 1) := by decide +kernel
theorem dX0_copyFrom_49 : decode cX0_copyFrom 49 = .ok (.aload_n 1, 1) := by decide +kernel
theorem dX0_copyFrom_50 : decode cX0_copyFrom 50 = .ok (.getfield 33, 3) := by decide +kernel
theorem dX0_copyFrom_53 : decode cX0_copyFrom 53 = .ok (.putfield 33, 3) := by decide +kernel
theorem dX0_copyFrom_56 : decode cX0_copyFrom 56 = .ok (.aload_n 0, 1) := by decide +kernel
theorem dX0_copyFrom_57 : decode cX0_copyFrom 57 = .ok (.aload_n 1, 1) := by decide +kernel
theorem dX0_copyFrom_58 : decode cX0_copyFrom 58 = .ok (.getfield 36, 3) := by decide +kernel
theorem dX0_copyFrom_61 : decode cX0_copyFrom 61 = .ok (.putfield 36, 3) := by decide +kernel
theorem dX0_copyFrom_64 : decode cX0_copyFrom 64 = .ok (.return_, 1) := by decide +kernel
theorem dX0_part_0 : decode cX0_part 0 = .ok (.iload_n 1, 1) := by decide +kernel
theorem dX0_part_1 : decode cX0_part 1 = .ok (.tableswitch 78 0 6 #[43, 48, 53, 58, 63, 68, 73], 43) := by decide +kernel
theorem dX0_part_44 : decode cX0_part 44 = .ok (.aload_n 0, 1) := by decide +kernel
theorem dX0_part_45 : decode cX0_part 45 = .ok (.getfield 15, 3) := by decide +kernel
theorem dX0_part_48 : decode cX0_part 48 = .ok (.ireturn, 1) := by decide +kernel
theorem dX0_part_49 : decode cX0_part 49 = .ok (.aload_n 0, 1) := by decide +kernel
theorem dX0_part_50 : decode cX0_part 50 = .ok (.getfield 18, 3) := by decide +kernel
theorem dX0_part_53 : decode cX0_part 53 = .ok (.ireturn, 1) := by decide +kernel
theorem dX0_part_54 : decode cX0_part 54 = .ok (.aload_n 0, 1) := by decide +kernel
theorem dX0_part_55 : decode cX0_part 55 = .ok (.getfield 21, 3) := by decide +kernel
theorem dX0_part_58 : decode cX0_part 58 = .ok (.ireturn, 1) := by decide +kernel
theorem dX0_part_59 : decode cX0_part 59 = .ok (.aload_n 0, 1) := by decide +kernel
theorem dX0_part_60 : decode cX0_part 60 = .ok (.getfield 24, 3) := by decide +kernel
theorem dX0_part_63 : decode cX0_part 63 = .ok (.ireturn, 1) := by decide +kernel
theorem dX0_part_64 : decode cX0_part 64 = .ok (.aload_n 0, 1) := by decide +kernel
theorem dX0_part_65 : decode cX0_part 65 = .ok (.getfield 27, 3) := by decide +kernel
theorem dX0_part_68 : decode cX0_part 68 = .ok (.ireturn, 1) := by decide +kernel
theorem dX0_part_69 : decode cX0_part 69 = .ok (.aload_n 0, 1) := by decide +kernel
theorem dX0_part_70 : decode cX0_part 70 = .ok (.getfield 30, 3) := by decide +kernel
theorem dX0_part_73 : decode cX0_part 73 = .ok (.ireturn, 1) := by decide +kernel
theorem dX0_part_74 : decode cX0_part 74 = .ok (.aload_n 0, 1) := by decide +kernel
theorem dX0_part_75 : decode cX0_part 75 = .ok (.getfield 33, 3) := by decide +kernel
theorem dX0_part_78 : decode cX0_part 78 = .ok (.ireturn, 1) := by decide +kernel
theorem dX0_part_79 : decode cX0_part 79 = .ok (.aload_n 0, 1) := by decide +kernel
theorem dX0_part_80 : decode cX0_part 80 = .ok (.getfield 36, 3) := by decide +kernel
theorem dX0_part_83 : decode cX0_part 83 = .ok (.ireturn, 1) := by decide +kernel
theorem dX0_isAt_0 : decode cX0_isAt 0 = .ok (.aload_n 0, 1) := by decide +kernel
theorem dX0_isAt_1 : decode cX0_isAt 1 = .ok (.getfield 15, 3) := by decide +kernel
theorem dX0_isAt_4 : decode cX0_isAt 4 = .ok (.iload_n 1, 1) := by decide +kernel
theorem dX0_isAt_5 : decode cX0_isAt 5 = .ok (.if_icmp .eq 11, 3) := by decide +kernel
theorem dX0_isAt_8 : decode cX0_isAt 8 = .ok (.aload_n 0, 1) := by decide +kernel
theorem dX0_isAt_9 : decode cX0_isAt 9 = .ok (.getfield 18, 3) := by decide +kernel
theorem dX0_isAt_12 : decode cX0_isAt 12 = .ok (.iload_n 1, 1) := by decide +kernel
theorem dX0_isAt_13 : decode cX0_isAt 13 = .ok (.if_icmp .ne 7, 3) := by decide +kernel
theorem dX0_isAt_16 : decode cX0_isAt 16 = .ok (.iconst 1, 1) := by decide +kernel
theorem dX0_isAt_17 : decode cX0_isAt 17 = .ok (.goto 4, 3) := by decide +kernel
theorem dX0_isAt_20 : decode cX0_isAt 20 = .ok (.iconst 0, 1) := by decide +kernel
theorem dX0_isAt_21 : decode cX0_isAt 21 = .ok (.ireturn, 1) := by decide +kernel
theorem dX0_farFrom_0 : decode cX0_farFrom 0 = .ok (.aload_n 0, 1) := by decide +kernel
theorem dX0_farFrom_1 : decode cX0_farFrom 1 = .ok (.getfield 15, 3) := by decide +kernel
theorem dX0_farFrom_4 : decode cX0_farFrom 4 = .ok (.iload_n 1, 1) := by decide +kernel
theorem dX0_farFrom_5 : decode cX0_farFrom 5 = .ok (.if_icmp .ne 10, 3) := by decide +kernel
theorem dX0_farFrom_8 : decode cX0_farFrom 8 = .ok (.aload_n 0, 1) := by decide +kernel
theorem dX0_farFrom_9 : decode cX0_farFrom 9 = .ok (.getfield 18, 3) := by decide +kernel
theorem dX0_farFrom_12 : decode cX0_farFrom 12 = .ok (.goto 7, 3) := by decide +kernel
theorem dX0_farFrom_15 : decode cX0_farFrom 15 = .ok (.aload_n 0, 1) := by decide +kernel
theorem dX0_farFrom_16 : decode cX0_farFrom 16 = .ok (.getfield 15, 3) := by decide +kernel
theorem dX0_farFrom_19 : decode cX0_farFrom 19 = .ok (.ireturn, 1) := by decide +kernel
theorem dX0_endsSet_0 : decode cX0_endsSet 0 = .ok (.iconst 1, 1) := by decide +kernel
theorem dX0_endsSet_1 : decode cX0_endsSet 1 = .ok (.aload_n 0, 1) := by decide +kernel
theorem dX0_endsSet_2 : decode cX0_endsSet 2 = .ok (.getfield 15, 3) := by decide +kernel
theorem dX0_endsSet_5 : decode cX0_endsSet 5 = .ok (.ishl, 1) := by decide +kernel
theorem dX0_endsSet_6 : decode cX0_endsSet 6 = .ok (.iconst 1, 1) := by decide +kernel
theorem dX0_endsSet_7 : decode cX0_endsSet 7 = .ok (.aload_n 0, 1) := by decide +kernel
theorem dX0_endsSet_8 : decode cX0_endsSet 8 = .ok (.getfield 18, 3) := by decide +kernel
theorem dX0_endsSet_11 : decode cX0_endsSet 11 = .ok (.ishl, 1) := by decide +kernel
theorem dX0_endsSet_12 : decode cX0_endsSet 12 = .ok (.ior, 1) := by decide +kernel
theorem dX0_endsSet_13 : decode cX0_endsSet 13 = .ok (.ireturn, 1) := by decide +kernel
theorem dX0_distance_0 : decode cX0_distance 0 = .ok (.iload_n 1, 1) := by decide +kernel
theorem dX0_distance_1 : decode cX0_distance 1 = .ok (.aload_n 0, 1) := by decide +kernel
theorem dX0_distance_2 : decode cX0_distance 2 = .ok (.getfield 24, 3) := by decide +kernel
theorem dX0_distance_5 : decode cX0_distance 5 = .ok (.isub, 1) := by decide +kernel
theorem dX0_distance_6 : decode cX0_distance 6 = .ok (.invokestatic 39, 3) := by decide +kernel
theorem dX0_distance_9 : decode cX0_distance 9 = .ok (.ireturn, 1) := by decide +kernel
theorem dX0_takeRiddle_0 : decode cX0_takeRiddle 0 = .ok (.aload_n 0, 1) := by decide +kernel
theorem dX0_takeRiddle_1 : decode cX0_takeRiddle 1 = .ok (.aload_n 0, 1) := by decide +kernel
theorem dX0_takeRiddle_2 : decode cX0_takeRiddle 2 = .ok (.getfield 21, 3) := by decide +kernel
theorem dX0_takeRiddle_5 : decode cX0_takeRiddle 5 = .ok (.ifCond .le 12, 3) := by decide +kernel
theorem dX0_takeRiddle_8 : decode cX0_takeRiddle 8 = .ok (.iload_n 1, 1) := by decide +kernel
theorem dX0_takeRiddle_9 : decode cX0_takeRiddle 9 = .ok (.aload_n 0, 1) := by decide +kernel
theorem dX0_takeRiddle_10 : decode cX0_takeRiddle 10 = .ok (.getfield 21, 3) := by decide +kernel
theorem dX0_takeRiddle_13 : decode cX0_takeRiddle 13 = .ok (.irem, 1) := by decide +kernel
theorem dX0_takeRiddle_14 : decode cX0_takeRiddle 14 = .ok (.goto 4, 3) := by decide +kernel
theorem dX0_takeRiddle_17 : decode cX0_takeRiddle 17 = .ok (.iconst 0, 1) := by decide +kernel
theorem dX0_takeRiddle_18 : decode cX0_takeRiddle 18 = .ok (.putfield 24, 3) := by decide +kernel
theorem dX0_takeRiddle_21 : decode cX0_takeRiddle 21 = .ok (.return_, 1) := by decide +kernel
theorem dX1_init_0 : decode cX1_init 0 = .ok (.aload_n 0, 1) := by decide +kernel
theorem dX1_init_1 : decode cX1_init 1 = .ok (.invokespecial 3, 3) := by decide +kernel
theorem dX1_init_4 : decode cX1_init 4 = .ok (.aload_n 0, 1) := by decide +kernel
theorem dX1_init_5 : decode cX1_init 5 = .ok (.bipush (-6), 2) := by decide +kernel
theorem dX1_init_7 : decode cX1_init 7 = .ok (.putfield 9, 3) := by decide +kernel
theorem dX1_init_10 : decode cX1_init 10 = .ok (.aload_n 0, 1) := by decide +kernel
theorem dX1_init_11 : decode cX1_init 11 = .ok (.bipush (-6), 2) := by decide +kernel
theorem dX1_init_13 : decode cX1_init 13 = .ok (.putfield 15, 3) := by decide +kernel
theorem dX1_init_16 : decode cX1_init 16 = .ok (.aload_n 0, 1) := by decide +kernel
theorem dX1_init_17 : decode cX1_init 17 = .ok (.bipush 12, 2) := by decide +kernel
theorem dX1_init_19 : decode cX1_init 19 = .ok (.newarray .int, 2) := by decide +kernel
theorem dX1_init_21 : decode cX1_init 21 = .ok (.putfield 18, 3) := by decide +kernel
theorem dX1_init_24 : decode cX1_init 24 = .ok (.aload_n 0, 1) := by decide +kernel
theorem dX1_init_25 : decode cX1_init 25 = .ok (.bipush 12, 2) := by decide +kernel
theorem dX1_init_27 : decode cX1_init 27 = .ok (.newarray .int, 2) := by decide +kernel
theorem dX1_init_29 : decode cX1_init 29 = .ok (.putfield 22, 3) := by decide +kernel
theorem dX1_init_32 : decode cX1_init 32 = .ok (.aload_n 0, 1) := by decide +kernel
theorem dX1_init_33 : decode cX1_init 33 = .ok (.iload_n 1, 1) := by decide +kernel
theorem dX1_init_34 : decode cX1_init 34 = .ok (.putfield 25, 3) := by decide +kernel
theorem dX1_init_37 : decode cX1_init 37 = .ok (.return_, 1) := by decide +kernel
theorem dX1_copyFrom_0 : decode cX1_copyFrom 0 = .ok (.aload_n 0, 1) := by decide +kernel
theorem dX1_copyFrom_1 : decode cX1_copyFrom 1 = .ok (.aload_n 1, 1) := by decide +kernel
theorem dX1_copyFrom_2 : decode cX1_copyFrom 2 = .ok (.getfield 28, 3) := by decide +kernel
theorem dX1_copyFrom_5 : decode cX1_copyFrom 5 = .ok (.putfield 28, 3) := by decide +kernel
theorem dX1_copyFrom_8 : decode cX1_copyFrom 8 = .ok (.aload_n 0, 1) := by decide +kernel
theorem dX1_copyFrom_9 : decode cX1_copyFrom 9 = .ok (.aload_n 1, 1) := by decide +kernel
theorem dX1_copyFrom_10 : decode cX1_copyFrom 10 = .ok (.getfield 31, 3) := by decide +kernel
theorem dX1_copyFrom_13 : decode cX1_copyFrom 13 = .ok (.putfield 31, 3) := by decide +kernel
theorem dX1_copyFrom_16 : decode cX1_copyFrom 16 = .ok (.aload_n 0, 1) := by decide +kernel
theorem dX1_copyFrom_17 : decode cX1_copyFrom 17 = .ok (.aload_n 1, 1) := by decide +kernel
theorem dX1_copyFrom_18 : decode cX1_copyFrom 18 = .ok (.getfield 9, 3) := by decide +kernel
theorem dX1_copyFrom_21 : decode cX1_copyFrom 21 = .ok (.putfield 9, 3) := by decide +kernel
theorem dX1_copyFrom_24 : decode cX1_copyFrom 24 = .ok (.aload_n 0, 1) := by decide +kernel
theorem dX1_copyFrom_25 : decode cX1_copyFrom 25 = .ok (.aload_n 1, 1) := by decide +kernel
theorem dX1_copyFrom_26 : decode cX1_copyFrom 26 = .ok (.getfield 15, 3) := by decide +kernel
theorem dX1_copyFrom_29 : decode cX1_copyFrom 29 = .ok (.putfield 15, 3) := by decide +kernel
theorem dX1_copyFrom_32 : decode cX1_copyFrom 32 = .ok (.aload_n 0, 1) := by decide +kernel
theorem dX1_copyFrom_33 : decode cX1_copyFrom 33 = .ok (.aload_n 1, 1) := by decide +kernel
theorem dX1_copyFrom_34 : decode cX1_copyFrom 34 = .ok (.getfield 34, 3) := by decide +kernel
theorem dX1_copyFrom_37 : decode cX1_copyFrom 37 = .ok (.putfield 34, 3) := by decide +kernel
theorem dX1_copyFrom_40 : decode cX1_copyFrom 40 = .ok (.aload_n 0, 1) := by decide +kernel
theorem dX1_copyFrom_41 : decode cX1_copyFrom 41 = .ok (.aload_n 1, 1) := by decide +kernel
theorem dX1_copyFrom_42 : decode cX1_copyFrom 42 = .ok (.getfield 37, 3) := by decide +kernel
theorem dX1_copyFrom_45 : decode cX1_copyFrom 45 = .ok (.putfield 37, 3) := by decide +kernel
theorem dX1_copyFrom_48 : decode cX1_copyFrom 48 = .ok (.aload_n 0, 1) := by decide +kernel
theorem dX1_copyFrom_49 : decode cX1_copyFrom 49 = .ok (.aload_n 1, 1) := by decide +kernel
theorem dX1_copyFrom_50 : decode cX1_copyFrom 50 = .ok (.getfield 40, 3) := by decide +kernel
theorem dX1_copyFrom_53 : decode cX1_copyFrom 53 = .ok (.putfield 40, 3) := by decide +kernel
theorem dX1_copyFrom_56 : decode cX1_copyFrom 56 = .ok (.aload_n 0, 1) := by decide +kernel
theorem dX1_copyFrom_57 : decode cX1_copyFrom 57 = .ok (.aload_n 1, 1) := by decide +kernel
theorem dX1_copyFrom_58 : decode cX1_copyFrom 58 = .ok (.getfield 43, 3) := by decide +kernel
theorem dX1_copyFrom_61 : decode cX1_copyFrom 61 = .ok (.putfield 43, 3) := by decide +kernel
theorem dX1_copyFrom_64 : decode cX1_copyFrom 64 = .ok (.aload_n 1, 1) := by decide +kernel
theorem dX1_copyFrom_65 : decode cX1_copyFrom 65 = .ok (.getfield 18, 3) := by decide +kernel
theorem dX1_copyFrom_68 : decode cX1_copyFrom 68 = .ok (.iconst 0, 1) := by decide +kernel
theorem dX1_copyFrom_69 : decode cX1_copyFrom 69 = .ok (.aload_n 0, 1) := by decide +kernel
theorem dX1_copyFrom_70 : decode cX1_copyFrom 70 = .ok (.getfield 18, 3) := by decide +kernel
theorem dX1_copyFrom_73 : decode cX1_copyFrom 73 = .ok (.iconst 0, 1) := by decide +kernel
theorem dX1_copyFrom_74 : decode cX1_copyFrom 74 = .ok (.bipush 12, 2) := by decide +kernel
theorem dX1_copyFrom_76 : decode cX1_copyFrom 76 = .ok (.invokestatic 46, 3) := by decide +kernel
theorem dX1_copyFrom_79 : decode cX1_copyFrom 79 = .ok (.aload_n 1, 1) := by decide +kernel
theorem dX1_copyFrom_80 : decode cX1_copyFrom 80 = .ok (.getfield 22, 3) := by decide +kernel
theorem dX1_copyFrom_83 : decode cX1_copyFrom 83 = .ok (.iconst 0, 1) := by decide +kernel
theorem dX1_copyFrom_84 : decode cX1_copyFrom 84 = .ok (.aload_n 0, 1) := by decide +kernel
theorem dX1_copyFrom_85 : decode cX1_copyFrom 85 = .ok (.getfield 22, 3) := by decide +kernel
theorem dX1_copyFrom_88 : decode cX1_copyFrom 88 = .ok (.iconst 0, 1) := by decide +kernel
theorem dX1_copyFrom_89 : decode cX1_copyFrom 89 = .ok (.bipush 12, 2) := by decide +kernel
theorem dX1_copyFrom_91 : decode cX1_copyFrom 91 = .ok (.invokestatic 46, 3) := by decide +kernel
theorem dX1_copyFrom_94 : decode cX1_copyFrom 94 = .ok (.return_, 1) := by decide +kernel
theorem dX1_part_0 : decode cX1_part 0 = .ok (.iload_n 1, 1) := by decide +kernel
theorem dX1_part_1 : decode cX1_part 1 = .ok (.tableswitch 78 0 6 #[43, 48, 53, 58, 63, 68, 73], 43) := by decide +kernel
theorem dX1_part_44 : decode cX1_part 44 = .ok (.aload_n 0, 1) := by decide +kernel
theorem dX1_part_45 : decode cX1_part 45 = .ok (.getfield 28, 3) := by decide +kernel
theorem dX1_part_48 : decode cX1_part 48 = .ok (.ireturn, 1) := by decide +kernel
theorem dX1_part_49 : decode cX1_part 49 = .ok (.aload_n 0, 1) := by decide +kernel
theorem dX1_part_50 : decode cX1_part 50 = .ok (.getfield 31, 3) := by decide +kernel
theorem dX1_part_53 : decode cX1_part 53 = .ok (.ireturn, 1) := by decide +kernel
theorem dX1_part_54 : decode cX1_part 54 = .ok (.aload_n 0, 1) := by decide +kernel
theorem dX1_part_55 : decode cX1_part 55 = .ok (.getfield 9, 3) := by decide +kernel
theorem dX1_part_58 : decode cX1_part 58 = .ok (.ireturn, 1) := by decide +kernel
theorem dX1_part_59 : decode cX1_part 59 = .ok (.aload_n 0, 1) := by decide +kernel
theorem dX1_part_60 : decode cX1_part 60 = .ok (.getfield 15, 3) := by decide +kernel
theorem dX1_part_63 : decode cX1_part 63 = .ok (.ireturn, 1) := by decide +kernel
theorem dX1_part_64 : decode cX1_part 64 = .ok (.aload_n 0, 1) := by decide +kernel
theorem dX1_part_65 : decode cX1_part 65 = .ok (.getfield 34, 3) := by decide +kernel
theorem dX1_part_68 : decode cX1_part 68 = .ok (.ireturn, 1) := by decide +kernel
theorem dX1_part_69 : decode cX1_part 69 = .ok (.aload_n 0, 1) := by decide +kernel
theorem dX1_part_70 : decode cX1_part 70 = .ok (.getfield 37, 3) := by decide +kernel
theorem dX1_part_73 : decode cX1_part 73 = .ok (.ireturn, 1) := by decide +kernel
theorem dX1_part_74 : decode cX1_part 74 = .ok (.aload_n 0, 1) := by decide +kernel
theorem dX1_part_75 : decode cX1_part 75 = .ok (.getfield 40, 3) := by decide +kernel
theorem dX1_part_78 : decode cX1_part 78 = .ok (.ireturn, 1) := by decide +kernel
theorem dX1_part_79 : decode cX1_part 79 = .ok (.aload_n 0, 1) := by decide +kernel
theorem dX1_part_80 : decode cX1_part 80 = .ok (.getfield 43, 3) := by decide +kernel
theorem dX1_part_83 : decode cX1_part 83 = .ok (.ireturn, 1) := by decide +kernel
theorem dX1_isWaiting_0 : decode cX1_isWaiting 0 = .ok (.aload_n 0, 1) := by decide +kernel
theorem dX1_isWaiting_1 : decode cX1_isWaiting 1 = .ok (.getfield 9, 3) := by decide +kernel
theorem dX1_isWaiting_4 : decode cX1_isWaiting 4 = .ok (.bipush (-6), 2) := by decide +kernel
theorem dX1_isWaiting_6 : decode cX1_isWaiting 6 = .ok (.if_icmp .eq 7, 3) := by decide +kernel
theorem dX1_isWaiting_9 : decode cX1_isWaiting 9 = .ok (.iconst 1, 1) := by decide +kernel
theorem dX1_isWaiting_10 : decode cX1_isWaiting 10 = .ok (.goto 4, 3) := by decide +kernel
theorem dX1_isWaiting_13 : decode cX1_isWaiting 13 = .ok (.iconst 0, 1) := by decide +kernel
theorem dX1_isWaiting_14 : decode cX1_isWaiting 14 = .ok (.ireturn, 1) := by decide +kernel
theorem dX1_lowest_0 : decode cX1_lowest 0 = .ok (.aload_n 0, 1) := by decide +kernel
theorem dX1_lowest_1 : decode cX1_lowest 1 = .ok (.getfield 18, 3) := by decide +kernel
theorem dX1_lowest_4 : decode cX1_lowest 4 = .ok (.aload_n 1, 1) := by decide +kernel
theorem dX1_lowest_5 : decode cX1_lowest 5 = .ok (.getfield 52, 3) := by decide +kernel
theorem dX1_lowest_8 : decode cX1_lowest 8 = .ok (.iaload, 1) := by decide +kernel
theorem dX1_lowest_9 : decode cX1_lowest 9 = .ok (.ireturn, 1) := by decide +kernel
theorem dX1_highest_0 : decode cX1_highest 0 = .ok (.aload_n 0, 1) := by decide +kernel
theorem dX1_highest_1 : decode cX1_highest 1 = .ok (.getfield 22, 3) := by decide +kernel
theorem dX1_highest_4 : decode cX1_highest 4 = .ok (.aload_n 1, 1) := by decide +kernel
theorem dX1_highest_5 : decode cX1_highest 5 = .ok (.getfield 52, 3) := by decide +kernel
theorem dX1_highest_8 : decode cX1_highest 8 = .ok (.iaload, 1) := by decide +kernel
theorem dX1_highest_9 : decode cX1_highest 9 = .ok (.ireturn, 1) := by decide +kernel
theorem dX1_numbersLeft_0 : decode cX1_numbersLeft 0 = .ok (.aload_n 0, 1) := by decide +kernel
theorem dX1_numbersLeft_1 : decode cX1_numbersLeft 1 = .ok (.aload_n 1, 1) := by decide +kernel
theorem dX1_numbersLeft_2 : decode cX1_numbersLeft 2 = .ok (.invokevirtual 55, 3) := by decide +kernel
theorem dX1_numbersLeft_5 : decode cX1_numbersLeft 5 = .ok (.aload_n 0, 1) := by decide +kernel
theorem dX1_numbersLeft_6 : decode cX1_numbersLeft 6 = .ok (.aload_n 1, 1) := by decide +kernel
theorem dX1_numbersLeft_7 : decode cX1_numbersLeft 7 = .ok (.invokevirtual 59, 3) := by decide +kernel
theorem dX1_numbersLeft_10 : decode cX1_numbersLeft 10 = .ok (.isub, 1) := by decide +kernel
theorem dX1_numbersLeft_11 : decode cX1_numbersLeft 11 = .ok (.iconst 1, 1) := by decide +kernel
theorem dX1_numbersLeft_12 : decode cX1_numbersLeft 12 = .ok (.iadd, 1) := by decide +kernel
theorem dX1_numbersLeft_13 : decode cX1_numbersLeft 13 = .ok (.ireturn, 1) := by decide +kernel
theorem dX1_forget_0 : decode cX1_forget 0 = .ok (.aload_n 0, 1) := by decide +kernel
theorem dX1_forget_1 : decode cX1_forget 1 = .ok (.getfield 18, 3) := by decide +kernel
theorem dX1_forget_4 : decode cX1_forget 4 = .ok (.aload_n 1, 1) := by decide +kernel
theorem dX1_forget_5 : decode cX1_forget 5 = .ok (.getfield 52, 3) := by decide +kernel
theorem dX1_forget_8 : decode cX1_forget 8 = .ok (.iconst 0, 1) := by decide +kernel
theorem dX1_forget_9 : decode cX1_forget 9 = .ok (.iastore, 1) := by decide +kernel
theorem dX1_forget_10 : decode cX1_forget 10 = .ok (.aload_n 0, 1) := by decide +kernel
theorem dX1_forget_11 : decode cX1_forget 11 = .ok (.getfield 22, 3) := by decide +kernel
theorem dX1_forget_14 : decode cX1_forget 14 = .ok (.aload_n 1, 1) := by decide +kernel
theorem dX1_forget_15 : decode cX1_forget 15 = .ok (.getfield 52, 3) := by decide +kernel
theorem dX1_forget_18 : decode cX1_forget 18 = .ok (.aload_n 1, 1) := by decide +kernel
theorem dX1_forget_19 : decode cX1_forget 19 = .ok (.getfield 62, 3) := by decide +kernel
theorem dX1_forget_22 : decode cX1_forget 22 = .ok (.iconst 1, 1) := by decide +kernel
theorem dX1_forget_23 : decode cX1_forget 23 = .ok (.isub, 1) := by decide +kernel
theorem dX1_forget_24 : decode cX1_forget 24 = .ok (.iastore, 1) := by decide +kernel
theorem dX1_forget_25 : decode cX1_forget 25 = .ok (.return_, 1) := by decide +kernel
theorem dX1_halve_0 : decode cX1_halve 0 = .ok (.aload_n 0, 1) := by decide +kernel
theorem dX1_halve_1 : decode cX1_halve 1 = .ok (.aload_n 1, 1) := by decide +kernel
theorem dX1_halve_2 : decode cX1_halve 2 = .ok (.invokevirtual 59, 3) := by decide +kernel
theorem dX1_halve_5 : decode cX1_halve 5 = .ok (.aload_n 0, 1) := by decide +kernel
theorem dX1_halve_6 : decode cX1_halve 6 = .ok (.aload_n 1, 1) := by decide +kernel
theorem dX1_halve_7 : decode cX1_halve 7 = .ok (.invokevirtual 55, 3) := by decide +kernel
theorem dX1_halve_10 : decode cX1_halve 10 = .ok (.iadd, 1) := by decide +kernel
theorem dX1_halve_11 : decode cX1_halve 11 = .ok (.iconst 2, 1) := by decide +kernel
theorem dX1_halve_12 : decode cX1_halve 12 = .ok (.idiv, 1) := by decide +kernel
theorem dX1_halve_13 : decode cX1_halve 13 = .ok (.istore_n 2, 1) := by decide +kernel
theorem dX1_halve_14 : decode cX1_halve 14 = .ok (.aload_n 1, 1) := by decide +kernel
theorem dX1_halve_15 : decode cX1_halve 15 = .ok (.getfield 65, 3) := by decide +kernel
theorem dX1_halve_18 : decode cX1_halve 18 = .ok (.iload_n 2, 1) := by decide +kernel
theorem dX1_halve_19 : decode cX1_halve 19 = .ok (.if_icmp .gt 16, 3) := by decide +kernel
theorem dX1_halve_22 : decode cX1_halve 22 = .ok (.aload_n 0, 1) := by decide +kernel
theorem dX1_halve_23 : decode cX1_halve 23 = .ok (.getfield 22, 3) := by decide +kernel
theorem dX1_halve_26 : decode cX1_halve 26 = .ok (.aload_n 1, 1) := by decide +kernel
theorem dX1_halve_27 : decode cX1_halve 27 = .ok (.getfield 52, 3) := by decide +kernel
theorem dX1_halve_30 : decode cX1_halve 30 = .ok (.iload_n 2, 1) := by decide +kernel
theorem dX1_halve_31 : decode cX1_halve 31 = .ok (.iastore, 1) := by decide +kernel
theorem dX1_halve_32 : decode cX1_halve 32 = .ok (.goto 15, 3) := by decide +kernel
theorem dX1_halve_35 : decode cX1_halve 35 = .ok (.aload_n 0, 1) := by decide +kernel
theorem dX1_halve_36 : decode cX1_halve 36 = .ok (.getfield 18, 3) := by decide +kernel
theorem dX1_halve_39 : decode cX1_halve 39 = .ok (.aload_n 1, 1) := by decide +kernel
theorem dX1_halve_40 : decode cX1_halve 40 = .ok (.getfield 52, 3) := by decide +kernel
theorem dX1_halve_43 : decode cX1_halve 43 = .ok (.iload_n 2, 1) := by decide +kernel
theorem dX1_halve_44 : decode cX1_halve 44 = .ok (.iconst 1, 1) := by decide +kernel
theorem dX1_halve_45 : decode cX1_halve 45 = .ok (.iadd, 1) := by decide +kernel
theorem dX1_halve_46 : decode cX1_halve 46 = .ok (.iastore, 1) := by decide +kernel
theorem dX1_halve_47 : decode cX1_halve 47 = .ok (.return_, 1) := by decide +kernel
theorem dX1_numbersNearer_0 : decode cX1_numbersNearer 0 = .ok (.iload_n 2, 1) := by decide +kernel
theorem dX1_numbersNearer_1 : decode cX1_numbersNearer 1 = .ok (.iload_n 3, 1) := by decide +kernel
theorem dX1_numbersNearer_2 : decode cX1_numbersNearer 2 = .ok (.iadd, 1) := by decide +kernel
theorem dX1_numbersNearer_3 : decode cX1_numbersNearer 3 = .ok (.istore 4, 2) := by decide +kernel
theorem dX1_numbersNearer_5 : decode cX1_numbersNearer 5 = .ok (.iload_n 2, 1) := by decide +kernel
theorem dX1_numbersNearer_6 : decode cX1_numbersNearer 6 = .ok (.iload_n 3, 1) := by decide +kernel
theorem dX1_numbersNearer_7 : decode cX1_numbersNearer 7 = .ok (.if_icmp .ge 30, 3) := by decide +kernel
theorem dX1_numbersNearer_10 : decode cX1_numbersNearer 10 = .ok (.iconst 0, 1) := by decide +kernel
theorem dX1_numbersNearer_11 : decode cX1_numbersNearer 11 = .ok (.aload_n 0, 1) := by decide +kernel
theorem dX1_numbersNearer_12 : decode cX1_numbersNearer 12 = .ok (.aload_n 1, 1) := by decide +kernel
theorem dX1_numbersNearer_13 : decode cX1_numbersNearer 13 = .ok (.invokevirtual 55, 3) := by decide +kernel
theorem dX1_numbersNearer_16 : decode cX1_numbersNearer 16 = .ok (.iload 4, 2) := by decide +kernel
theorem dX1_numbersNearer_18 : decode cX1_numbersNearer 18 = .ok (.iconst 1, 1) := by decide +kernel
theorem dX1_numbersNearer_19 : decode cX1_numbersNearer 19 = .ok (.isub, 1) := by decide +kernel
theorem dX1_numbersNearer_20 : decode cX1_numbersNearer 20 = .ok (.iconst 2, 1) := by decide +kernel
theorem dX1_numbersNearer_21 : decode cX1_numbersNearer 21 = .ok (.idiv, 1) := by decide +kernel
theorem dX1_numbersNearer_22 : decode cX1_numbersNearer 22 = .ok (.invokestatic 68, 3) := by decide +kernel
theorem dX1_numbersNearer_25 : decode cX1_numbersNearer 25 = .ok (.aload_n 0, 1) := by decide +kernel
theorem dX1_numbersNearer_26 : decode cX1_numbersNearer 26 = .ok (.aload_n 1, 1) := by decide +kernel
theorem dX1_numbersNearer_27 : decode cX1_numbersNearer 27 = .ok (.invokevirtual 59, 3) := by decide +kernel
theorem dX1_numbersNearer_30 : decode cX1_numbersNearer 30 = .ok (.isub, 1) := by decide +kernel
theorem dX1_numbersNearer_31 : decode cX1_numbersNearer 31 = .ok (.iconst 1, 1) := by decide +kernel
theorem dX1_numbersNearer_32 : decode cX1_numbersNearer 32 = .ok (.iadd, 1) := by decide +kernel
theorem dX1_numbersNearer_33 : decode cX1_numbersNearer 33 = .ok (.invokestatic 74, 3) := by decide +kernel
theorem dX1_numbersNearer_36 : decode cX1_numbersNearer 36 = .ok (.ireturn, 1) := by decide +kernel
theorem dX1_numbersNearer_37 : decode cX1_numbersNearer 37 = .ok (.iload_n 2, 1) := by decide +kernel
theorem dX1_numbersNearer_38 : decode cX1_numbersNearer 38 = .ok (.iload_n 3, 1) := by decide +kernel
theorem dX1_numbersNearer_39 : decode cX1_numbersNearer 39 = .ok (.if_icmp .le 30, 3) := by decide +kernel
theorem dX1_numbersNearer_42 : decode cX1_numbersNearer 42 = .ok (.iconst 0, 1) := by decide +kernel
theorem dX1_numbersNearer_43 : decode cX1_numbersNearer 43 = .ok (.aload_n 0, 1) := by decide +kernel
theorem dX1_numbersNearer_44 : decode cX1_numbersNearer 44 = .ok (.aload_n 1, 1) := by decide +kernel
theorem dX1_numbersNearer_45 : decode cX1_numbersNearer 45 = .ok (.invokevirtual 55, 3) := by decide +kernel
theorem dX1_numbersNearer_48 : decode cX1_numbersNearer 48 = .ok (.aload_n 0, 1) := by decide +kernel
theorem dX1_numbersNearer_49 : decode cX1_numbersNearer 49 = .ok (.aload_n 1, 1) := by decide +kernel
theorem dX1_numbersNearer_50 : decode cX1_numbersNearer 50 = .ok (.invokevirtual 59, 3) := by decide +kernel
theorem dX1_numbersNearer_53 : decode cX1_numbersNearer 53 = .ok (.iload 4, 2) := by decide +kernel
theorem dX1_numbersNearer_55 : decode cX1_numbersNearer 55 = .ok (.iconst 2, 1) := by decide +kernel
theorem dX1_numbersNearer_56 : decode cX1_numbersNearer 56 = .ok (.idiv, 1) := by decide +kernel
theorem dX1_numbersNearer_57 : decode cX1_numbersNearer 57 = .ok (.iconst 1, 1) := by decide +kernel
theorem dX1_numbersNearer_58 : decode cX1_numbersNearer 58 = .ok (.iadd, 1) := by decide +kernel
theorem dX1_numbersNearer_59 : decode cX1_numbersNearer 59 = .ok (.invokestatic 74, 3) := by decide +kernel
theorem dX1_numbersNearer_62 : decode cX1_numbersNearer 62 = .ok (.isub, 1) := by decide +kernel
theorem dX1_numbersNearer_63 : decode cX1_numbersNearer 63 = .ok (.iconst 1, 1) := by decide +kernel
theorem dX1_numbersNearer_64 : decode cX1_numbersNearer 64 = .ok (.iadd, 1) := by decide +kernel
theorem dX1_numbersNearer_65 : decode cX1_numbersNearer 65 = .ok (.invokestatic 74, 3) := by decide +kernel
theorem dX1_numbersNearer_68 : decode cX1_numbersNearer 68 = .ok (.ireturn, 1) := by decide +kernel
theorem dX1_numbersNearer_69 : decode cX1_numbersNearer 69 = .ok (.iconst 0, 1) := by decide +kernel
theorem dX1_numbersNearer_70 : decode cX1_numbersNearer 70 = .ok (.ireturn, 1) := by decide +kernel
theorem dX1_pay_0 : decode cX1_pay 0 = .ok (.aload_n 0, 1) := by decide +kernel
theorem dX1_pay_1 : decode cX1_pay 1 = .ok (.dup, 1) := by decide +kernel
theorem dX1_pay_2 : decode cX1_pay 2 = .ok (.getfield 31, 3) := by decide +kernel
theorem dX1_pay_5 : decode cX1_pay 5 = .ok (.iload_n 1, 1) := by decide +kernel
theorem dX1_pay_6 : decode cX1_pay 6 = .ok (.isub, 1) := by decide +kernel
theorem dX1_pay_7 : decode cX1_pay 7 = .ok (.putfield 31, 3) := by decide +kernel
theorem dX1_pay_10 : decode cX1_pay 10 = .ok (.aload_n 0, 1) := by decide +kernel
theorem dX1_pay_11 : decode cX1_pay 11 = .ok (.dup, 1) := by decide +kernel
theorem dX1_pay_12 : decode cX1_pay 12 = .ok (.getfield 40, 3) := by decide +kernel
theorem dX1_pay_15 : decode cX1_pay 15 = .ok (.iload_n 1, 1) := by decide +kernel
theorem dX1_pay_16 : decode cX1_pay 16 = .ok (.iadd, 1) := by decide +kernel
theorem dX1_pay_17 : decode cX1_pay 17 = .ok (.putfield 40, 3) := by decide +kernel
theorem dX1_pay_20 : decode cX1_pay 20 = .ok (.aload_n 2, 1) := by decide +kernel
theorem dX1_pay_21 : decode cX1_pay 21 = .ok (.dup, 1) := by decide +kernel
theorem dX1_pay_22 : decode cX1_pay 22 = .ok (.getfield 77, 3) := by decide +kernel
theorem dX1_pay_25 : decode cX1_pay 25 = .ok (.iload_n 1, 1) := by decide +kernel
theorem dX1_pay_26 : decode cX1_pay 26 = .ok (.iadd, 1) := by decide +kernel
theorem dX1_pay_27 : decode cX1_pay 27 = .ok (.putfield 77, 3) := by decide +kernel
theorem dX1_pay_30 : decode cX1_pay 30 = .ok (.return_, 1) := by decide +kernel
theorem dX1_takeGift_0 : decode cX1_takeGift 0 = .ok (.iload_n 1, 1) := by decide +kernel
theorem dX1_takeGift_1 : decode cX1_takeGift 1 = .ok (.aload_n 2, 1) := by decide +kernel
theorem dX1_takeGift_2 : decode cX1_takeGift 2 = .ok (.getfield 77, 3) := by decide +kernel
theorem dX1_takeGift_5 : decode cX1_takeGift 5 = .ok (.invokestatic 68, 3) := by decide +kernel
theorem dX1_takeGift_8 : decode cX1_takeGift 8 = .ok (.istore_n 3, 1) := by decide +kernel
theorem dX1_takeGift_9 : decode cX1_takeGift 9 = .ok (.aload_n 2, 1) := by decide +kernel
theorem dX1_takeGift_10 : decode cX1_takeGift 10 = .ok (.dup, 1) := by decide +kernel
theorem dX1_takeGift_11 : decode cX1_takeGift 11 = .ok (.getfield 77, 3) := by decide +kernel
theorem dX1_takeGift_14 : decode cX1_takeGift 14 = .ok (.iload_n 3, 1) := by decide +kernel
theorem dX1_takeGift_15 : decode cX1_takeGift 15 = .ok (.isub, 1) := by decide +kernel
theorem dX1_takeGift_16 : decode cX1_takeGift 16 = .ok (.putfield 77, 3) := by decide +kernel
theorem dX1_takeGift_19 : decode cX1_takeGift 19 = .ok (.aload_n 0, 1) := by decide +kernel
theorem dX1_takeGift_20 : decode cX1_takeGift 20 = .ok (.dup, 1) := by decide +kernel
theorem dX1_takeGift_21 : decode cX1_takeGift 21 = .ok (.getfield 31, 3) := by decide +kernel
theorem dX1_takeGift_24 : decode cX1_takeGift 24 = .ok (.iload_n 3, 1) := by decide +kernel
theorem dX1_takeGift_25 : decode cX1_takeGift 25 = .ok (.iadd, 1) := by decide +kernel
theorem dX1_takeGift_26 : decode cX1_takeGift 26 = .ok (.putfield 31, 3) := by decide +kernel
theorem dX1_takeGift_29 : decode cX1_takeGift 29 = .ok (.aload_n 0, 1) := by decide +kernel
theorem dX1_takeGift_30 : decode cX1_takeGift 30 = .ok (.dup, 1) := by decide +kernel
theorem dX1_takeGift_31 : decode cX1_takeGift 31 = .ok (.getfield 43, 3) := by decide +kernel
theorem dX1_takeGift_34 : decode cX1_takeGift 34 = .ok (.iload_n 3, 1) := by decide +kernel
theorem dX1_takeGift_35 : decode cX1_takeGift 35 = .ok (.iadd, 1) := by decide +kernel
theorem dX1_takeGift_36 : decode cX1_takeGift 36 = .ok (.putfield 43, 3) := by decide +kernel
theorem dX1_takeGift_39 : decode cX1_takeGift 39 = .ok (.return_, 1) := by decide +kernel
theorem dX2_init_0 : decode cX2_init 0 = .ok (.aload_n 0, 1) := by decide +kernel
theorem dX2_init_1 : decode cX2_init 1 = .ok (.invokespecial 3, 3) := by decide +kernel
theorem dX2_init_4 : decode cX2_init 4 = .ok (.aload_n 0, 1) := by decide +kernel
theorem dX2_init_5 : decode cX2_init 5 = .ok (.bipush 7, 2) := by decide +kernel
theorem dX2_init_7 : decode cX2_init 7 = .ok (.anewarray 11, 3) := by decide +kernel
theorem dX2_init_10 : decode cX2_init 10 = .ok (.putfield 13, 3) := by decide +kernel
theorem dX2_init_13 : decode cX2_init 13 = .ok (.iconst 0, 1) := by decide +kernel
theorem dX2_init_14 : decode cX2_init 14 = .ok (.istore_n 1, 1) := by decide +kernel
theorem dX2_init_15 : decode cX2_init 15 = .ok (.iload_n 1, 1) := by decide +kernel
theorem dX2_init_16 : decode cX2_init 16 = .ok (.bipush 7, 2) := by decide +kernel
theorem dX2_init_18 : decode cX2_init 18 = .ok (.if_icmp .ge 22, 3) := by decide +kernel
theorem dX2_init_21 : decode cX2_init 21 = .ok (.aload_n 0, 1) := by decide +kernel
theorem dX2_init_22 : decode cX2_init 22 = .ok (.getfield 13, 3) := by decide +kernel
theorem dX2_init_25 : decode cX2_init 25 = .ok (.iload_n 1, 1) := by decide +kernel
theorem dX2_init_26 : decode cX2_init 26 = .ok (.new 11, 3) := by decide +kernel
theorem dX2_init_29 : decode cX2_init 29 = .ok (.dup, 1) := by decide +kernel
theorem dX2_init_30 : decode cX2_init 30 = .ok (.invokespecial 17, 3) := by decide +kernel
theorem dX2_init_33 : decode cX2_init 33 = .ok (.aastore, 1) := by decide +kernel
theorem dX2_init_34 : decode cX2_init 34 = .ok (.iinc 1 1, 3) := by decide +kernel
theorem dX2_init_37 : decode cX2_init 37 = .ok (.goto (-22), 3) := by decide +kernel
theorem dX2_init_40 : decode cX2_init 40 = .ok (.return_, 1) := by decide +kernel
theorem dX2_note_0 : decode cX2_note 0 = .ok (.aload_n 0, 1) := by decide +kernel
theorem dX2_note_1 : decode cX2_note 1 = .ok (.getfield 13, 3) := by decide +kernel
theorem dX2_note_4 : decode cX2_note 4 = .ok (.aload_n 0, 1) := by decide +kernel
theorem dX2_note_5 : decode cX2_note 5 = .ok (.getfield 18, 3) := by decide +kernel
theorem dX2_note_8 : decode cX2_note 8 = .ok (.aaload, 1) := by decide +kernel
theorem dX2_note_9 : decode cX2_note 9 = .ok (.aload_n 1, 1) := by decide +kernel
theorem dX2_note_10 : decode cX2_note 10 = .ok (.invokevirtual 22, 3) := by decide +kernel
theorem dX2_note_13 : decode cX2_note 13 = .ok (.return_, 1) := by decide +kernel
theorem dX2_keepNoted_0 : decode cX2_keepNoted 0 = .ok (.aload_n 0, 1) := by decide +kernel
theorem dX2_keepNoted_1 : decode cX2_keepNoted 1 = .ok (.aload_n 0, 1) := by decide +kernel
theorem dX2_keepNoted_2 : decode cX2_keepNoted 2 = .ok (.getfield 18, 3) := by decide +kernel
theorem dX2_keepNoted_5 : decode cX2_keepNoted 5 = .ok (.iconst 1, 1) := by decide +kernel
theorem dX2_keepNoted_6 : decode cX2_keepNoted 6 = .ok (.iadd, 1) := by decide +kernel
theorem dX2_keepNoted_7 : decode cX2_keepNoted 7 = .ok (.bipush 7, 2) := by decide +kernel
theorem dX2_keepNoted_9 : decode cX2_keepNoted 9 = .ok (.irem, 1) := by decide +kernel
theorem dX2_keepNoted_10 : decode cX2_keepNoted 10 = .ok (.putfield 18, 3) := by decide +kernel
theorem dX2_keepNoted_13 : decode cX2_keepNoted 13 = .ok (.aload_n 0, 1) := by decide +kernel
theorem dX2_keepNoted_14 : decode cX2_keepNoted 14 = .ok (.aload_n 0, 1) := by decide +kernel
theorem dX2_keepNoted_15 : decode cX2_keepNoted 15 = .ok (.getfield 26, 3) := by decide +kernel
theorem dX2_keepNoted_18 : decode cX2_keepNoted 18 = .ok (.iconst 1, 1) := by decide +kernel
theorem dX2_keepNoted_19 : decode cX2_keepNoted 19 = .ok (.iadd, 1) := by decide +kernel
theorem dX2_keepNoted_20 : decode cX2_keepNoted 20 = .ok (.bipush 6, 2) := by decide +kernel
theorem dX2_keepNoted_22 : decode cX2_keepNoted 22 = .ok (.invokestatic 29, 3) := by decide +kernel
theorem dX2_keepNoted_25 : decode cX2_keepNoted 25 = .ok (.putfield 26, 3) := by decide +kernel
theorem dX2_keepNoted_28 : decode cX2_keepNoted 28 = .ok (.return_, 1) := by decide +kernel
theorem dX2_takeBack_0 : decode cX2_takeBack 0 = .ok (.aload_n 0, 1) := by decide +kernel
theorem dX2_takeBack_1 : decode cX2_takeBack 1 = .ok (.aload_n 0, 1) := by decide +kernel
theorem dX2_takeBack_2 : decode cX2_takeBack 2 = .ok (.getfield 18, 3) := by decide +kernel
theorem dX2_takeBack_5 : decode cX2_takeBack 5 = .ok (.bipush 7, 2) := by decide +kernel
theorem dX2_takeBack_7 : decode cX2_takeBack 7 = .ok (.iadd, 1) := by decide +kernel
theorem dX2_takeBack_8 : decode cX2_takeBack 8 = .ok (.iconst 1, 1) := by decide +kernel
theorem dX2_takeBack_9 : decode cX2_takeBack 9 = .ok (.isub, 1) := by decide +kernel
theorem dX2_takeBack_10 : decode cX2_takeBack 10 = .ok (.bipush 7, 2) := by decide +kernel
theorem dX2_takeBack_12 : decode cX2_takeBack 12 = .ok (.irem, 1) := by decide +kernel
theorem dX2_takeBack_13 : decode cX2_takeBack 13 = .ok (.putfield 18, 3) := by decide +kernel
theorem dX2_takeBack_16 : decode cX2_takeBack 16 = .ok (.aload_n 0, 1) := by decide +kernel
theorem dX2_takeBack_17 : decode cX2_takeBack 17 = .ok (.dup, 1) := by decide +kernel
theorem dX2_takeBack_18 : decode cX2_takeBack 18 = .ok (.getfield 26, 3) := by decide +kernel
theorem dX2_takeBack_21 : decode cX2_takeBack 21 = .ok (.iconst 1, 1) := by decide +kernel
theorem dX2_takeBack_22 : decode cX2_takeBack 22 = .ok (.isub, 1) := by decide +kernel
theorem dX2_takeBack_23 : decode cX2_takeBack 23 = .ok (.putfield 26, 3) := by decide +kernel
theorem dX2_takeBack_26 : decode cX2_takeBack 26 = .ok (.aload_n 1, 1) := by decide +kernel
theorem dX2_takeBack_27 : decode cX2_takeBack 27 = .ok (.aload_n 0, 1) := by decide +kernel
theorem dX2_takeBack_28 : decode cX2_takeBack 28 = .ok (.getfield 13, 3) := by decide +kernel
theorem dX2_takeBack_31 : decode cX2_takeBack 31 = .ok (.aload_n 0, 1) := by decide +kernel
theorem dX2_takeBack_32 : decode cX2_takeBack 32 = .ok (.getfield 18, 3) := by decide +kernel
theorem dX2_takeBack_35 : decode cX2_takeBack 35 = .ok (.aaload, 1) := by decide +kernel
theorem dX2_takeBack_36 : decode cX2_takeBack 36 = .ok (.invokevirtual 22, 3) := by decide +kernel
theorem dX2_takeBack_39 : decode cX2_takeBack 39 = .ok (.return_, 1) := by decide +kernel
theorem dX3_init_0 : decode cX3_init 0 = .ok (.aload_n 0, 1) := by decide +kernel
theorem dX3_init_1 : decode cX3_init 1 = .ok (.invokespecial 3, 3) := by decide +kernel
theorem dX3_init_4 : decode cX3_init 4 = .ok (.aload_n 0, 1) := by decide +kernel
theorem dX3_init_5 : decode cX3_init 5 = .ok (.aload_n 1, 1) := by decide +kernel
theorem dX3_init_6 : decode cX3_init 6 = .ok (.putfield 9, 3) := by decide +kernel
theorem dX3_init_9 : decode cX3_init 9 = .ok (.return_, 1) := by decide +kernel
theorem dX3_goToStart_0 : decode cX3_goToStart 0 = .ok (.aload_n 0, 1) := by decide +kernel
theorem dX3_goToStart_1 : decode cX3_goToStart 1 = .ok (.iconst 0, 1) := by decide +kernel
theorem dX3_goToStart_2 : decode cX3_goToStart 2 = .ok (.putfield 15, 3) := by decide +kernel
theorem dX3_goToStart_5 : decode cX3_goToStart 5 = .ok (.return_, 1) := by decide +kernel
theorem dX3_faultPlace_0 : decode cX3_faultPlace 0 = .ok (.aload_n 0, 1) := by decide +kernel
theorem dX3_faultPlace_1 : decode cX3_faultPlace 1 = .ok (.invokevirtual 19, 3) := by decide +kernel
theorem dX3_faultPlace_4 : decode cX3_faultPlace 4 = .ok (.iconst 0, 1) := by decide +kernel
theorem dX3_faultPlace_5 : decode cX3_faultPlace 5 = .ok (.istore_n 1, 1) := by decide +kernel
theorem dX3_faultPlace_6 : decode cX3_faultPlace 6 = .ok (.iload_n 1, 1) := by decide +kernel
theorem dX3_faultPlace_7 : decode cX3_faultPlace 7 = .ok (.bipush 80, 2) := by decide +kernel
theorem dX3_faultPlace_9 : decode cX3_faultPlace 9 = .ok (.if_icmp .ge 47, 3) := by decide +kernel
theorem dX3_faultPlace_12 : decode cX3_faultPlace 12 = .ok (.aload_n 0, 1) := by decide +kernel
theorem dX3_faultPlace_13 : decode cX3_faultPlace 13 = .ok (.invokevirtual 22, 3) := by decide +kernel
theorem dX3_faultPlace_16 : decode cX3_faultPlace 16 = .ok (.ifCond .eq 40, 3) := by decide +kernel
theorem dX3_faultPlace_19 : decode cX3_faultPlace 19 = .ok (.aload_n 0, 1) := by decide +kernel
theorem dX3_faultPlace_20 : decode cX3_faultPlace 20 = .ok (.getfield 15, 3) := by decide +kernel
theorem dX3_faultPlace_23 : decode cX3_faultPlace 23 = .ok (.aload_n 0, 1) := by decide +kernel
theorem dX3_faultPlace_24 : decode cX3_faultPlace 24 = .ok (.getfield 9, 3) := by decide +kernel
theorem dX3_faultPlace_27 : decode cX3_faultPlace 27 = .ok (.getfield 26, 3) := by decide +kernel
theorem dX3_faultPlace_30 : decode cX3_faultPlace 30 = .ok (.if_icmp .ne 6, 3) := by decide +kernel
theorem dX3_faultPlace_33 : decode cX3_faultPlace 33 = .ok (.bipush (-6), 2) := by decide +kernel
theorem dX3_faultPlace_35 : decode cX3_faultPlace 35 = .ok (.ireturn, 1) := by decide +kernel
theorem dX3_faultPlace_36 : decode cX3_faultPlace 36 = .ok (.aload_n 0, 1) := by decide +kernel
theorem dX3_faultPlace_37 : decode cX3_faultPlace 37 = .ok (.bipush 59, 2) := by decide +kernel
theorem dX3_faultPlace_39 : decode cX3_faultPlace 39 = .ok (.invokevirtual 31, 3) := by decide +kernel
theorem dX3_faultPlace_42 : decode cX3_faultPlace 42 = .ok (.ifCond .ne 8, 3) := by decide +kernel
theorem dX3_faultPlace_45 : decode cX3_faultPlace 45 = .ok (.aload_n 0, 1) := by decide +kernel
theorem dX3_faultPlace_46 : decode cX3_faultPlace 46 = .ok (.getfield 15, 3) := by decide +kernel
theorem dX3_faultPlace_49 : decode cX3_faultPlace 49 = .ok (.ireturn, 1) := by decide +kernel
theorem dX3_faultPlace_50 : decode cX3_faultPlace 50 = .ok (.iinc 1 1, 3) := by decide +kernel
theorem dX3_faultPlace_53 : decode cX3_faultPlace 53 = .ok (.goto (-47), 3) := by decide +kernel
theorem dX3_faultPlace_56 : decode cX3_faultPlace 56 = .ok (.aload_n 0, 1) := by decide +kernel
theorem dX3_faultPlace_57 : decode cX3_faultPlace 57 = .ok (.getfield 15, 3) := by decide +kernel
theorem dX3_faultPlace_60 : decode cX3_faultPlace 60 = .ok (.ireturn, 1) := by decide +kernel
theorem dX3_readOrder_0 : decode cX3_readOrder 0 = .ok (.aload_n 0, 1) := by decide +kernel
theorem dX3_readOrder_1 : decode cX3_readOrder 1 = .ok (.aload_n 0, 1) := by decide +kernel
theorem dX3_readOrder_2 : decode cX3_readOrder 2 = .ok (.getfield 9, 3) := by decide +kernel
theorem dX3_readOrder_5 : decode cX3_readOrder 5 = .ok (.aload_n 0, 1) := by decide +kernel
theorem dX3_readOrder_6 : decode cX3_readOrder 6 = .ok (.getfield 15, 3) := by decide +kernel
theorem dX3_readOrder_9 : decode cX3_readOrder 9 = .ok (.invokevirtual 35, 3) := by decide +kernel
theorem dX3_readOrder_12 : decode cX3_readOrder 12 = .ok (.putfield 39, 3) := by decide +kernel
theorem dX3_readOrder_15 : decode cX3_readOrder 15 = .ok (.aload_n 0, 1) := by decide +kernel
theorem dX3_readOrder_16 : decode cX3_readOrder 16 = .ok (.getfield 39, 3) := by decide +kernel
theorem dX3_readOrder_19 : decode cX3_readOrder 19 = .ok (.invokestatic 42, 3) := by decide +kernel
theorem dX3_readOrder_22 : decode cX3_readOrder 22 = .ok (.ifCond .ne 5, 3) := by decide +kernel
theorem dX3_readOrder_25 : decode cX3_readOrder 25 = .ok (.iconst 0, 1) := by decide +kernel
theorem dX3_readOrder_26 : decode cX3_readOrder 26 = .ok (.ireturn, 1) := by decide +kernel
theorem dX3_readOrder_27 : decode cX3_readOrder 27 = .ok (.aload_n 0, 1) := by decide +kernel
theorem dX3_readOrder_28 : decode cX3_readOrder 28 = .ok (.dup, 1) := by decide +kernel
theorem dX3_readOrder_29 : decode cX3_readOrder 29 = .ok (.getfield 15, 3) := by decide +kernel
theorem dX3_readOrder_32 : decode cX3_readOrder 32 = .ok (.iconst 1, 1) := by decide +kernel
theorem dX3_readOrder_33 : decode cX3_readOrder 33 = .ok (.iadd, 1) := by decide +kernel
theorem dX3_readOrder_34 : decode cX3_readOrder 34 = .ok (.putfield 15, 3) := by decide +kernel
theorem dX3_readOrder_37 : decode cX3_readOrder 37 = .ok (.aload_n 0, 1) := by decide +kernel
theorem dX3_readOrder_38 : decode cX3_readOrder 38 = .ok (.getfield 39, 3) := by decide +kernel
theorem dX3_readOrder_41 : decode cX3_readOrder 41 = .ok (.tableswitch 196 98 108 #[59, 88, 196, 196, 196, 117, 162, 196, 196, 196, 191], 59) := by decide +kernel
theorem dX3_readOrder_100 : decode cX3_readOrder 100 = .ok (.aload_n 0, 1) := by decide +kernel
theorem dX3_readOrder_101 : decode cX3_readOrder 101 = .ok (.invokevirtual 45, 3) := by decide +kernel
theorem dX3_readOrder_104 : decode cX3_readOrder 104 = .ok (.ifCond .eq 23, 3) := by decide +kernel
theorem dX3_readOrder_107 : decode cX3_readOrder 107 = .ok (.aload_n 0, 1) := by decide +kernel
theorem dX3_readOrder_108 : decode cX3_readOrder 108 = .ok (.bipush 42, 2) := by decide +kernel
theorem dX3_readOrder_110 : decode cX3_readOrder 110 = .ok (.invokevirtual 31, 3) := by decide +kernel
theorem dX3_readOrder_113 : decode cX3_readOrder 113 = .ok (.ifCond .eq 14, 3) := by decide +kernel
theorem dX3_readOrder_116 : decode cX3_readOrder 116 = .ok (.aload_n 0, 1) := by decide +kernel
theorem dX3_readOrder_117 : decode cX3_readOrder 117 = .ok (.invokevirtual 48, 3) := by decide +kernel
theorem dX3_readOrder_120 : decode cX3_readOrder 120 = .ok (.ifCond .eq 7, 3) := by decide +kernel
theorem dX3_readOrder_123 : decode cX3_readOrder 123 = .ok (.iconst 1, 1) := by decide +kernel
theorem dX3_readOrder_124 : decode cX3_readOrder 124 = .ok (.goto 4, 3) := by decide +kernel
theorem dX3_readOrder_127 : decode cX3_readOrder 127 = .ok (.iconst 0, 1) := by decide +kernel
theorem dX3_readOrder_128 : decode cX3_readOrder 128 = .ok (.ireturn, 1) := by decide +kernel
theorem dX3_readOrder_129 : decode cX3_readOrder 129 = .ok (.aload_n 0, 1) := by decide +kernel
theorem dX3_readOrder_130 : decode cX3_readOrder 130 = .ok (.invokevirtual 51, 3) := by decide +kernel
theorem dX3_readOrder_133 : decode cX3_readOrder 133 = .ok (.ifCond .eq 23, 3) := by decide +kernel
theorem dX3_readOrder_136 : decode cX3_readOrder 136 = .ok (.aload_n 0, 1) := by decide +kernel
theorem dX3_readOrder_137 : decode cX3_readOrder 137 = .ok (.bipush 42, 2) := by decide +kernel
theorem dX3_readOrder_139 : decode cX3_readOrder 139 = .ok (.invokevirtual 31, 3) := by decide +kernel
theorem dX3_readOrder_142 : decode cX3_readOrder 142 = .ok (.ifCond .eq 14, 3) := by decide +kernel
theorem dX3_readOrder_145 : decode cX3_readOrder 145 = .ok (.aload_n 0, 1) := by decide +kernel
theorem dX3_readOrder_146 : decode cX3_readOrder 146 = .ok (.invokevirtual 54, 3) := by decide +kernel
theorem dX3_readOrder_149 : decode cX3_readOrder 149 = .ok (.ifCond .eq 7, 3) := by decide +kernel
theorem dX3_readOrder_152 : decode cX3_readOrder 152 = .ok (.iconst 1, 1) := by decide +kernel
theorem dX3_readOrder_153 : decode cX3_readOrder 153 = .ok (.goto 4, 3) := by decide +kernel
theorem dX3_readOrder_156 : decode cX3_readOrder 156 = .ok (.iconst 0, 1) := by decide +kernel
theorem dX3_readOrder_157 : decode cX3_readOrder 157 = .ok (.ireturn, 1) := by decide +kernel
theorem dX3_readOrder_158 : decode cX3_readOrder 158 = .ok (.aload_n 0, 1) := by decide +kernel
theorem dX3_readOrder_159 : decode cX3_readOrder 159 = .ok (.invokevirtual 51, 3) := by decide +kernel
theorem dX3_readOrder_162 : decode cX3_readOrder 162 = .ok (.ifCond .eq 39, 3) := by decide +kernel
theorem dX3_readOrder_165 : decode cX3_readOrder 165 = .ok (.aload_n 0, 1) := by decide +kernel
theorem dX3_readOrder_166 : decode cX3_readOrder 166 = .ok (.bipush 58, 2) := by decide +kernel
theorem dX3_readOrder_168 : decode cX3_readOrder 168 = .ok (.invokevirtual 31, 3) := by decide +kernel
theorem dX3_readOrder_171 : decode cX3_readOrder 171 = .ok (.ifCond .eq 30, 3) := by decide +kernel
theorem dX3_readOrder_174 : decode cX3_readOrder 174 = .ok (.aload_n 0, 1) := by decide +kernel
theorem dX3_readOrder_175 : decode cX3_readOrder 175 = .ok (.invokevirtual 54, 3) := by decide +kernel
theorem dX3_readOrder_178 : decode cX3_readOrder 178 = .ok (.ifCond .eq 23, 3) := by decide +kernel
theorem dX3_readOrder_181 : decode cX3_readOrder 181 = .ok (.aload_n 0, 1) := by decide +kernel
theorem dX3_readOrder_182 : decode cX3_readOrder 182 = .ok (.bipush 61, 2) := by decide +kernel
theorem dX3_readOrder_184 : decode cX3_readOrder 184 = .ok (.invokevirtual 31, 3) := by decide +kernel
theorem dX3_readOrder_187 : decode cX3_readOrder 187 = .ok (.ifCond .eq 14, 3) := by decide +kernel
theorem dX3_readOrder_190 : decode cX3_readOrder 190 = .ok (.aload_n 0, 1) := by decide +kernel
theorem dX3_readOrder_191 : decode cX3_readOrder 191 = .ok (.invokevirtual 48, 3) := by decide +kernel
theorem dX3_readOrder_194 : decode cX3_readOrder 194 = .ok (.ifCond .eq 7, 3) := by decide +kernel
theorem dX3_readOrder_197 : decode cX3_readOrder 197 = .ok (.iconst 1, 1) := by decide +kernel
theorem dX3_readOrder_198 : decode cX3_readOrder 198 = .ok (.goto 4, 3) := by decide +kernel
theorem dX3_readOrder_201 : decode cX3_readOrder 201 = .ok (.iconst 0, 1) := by decide +kernel
theorem dX3_readOrder_202 : decode cX3_readOrder 202 = .ok (.ireturn, 1) := by decide +kernel
theorem dX3_readOrder_203 : decode cX3_readOrder 203 = .ok (.aload_n 0, 1) := by decide +kernel
theorem dX3_readOrder_204 : decode cX3_readOrder 204 = .ok (.invokevirtual 51, 3) := by decide +kernel
theorem dX3_readOrder_207 : decode cX3_readOrder 207 = .ok (.ifCond .eq 23, 3) := by decide +kernel
theorem dX3_readOrder_210 : decode cX3_readOrder 210 = .ok (.aload_n 0, 1) := by decide +kernel
theorem dX3_readOrder_211 : decode cX3_readOrder 211 = .ok (.bipush 58, 2) := by decide +kernel
theorem dX3_readOrder_213 : decode cX3_readOrder 213 = .ok (.invokevirtual 31, 3) := by decide +kernel
theorem dX3_readOrder_216 : decode cX3_readOrder 216 = .ok (.ifCond .eq 14, 3) := by decide +kernel
theorem dX3_readOrder_219 : decode cX3_readOrder 219 = .ok (.aload_n 0, 1) := by decide +kernel
theorem dX3_readOrder_220 : decode cX3_readOrder 220 = .ok (.invokevirtual 54, 3) := by decide +kernel
theorem dX3_readOrder_223 : decode cX3_readOrder 223 = .ok (.ifCond .eq 7, 3) := by decide +kernel
theorem dX3_readOrder_226 : decode cX3_readOrder 226 = .ok (.iconst 1, 1) := by decide +kernel
theorem dX3_readOrder_227 : decode cX3_readOrder 227 = .ok (.goto 4, 3) := by decide +kernel
theorem dX3_readOrder_230 : decode cX3_readOrder 230 = .ok (.iconst 0, 1) := by decide +kernel
theorem dX3_readOrder_231 : decode cX3_readOrder 231 = .ok (.ireturn, 1) := by decide +kernel
theorem dX3_readOrder_232 : decode cX3_readOrder 232 = .ok (.aload_n 0, 1) := by decide +kernel
theorem dX3_readOrder_233 : decode cX3_readOrder 233 = .ok (.invokevirtual 51, 3) := by decide +kernel
theorem dX3_readOrder_236 : decode cX3_readOrder 236 = .ok (.ireturn, 1) := by decide +kernel
theorem dX3_readOrder_237 : decode cX3_readOrder 237 = .ok (.aload_n 0, 1) := by decide +kernel
theorem dX3_readOrder_238 : decode cX3_readOrder 238 = .ok (.aload_n 0, 1) := by decide +kernel
theorem dX3_readOrder_239 : decode cX3_readOrder 239 = .ok (.invokevirtual 57, 3) := by decide +kernel
theorem dX3_readOrder_242 : decode cX3_readOrder 242 = .ok (.putfield 61, 3) := by decide +kernel
theorem dX3_readOrder_245 : decode cX3_readOrder 245 = .ok (.aload_n 0, 1) := by decide +kernel
theorem dX3_readOrder_246 : decode cX3_readOrder 246 = .ok (.getfield 61, 3) := by decide +kernel
theorem dX3_readOrder_249 : decode cX3_readOrder 249 = .ok (.bipush (-6), 2) := by decide +kernel
theorem dX3_readOrder_251 : decode cX3_readOrder 251 = .ok (.if_icmp .eq 7, 3) := by decide +kernel
theorem dX3_readOrder_254 : decode cX3_readOrder 254 = .ok (.iconst 1, 1) := by decide +kernel
theorem dX3_readOrder_255 : decode cX3_readOrder 255 = .ok (.goto 4, 3) := by decide +kernel
theorem dX3_readOrder_258 : decode cX3_readOrder 258 = .ok (.iconst 0, 1) := by decide +kernel
theorem dX3_readOrder_259 : decode cX3_readOrder 259 = .ok (.ireturn, 1) := by decide +kernel
theorem dX3_readSign_0 : decode cX3_readSign 0 = .ok (.aload_n 0, 1) := by decide +kernel
theorem dX3_readSign_1 : decode cX3_readSign 1 = .ok (.getfield 9, 3) := by decide +kernel
theorem dX3_readSign_4 : decode cX3_readSign 4 = .ok (.aload_n 0, 1) := by decide +kernel
theorem dX3_readSign_5 : decode cX3_readSign 5 = .ok (.getfield 15, 3) := by decide +kernel
theorem dX3_readSign_8 : decode cX3_readSign 8 = .ok (.invokevirtual 35, 3) := by decide +kernel
theorem dX3_readSign_11 : decode cX3_readSign 11 = .ok (.iload_n 1, 1) := by decide +kernel
theorem dX3_readSign_12 : decode cX3_readSign 12 = .ok (.if_icmp .ne 7, 3) := by decide +kernel
theorem dX3_readSign_15 : decode cX3_readSign 15 = .ok (.iconst 1, 1) := by decide +kernel
theorem dX3_readSign_16 : decode cX3_readSign 16 = .ok (.goto 4, 3) := by decide +kernel
theorem dX3_readSign_19 : decode cX3_readSign 19 = .ok (.iconst 0, 1) := by decide +kernel
theorem dX3_readSign_20 : decode cX3_readSign 20 = .ok (.istore_n 2, 1) := by decide +kernel
theorem dX3_readSign_21 : decode cX3_readSign 21 = .ok (.iload_n 2, 1) := by decide +kernel
theorem dX3_readSign_22 : decode cX3_readSign 22 = .ok (.ifCond .eq 13, 3) := by decide +kernel
theorem dX3_readSign_25 : decode cX3_readSign 25 = .ok (.aload_n 0, 1) := by decide +kernel
theorem dX3_readSign_26 : decode cX3_readSign 26 = .ok (.dup, 1) := by decide +kernel
theorem dX3_readSign_27 : decode cX3_readSign 27 = .ok (.getfield 15, 3) := by decide +kernel
theorem dX3_readSign_30 : decode cX3_readSign 30 = .ok (.iconst 1, 1) := by decide +kernel
theorem dX3_readSign_31 : decode cX3_readSign 31 = .ok (.iadd, 1) := by decide +kernel
theorem dX3_readSign_32 : decode cX3_readSign 32 = .ok (.putfield 15, 3) := by decide +kernel
theorem dX3_readSign_35 : decode cX3_readSign 35 = .ok (.iload_n 2, 1) := by decide +kernel
theorem dX3_readSign_36 : decode cX3_readSign 36 = .ok (.ireturn, 1) := by decide +kernel
theorem dX3_isKind_0 : decode cX3_isKind 0 = .ok (.iload_n 0, 1) := by decide +kernel
theorem dX3_isKind_1 : decode cX3_isKind 1 = .ok (.bipush 98, 2) := by decide +kernel
theorem dX3_isKind_3 : decode cX3_isKind 3 = .ok (.if_icmp .eq 33, 3) := by decide +kernel
theorem dX3_isKind_6 : decode cX3_isKind 6 = .ok (.iload_n 0, 1) := by decide +kernel
theorem dX3_isKind_7 : decode cX3_isKind 7 = .ok (.bipush 99, 2) := by decide +kernel
theorem dX3_isKind_9 : decode cX3_isKind 9 = .ok (.if_icmp .eq 27, 3) := by decide +kernel
theorem dX3_isKind_12 : decode cX3_isKind 12 = .ok (.iload_n 0, 1) := by decide +kernel
theorem dX3_isKind_13 : decode cX3_isKind 13 = .ok (.bipush 103, 2) := by decide +kernel
theorem dX3_isKind_15 : decode cX3_isKind 15 = .ok (.if_icmp .eq 21, 3) := by decide +kernel
theorem dX3_isKind_18 : decode cX3_isKind 18 = .ok (.iload_n 0, 1) := by decide +kernel
theorem dX3_isKind_19 : decode cX3_isKind 19 = .ok (.bipush 104, 2) := by decide +kernel
theorem dX3_isKind_21 : decode cX3_isKind 21 = .ok (.if_icmp .eq 15, 3) := by decide +kernel
theorem dX3_isKind_24 : decode cX3_isKind 24 = .ok (.iload_n 0, 1) := by decide +kernel
theorem dX3_isKind_25 : decode cX3_isKind 25 = .ok (.bipush 108, 2) := by decide +kernel
theorem dX3_isKind_27 : decode cX3_isKind 27 = .ok (.if_icmp .eq 9, 3) := by decide +kernel
theorem dX3_isKind_30 : decode cX3_isKind 30 = .ok (.iload_n 0, 1) := by decide +kernel
theorem dX3_isKind_31 : decode cX3_isKind 31 = .ok (.bipush 112, 2) := by decide +kernel
theorem dX3_isKind_33 : decode cX3_isKind 33 = .ok (.if_icmp .ne 7, 3) := by decide +kernel
theorem dX3_isKind_36 : decode cX3_isKind 36 = .ok (.iconst 1, 1) := by decide +kernel
theorem dX3_isKind_37 : decode cX3_isKind 37 = .ok (.goto 4, 3) := by decide +kernel
theorem dX3_isKind_40 : decode cX3_isKind 40 = .ok (.iconst 0, 1) := by decide +kernel
theorem dX3_isKind_41 : decode cX3_isKind 41 = .ok (.ireturn, 1) := by decide +kernel
theorem dX3_readDigit_0 : decode cX3_readDigit 0 = .ok (.aload_n 0, 1) := by decide +kernel
theorem dX3_readDigit_1 : decode cX3_readDigit 1 = .ok (.aload_n 0, 1) := by decide +kernel
theorem dX3_readDigit_2 : decode cX3_readDigit 2 = .ok (.invokevirtual 64, 3) := by decide +kernel
theorem dX3_readDigit_5 : decode cX3_readDigit 5 = .ok (.putfield 61, 3) := by decide +kernel
theorem dX3_readDigit_8 : decode cX3_readDigit 8 = .ok (.aload_n 0, 1) := by decide +kernel
theorem dX3_readDigit_9 : decode cX3_readDigit 9 = .ok (.getfield 61, 3) := by decide +kernel
theorem dX3_readDigit_12 : decode cX3_readDigit 12 = .ok (.bipush (-6), 2) := by decide +kernel
theorem dX3_readDigit_14 : decode cX3_readDigit 14 = .ok (.if_icmp .eq 7, 3) := by decide +kernel
theorem dX3_readDigit_17 : decode cX3_readDigit 17 = .ok (.iconst 1, 1) := by decide +kernel
theorem dX3_readDigit_18 : decode cX3_readDigit 18 = .ok (.goto 4, 3) := by decide +kernel
theorem dX3_readDigit_21 : decode cX3_readDigit 21 = .ok (.iconst 0, 1) := by decide +kernel
theorem dX3_readDigit_22 : decode cX3_readDigit 22 = .ok (.ireturn, 1) := by decide +kernel
theorem dX3_readDigitPair_0 : decode cX3_readDigitPair 0 = .ok (.aload_n 0, 1) := by decide +kernel
theorem dX3_readDigitPair_1 : decode cX3_readDigitPair 1 = .ok (.invokevirtual 51, 3) := by decide +kernel
theorem dX3_readDigitPair_4 : decode cX3_readDigitPair 4 = .ok (.ifCond .ne 5, 3) := by decide +kernel
theorem dX3_readDigitPair_7 : decode cX3_readDigitPair 7 = .ok (.iconst 0, 1) := by decide +kernel
theorem dX3_readDigitPair_8 : decode cX3_readDigitPair 8 = .ok (.ireturn, 1) := by decide +kernel
theorem dX3_readDigitPair_9 : decode cX3_readDigitPair 9 = .ok (.aload_n 0, 1) := by decide +kernel
theorem dX3_readDigitPair_10 : decode cX3_readDigitPair 10 = .ok (.aload_n 0, 1) := by decide +kernel
theorem dX3_readDigitPair_11 : decode cX3_readDigitPair 11 = .ok (.invokevirtual 64, 3) := by decide +kernel
theorem dX3_readDigitPair_14 : decode cX3_readDigitPair 14 = .ok (.putfield 67, 3) := by decide +kernel
theorem dX3_readDigitPair_17 : decode cX3_readDigitPair 17 = .ok (.aload_n 0, 1) := by decide +kernel
theorem dX3_readDigitPair_18 : decode cX3_readDigitPair 18 = .ok (.getfield 67, 3) := by decide +kernel
theorem dX3_readDigitPair_21 : decode cX3_readDigitPair 21 = .ok (.bipush (-6), 2) := by decide +kernel
theorem dX3_readDigitPair_23 : decode cX3_readDigitPair 23 = .ok (.if_icmp .eq 7, 3) := by decide +kernel
theorem dX3_readDigitPair_26 : decode cX3_readDigitPair 26 = .ok (.iconst 1, 1) := by decide +kernel
theorem dX3_readDigitPair_27 : decode cX3_readDigitPair 27 = .ok (.goto 4, 3) := by decide +kernel
theorem dX3_readDigitPair_30 : decode cX3_readDigitPair 30 = .ok (.iconst 0, 1) := by decide +kernel
theorem dX3_readDigitPair_31 : decode cX3_readDigitPair 31 = .ok (.ireturn, 1) := by decide +kernel
theorem dX3_readSecond_0 : decode cX3_readSecond 0 = .ok (.aload_n 0, 1) := by decide +kernel
theorem dX3_readSecond_1 : decode cX3_readSecond 1 = .ok (.aload_n 0, 1) := by decide +kernel
theorem dX3_readSecond_2 : decode cX3_readSecond 2 = .ok (.invokevirtual 57, 3) := by decide +kernel
theorem dX3_readSecond_5 : decode cX3_readSecond 5 = .ok (.putfield 67, 3) := by decide +kernel
theorem dX3_readSecond_8 : decode cX3_readSecond 8 = .ok (.aload_n 0, 1) := by decide +kernel
theorem dX3_readSecond_9 : decode cX3_readSecond 9 = .ok (.getfield 67, 3) := by decide +kernel
theorem dX3_readSecond_12 : decode cX3_readSecond 12 = .ok (.bipush (-6), 2) := by decide +kernel
theorem dX3_readSecond_14 : decode cX3_readSecond 14 = .ok (.if_icmp .eq 7, 3) := by decide +kernel
theorem dX3_readSecond_17 : decode cX3_readSecond 17 = .ok (.iconst 1, 1) := by decide +kernel
theorem dX3_readSecond_18 : decode cX3_readSecond 18 = .ok (.goto 4, 3) := by decide +kernel
theorem dX3_readSecond_21 : decode cX3_readSecond 21 = .ok (.iconst 0, 1) := by decide +kernel
theorem dX3_readSecond_22 : decode cX3_readSecond 22 = .ok (.ireturn, 1) := by decide +kernel
theorem dX3_readThird_0 : decode cX3_readThird 0 = .ok (.aload_n 0, 1) := by decide +kernel
theorem dX3_readThird_1 : decode cX3_readThird 1 = .ok (.aload_n 0, 1) := by decide +kernel
theorem dX3_readThird_2 : decode cX3_readThird 2 = .ok (.invokevirtual 57, 3) := by decide +kernel
theorem dX3_readThird_5 : decode cX3_readThird 5 = .ok (.putfield 70, 3) := by decide +kernel
theorem dX3_readThird_8 : decode cX3_readThird 8 = .ok (.aload_n 0, 1) := by decide +kernel
theorem dX3_readThird_9 : decode cX3_readThird 9 = .ok (.getfield 70, 3) := by decide +kernel
theorem dX3_readThird_12 : decode cX3_readThird 12 = .ok (.bipush (-6), 2) := by decide +kernel
theorem dX3_readThird_14 : decode cX3_readThird 14 = .ok (.if_icmp .eq 7, 3) := by decide +kernel
theorem dX3_readThird_17 : decode cX3_readThird 17 = .ok (.iconst 1, 1) := by decide +kernel
theorem dX3_readThird_18 : decode cX3_readThird 18 = .ok (.goto 4, 3) := by decide +kernel
theorem dX3_readThird_21 : decode cX3_readThird 21 = .ok (.iconst 0, 1) := by decide +kernel
theorem dX3_readThird_22 : decode cX3_readThird 22 = .ok (.ireturn, 1) := by decide +kernel
theorem dX3_readNumber_0 : decode cX3_readNumber 0 = .ok (.aload_n 0, 1) := by decide +kernel
theorem dX3_readNumber_1 : decode cX3_readNumber 1 = .ok (.invokevirtual 64, 3) := by decide +kernel
theorem dX3_readNumber_4 : decode cX3_readNumber 4 = .ok (.istore_n 1, 1) := by decide +kernel
theorem dX3_readNumber_5 : decode cX3_readNumber 5 = .ok (.iload_n 1, 1) := by decide +kernel
theorem dX3_readNumber_6 : decode cX3_readNumber 6 = .ok (.bipush (-6), 2) := by decide +kernel
theorem dX3_readNumber_8 : decode cX3_readNumber 8 = .ok (.if_icmp .eq 7, 3) := by decide +kernel
theorem dX3_readNumber_11 : decode cX3_readNumber 11 = .ok (.iload_n 1, 1) := by decide +kernel
theorem dX3_readNumber_12 : decode cX3_readNumber 12 = .ok (.ifCond .ne 5, 3) := by decide +kernel
theorem dX3_readNumber_15 : decode cX3_readNumber 15 = .ok (.iload_n 1, 1) := by decide +kernel
theorem dX3_readNumber_16 : decode cX3_readNumber 16 = .ok (.ireturn, 1) := by decide +kernel
theorem dX3_readNumber_17 : decode cX3_readNumber 17 = .ok (.iconst 1, 1) := by decide +kernel
theorem dX3_readNumber_18 : decode cX3_readNumber 18 = .ok (.istore_n 2, 1) := by decide +kernel
theorem dX3_readNumber_19 : decode cX3_readNumber 19 = .ok (.iload_n 2, 1) := by decide +kernel
theorem dX3_readNumber_20 : decode cX3_readNumber 20 = .ok (.iconst 4, 1) := by decide +kernel
theorem dX3_readNumber_21 : decode cX3_readNumber 21 = .ok (.if_icmp .ge 29, 3) := by decide +kernel
theorem dX3_readNumber_24 : decode cX3_readNumber 24 = .ok (.aload_n 0, 1) := by decide +kernel
theorem dX3_readNumber_25 : decode cX3_readNumber 25 = .ok (.invokevirtual 64, 3) := by decide +kernel
theorem dX3_readNumber_28 : decode cX3_readNumber 28 = .ok (.istore_n 3, 1) := by decide +kernel
theorem dX3_readNumber_29 : decode cX3_readNumber 29 = .ok (.iload_n 3, 1) := by decide +kernel
theorem dX3_readNumber_30 : decode cX3_readNumber 30 = .ok (.bipush (-6), 2) := by decide +kernel
theorem dX3_readNumber_32 : decode cX3_readNumber 32 = .ok (.if_icmp .ne 5, 3) := by decide +kernel
theorem dX3_readNumber_35 : decode cX3_readNumber 35 = .ok (.iload_n 1, 1) := by decide +kernel
theorem dX3_readNumber_36 : decode cX3_readNumber 36 = .ok (.ireturn, 1) := by decide +kernel
theorem dX3_readNumber_37 : decode cX3_readNumber 37 = .ok (.bipush 10, 2) := by decide +kernel
theorem dX3_readNumber_39 : decode cX3_readNumber 39 = .ok (.iload_n 1, 1) := by decide +kernel
theorem dX3_readNumber_40 : decode cX3_readNumber 40 = .ok (.imul, 1) := by decide +kernel
theorem dX3_readNumber_41 : decode cX3_readNumber 41 = .ok (.iload_n 3, 1) := by decide +kernel
theorem dX3_readNumber_42 : decode cX3_readNumber 42 = .ok (.iadd, 1) := by decide +kernel
theorem dX3_readNumber_43 : decode cX3_readNumber 43 = .ok (.istore_n 1, 1) := by decide +kernel
theorem dX3_readNumber_44 : decode cX3_readNumber 44 = .ok (.iinc 2 1, 3) := by decide +kernel
theorem dX3_readNumber_47 : decode cX3_readNumber 47 = .ok (.goto (-28), 3) := by decide +kernel
theorem dX3_readNumber_50 : decode cX3_readNumber 50 = .ok (.iload_n 1, 1) := by decide +kernel
theorem dX3_readNumber_51 : decode cX3_readNumber 51 = .ok (.ireturn, 1) := by decide +kernel
theorem dX3_nextDigit_0 : decode cX3_nextDigit 0 = .ok (.aload_n 0, 1) := by decide +kernel
theorem dX3_nextDigit_1 : decode cX3_nextDigit 1 = .ok (.getfield 9, 3) := by decide +kernel
theorem dX3_nextDigit_4 : decode cX3_nextDigit 4 = .ok (.aload_n 0, 1) := by decide +kernel
theorem dX3_nextDigit_5 : decode cX3_nextDigit 5 = .ok (.getfield 15, 3) := by decide +kernel
theorem dX3_nextDigit_8 : decode cX3_nextDigit 8 = .ok (.invokevirtual 35, 3) := by decide +kernel
theorem dX3_nextDigit_11 : decode cX3_nextDigit 11 = .ok (.istore_n 1, 1) := by decide +kernel
theorem dX3_nextDigit_12 : decode cX3_nextDigit 12 = .ok (.iload_n 1, 1) := by decide +kernel
theorem dX3_nextDigit_13 : decode cX3_nextDigit 13 = .ok (.bipush 48, 2) := by decide +kernel
theorem dX3_nextDigit_15 : decode cX3_nextDigit 15 = .ok (.if_icmp .lt 9, 3) := by decide +kernel
theorem dX3_nextDigit_18 : decode cX3_nextDigit 18 = .ok (.iload_n 1, 1) := by decide +kernel
theorem dX3_nextDigit_19 : decode cX3_nextDigit 19 = .ok (.bipush 57, 2) := by decide +kernel
theorem dX3_nextDigit_21 : decode cX3_nextDigit 21 = .ok (.if_icmp .le 6, 3) := by decide +kernel
theorem dX3_nextDigit_24 : decode cX3_nextDigit 24 = .ok (.bipush (-6), 2) := by decide +kernel
theorem dX3_nextDigit_26 : decode cX3_nextDigit 26 = .ok (.ireturn, 1) := by decide +kernel
theorem dX3_nextDigit_27 : decode cX3_nextDigit 27 = .ok (.aload_n 0, 1) := by decide +kernel
theorem dX3_nextDigit_28 : decode cX3_nextDigit 28 = .ok (.dup, 1) := by decide +kernel
theorem dX3_nextDigit_29 : decode cX3_nextDigit 29 = .ok (.getfield 15, 3) := by decide +kernel
theorem dX3_nextDigit_32 : decode cX3_nextDigit 32 = .ok (.iconst 1, 1) := by decide +kernel
theorem dX3_nextDigit_33 : decode cX3_nextDigit 33 = .ok (.iadd, 1) := by decide +kernel
theorem dX3_nextDigit_34 : decode cX3_nextDigit 34 = .ok (.putfield 15, 3) := by decide +kernel
theorem dX3_nextDigit_37 : decode cX3_nextDigit 37 = .ok (.iload_n 1, 1) := by decide +kernel
theorem dX3_nextDigit_38 : decode cX3_nextDigit 38 = .ok (.bipush 48, 2) := by decide +kernel
theorem dX3_nextDigit_40 : decode cX3_nextDigit 40 = .ok (.isub, 1) := by decide +kernel
theorem dX3_nextDigit_41 : decode cX3_nextDigit 41 = .ok (.ireturn, 1) := by decide +kernel
theorem dX4_init_0 : decode cX4_init 0 = .ok (.aload_n 0, 1) := by decide +kernel
theorem dX4_init_1 : decode cX4_init 1 = .ok (.invokespecial 3, 3) := by decide +kernel
theorem dX4_init_4 : decode cX4_init 4 = .ok (.aload_n 0, 1) := by decide +kernel
theorem dX4_init_5 : decode cX4_init 5 = .ok (.bipush 80, 2) := by decide +kernel
theorem dX4_init_7 : decode cX4_init 7 = .ok (.newarray .int, 2) := by decide +kernel
theorem dX4_init_9 : decode cX4_init 9 = .ok (.putfield 9, 3) := by decide +kernel
theorem dX4_init_12 : decode cX4_init 12 = .ok (.return_, 1) := by decide +kernel
theorem dX4_clear_0 : decode cX4_clear 0 = .ok (.aload_n 0, 1) := by decide +kernel
theorem dX4_clear_1 : decode cX4_clear 1 = .ok (.iconst 0, 1) := by decide +kernel
theorem dX4_clear_2 : decode cX4_clear 2 = .ok (.putfield 15, 3) := by decide +kernel
theorem dX4_clear_5 : decode cX4_clear 5 = .ok (.return_, 1) := by decide +kernel
theorem dX4_codeAt_0 : decode cX4_codeAt 0 = .ok (.iload_n 1, 1) := by decide +kernel
theorem dX4_codeAt_1 : decode cX4_codeAt 1 = .ok (.ifCond .lt 20, 3) := by decide +kernel
theorem dX4_codeAt_4 : decode cX4_codeAt 4 = .ok (.iload_n 1, 1) := by decide +kernel
theorem dX4_codeAt_5 : decode cX4_codeAt 5 = .ok (.aload_n 0, 1) := by decide +kernel
theorem dX4_codeAt_6 : decode cX4_codeAt 6 = .ok (.getfield 15, 3) := by decide +kernel
theorem dX4_codeAt_9 : decode cX4_codeAt 9 = .ok (.if_icmp .ge 12, 3) := by decide +kernel
theorem dX4_codeAt_12 : decode cX4_codeAt 12 = .ok (.aload_n 0, 1) := by decide +kernel
theorem dX4_codeAt_13 : decode cX4_codeAt 13 = .ok (.getfield 9, 3) := by decide +kernel
theorem dX4_codeAt_16 : decode cX4_codeAt 16 = .ok (.iload_n 1, 1) := by decide +kernel
theorem dX4_codeAt_17 : decode cX4_codeAt 17 = .ok (.iaload, 1) := by decide +kernel
theorem dX4_codeAt_18 : decode cX4_codeAt 18 = .ok (.goto 4, 3) := by decide +kernel
theorem dX4_codeAt_21 : decode cX4_codeAt 21 = .ok (.iconst (-1), 1) := by decide +kernel
theorem dX4_codeAt_22 : decode cX4_codeAt 22 = .ok (.ireturn, 1) := by decide +kernel
theorem dX4_append_0 : decode cX4_append 0 = .ok (.aload_n 0, 1) := by decide +kernel
theorem dX4_append_1 : decode cX4_append 1 = .ok (.getfield 15, 3) := by decide +kernel
theorem dX4_append_4 : decode cX4_append 4 = .ok (.bipush 80, 2) := by decide +kernel
theorem dX4_append_6 : decode cX4_append 6 = .ok (.if_icmp .ge 23, 3) := by decide +kernel
theorem dX4_append_9 : decode cX4_append 9 = .ok (.aload_n 0, 1) := by decide +kernel
theorem dX4_append_10 : decode cX4_append 10 = .ok (.getfield 9, 3) := by decide +kernel
theorem dX4_append_13 : decode cX4_append 13 = .ok (.aload_n 0, 1) := by decide +kernel
theorem dX4_append_14 : decode cX4_append 14 = .ok (.getfield 15, 3) := by decide +kernel
theorem dX4_append_17 : decode cX4_append 17 = .ok (.iload_n 1, 1) := by decide +kernel
theorem dX4_append_18 : decode cX4_append 18 = .ok (.iastore, 1) := by decide +kernel
theorem dX4_append_19 : decode cX4_append 19 = .ok (.aload_n 0, 1) := by decide +kernel
theorem dX4_append_20 : decode cX4_append 20 = .ok (.dup, 1) := by decide +kernel
theorem dX4_append_21 : decode cX4_append 21 = .ok (.getfield 15, 3) := by decide +kernel
theorem dX4_append_24 : decode cX4_append 24 = .ok (.iconst 1, 1) := by decide +kernel
theorem dX4_append_25 : decode cX4_append 25 = .ok (.iadd, 1) := by decide +kernel
theorem dX4_append_26 : decode cX4_append 26 = .ok (.putfield 15, 3) := by decide +kernel
theorem dX4_append_29 : decode cX4_append 29 = .ok (.return_, 1) := by decide +kernel
theorem dX4_appendNumber_0 : decode cX4_appendNumber 0 = .ok (.ldc 19, 2) := by decide +kernel
theorem dX4_appendNumber_2 : decode cX4_appendNumber 2 = .ok (.istore_n 2, 1) := by decide +kernel
theorem dX4_appendNumber_3 : decode cX4_appendNumber 3 = .ok (.iload_n 2, 1) := by decide +kernel
theorem dX4_appendNumber_4 : decode cX4_appendNumber 4 = .ok (.iconst 1, 1) := by decide +kernel
theorem dX4_appendNumber_5 : decode cX4_appendNumber 5 = .ok (.if_icmp .lt 34, 3) := by decide +kernel
theorem dX4_appendNumber_8 : decode cX4_appendNumber 8 = .ok (.iload_n 1, 1) := by decide +kernel
theorem dX4_appendNumber_9 : decode cX4_appendNumber 9 = .ok (.iload_n 2, 1) := by decide +kernel
theorem dX4_appendNumber_10 : decode cX4_appendNumber 10 = .ok (.if_icmp .ge 8, 3) := by decide +kernel
theorem dX4_appendNumber_13 : decode cX4_appendNumber 13 = .ok (.iload_n 2, 1) := by decide +kernel
theorem dX4_appendNumber_14 : decode cX4_appendNumber 14 = .ok (.iconst 1, 1) := by decide +kernel
theorem dX4_appendNumber_15 : decode cX4_appendNumber 15 = .ok (.if_icmp .ne 16, 3) := by decide +kernel
theorem dX4_appendNumber_18 : decode cX4_appendNumber 18 = .ok (.aload_n 0, 1) := by decide +kernel
theorem dX4_appendNumber_19 : decode cX4_appendNumber 19 = .ok (.bipush 48, 2) := by decide +kernel
theorem dX4_appendNumber_21 : decode cX4_appendNumber 21 = .ok (.iload_n 1, 1) := by decide +kernel
theorem dX4_appendNumber_22 : decode cX4_appendNumber 22 = .ok (.iload_n 2, 1) := by decide +kernel
theorem dX4_appendNumber_23 : decode cX4_appendNumber 23 = .ok (.idiv, 1) := by decide +kernel
theorem dX4_appendNumber_24 : decode cX4_appendNumber 24 = .ok (.bipush 10, 2) := by decide +kernel
theorem dX4_appendNumber_26 : decode cX4_appendNumber 26 = .ok (.irem, 1) := by decide +kernel
theorem dX4_appendNumber_27 : decode cX4_appendNumber 27 = .ok (.iadd, 1) := by decide +kernel
theorem dX4_appendNumber_28 : decode cX4_appendNumber 28 = .ok (.invokevirtual 20, 3) := by decide +kernel
theorem dX4_appendNumber_31 : decode cX4_appendNumber 31 = .ok (.iload_n 2, 1) := by decide +kernel
theorem dX4_appendNumber_32 : decode cX4_appendNumber 32 = .ok (.bipush 10, 2) := by decide +kernel
theorem dX4_appendNumber_34 : decode cX4_appendNumber 34 = .ok (.idiv, 1) := by decide +kernel
theorem dX4_appendNumber_35 : decode cX4_appendNumber 35 = .ok (.istore_n 2, 1) := by decide +kernel
theorem dX4_appendNumber_36 : decode cX4_appendNumber 36 = .ok (.goto (-33), 3) := by decide +kernel
theorem dX4_appendNumber_39 : decode cX4_appendNumber 39 = .ok (.return_, 1) := by decide +kernel
theorem dX5_init_0 : decode cX5_init 0 = .ok (.aload_n 0, 1) := by decide +kernel
theorem dX5_init_1 : decode cX5_init 1 = .ok (.invokespecial 3, 3) := by decide +kernel
theorem dX5_init_4 : decode cX5_init 4 = .ok (.aload_n 0, 1) := by decide +kernel
theorem dX5_init_5 : decode cX5_init 5 = .ok (.iconst 4, 1) := by decide +kernel
theorem dX5_init_6 : decode cX5_init 6 = .ok (.newarray .int, 2) := by decide +kernel
theorem dX5_init_8 : decode cX5_init 8 = .ok (.putfield 9, 3) := by decide +kernel
theorem dX5_init_11 : decode cX5_init 11 = .ok (.aload_n 0, 1) := by decide +kernel
theorem dX5_init_12 : decode cX5_init 12 = .ok (.bipush 12, 2) := by decide +kernel
theorem dX5_init_14 : decode cX5_init 14 = .ok (.anewarray 15, 3) := by decide +kernel
theorem dX5_init_17 : decode cX5_init 17 = .ok (.putfield 17, 3) := by decide +kernel
theorem dX5_init_20 : decode cX5_init 20 = .ok (.aload_n 0, 1) := by decide +kernel
theorem dX5_init_21 : decode cX5_init 21 = .ok (.bipush 8, 2) := by decide +kernel
theorem dX5_init_23 : decode cX5_init 23 = .ok (.anewarray 21, 3) := by decide +kernel
theorem dX5_init_26 : decode cX5_init 26 = .ok (.putfield 23, 3) := by decide +kernel
theorem dX5_init_29 : decode cX5_init 29 = .ok (.aload_n 0, 1) := by decide +kernel
theorem dX5_init_30 : decode cX5_init 30 = .ok (.bipush 8, 2) := by decide +kernel
theorem dX5_init_32 : decode cX5_init 32 = .ok (.newarray .int, 2) := by decide +kernel
theorem dX5_init_34 : decode cX5_init 34 = .ok (.putfield 27, 3) := by decide +kernel
theorem dX5_init_37 : decode cX5_init 37 = .ok (.aload_n 0, 1) := by decide +kernel
theorem dX5_init_38 : decode cX5_init 38 = .ok (.iconst 1, 1) := by decide +kernel
theorem dX5_init_39 : decode cX5_init 39 = .ok (.putfield 30, 3) := by decide +kernel
theorem dX5_init_42 : decode cX5_init 42 = .ok (.getstatic 34, 3) := by decide +kernel
theorem dX5_init_45 : decode cX5_init 45 = .ok (.iconst 0, 1) := by decide +kernel
theorem dX5_init_46 : decode cX5_init 46 = .ok (.aload_n 0, 1) := by decide +kernel
theorem dX5_init_47 : decode cX5_init 47 = .ok (.getfield 9, 3) := by decide +kernel
theorem dX5_init_50 : decode cX5_init 50 = .ok (.iconst 0, 1) := by decide +kernel
theorem dX5_init_51 : decode cX5_init 51 = .ok (.iconst 4, 1) := by decide +kernel
theorem dX5_init_52 : decode cX5_init 52 = .ok (.invokestatic 37, 3) := by decide +kernel
theorem dX5_init_55 : decode cX5_init 55 = .ok (.iconst 0, 1) := by decide +kernel
theorem dX5_init_56 : decode cX5_init 56 = .ok (.istore_n 1, 1) := by decide +kernel
theorem dX5_init_57 : decode cX5_init 57 = .ok (.iload_n 1, 1) := by decide +kernel
theorem dX5_init_58 : decode cX5_init 58 = .ok (.bipush 12, 2) := by decide +kernel
theorem dX5_init_60 : decode cX5_init 60 = .ok (.if_icmp .ge 23, 3) := by decide +kernel
theorem dX5_init_63 : decode cX5_init 63 = .ok (.aload_n 0, 1) := by decide +kernel
theorem dX5_init_64 : decode cX5_init 64 = .ok (.getfield 17, 3) := by decide +kernel
theorem dX5_init_67 : decode cX5_init 67 = .ok (.iload_n 1, 1) := by decide +kernel
theorem dX5_init_68 : decode cX5_init 68 = .ok (.new 15, 3) := by decide +kernel
theorem dX5_init_71 : decode cX5_init 71 = .ok (.dup, 1) := by decide +kernel
theorem dX5_init_72 : decode cX5_init 72 = .ok (.iload_n 1, 1) := by decide +kernel
theorem dX5_init_73 : decode cX5_init 73 = .ok (.invokespecial 43, 3) := by decide +kernel
theorem dX5_init_76 : decode cX5_init 76 = .ok (.aastore, 1) := by decide +kernel
theorem dX5_init_77 : decode cX5_init 77 = .ok (.iinc 1 1, 3) := by decide +kernel
theorem dX5_init_80 : decode cX5_init 80 = .ok (.goto (-23), 3) := by decide +kernel
theorem dX5_init_83 : decode cX5_init 83 = .ok (.iconst 0, 1) := by decide +kernel
theorem dX5_init_84 : decode cX5_init 84 = .ok (.istore_n 1, 1) := by decide +kernel
theorem dX5_init_85 : decode cX5_init 85 = .ok (.iload_n 1, 1) := by decide +kernel
theorem dX5_init_86 : decode cX5_init 86 = .ok (.bipush 8, 2) := by decide +kernel
theorem dX5_init_88 : decode cX5_init 88 = .ok (.if_icmp .ge 23, 3) := by decide +kernel
theorem dX5_init_91 : decode cX5_init 91 = .ok (.aload_n 0, 1) := by decide +kernel
theorem dX5_init_92 : decode cX5_init 92 = .ok (.getfield 23, 3) := by decide +kernel
theorem dX5_init_95 : decode cX5_init 95 = .ok (.iload_n 1, 1) := by decide +kernel
theorem dX5_init_96 : decode cX5_init 96 = .ok (.new 21, 3) := by decide +kernel
theorem dX5_init_99 : decode cX5_init 99 = .ok (.dup, 1) := by decide +kernel
theorem dX5_init_100 : decode cX5_init 100 = .ok (.iload_n 1, 1) := by decide +kernel
theorem dX5_init_101 : decode cX5_init 101 = .ok (.invokespecial 46, 3) := by decide +kernel
theorem dX5_init_104 : decode cX5_init 104 = .ok (.aastore, 1) := by decide +kernel
theorem dX5_init_105 : decode cX5_init 105 = .ok (.iinc 1 1, 3) := by decide +kernel
theorem dX5_init_108 : decode cX5_init 108 = .ok (.goto (-23), 3) := by decide +kernel
theorem dX5_init_111 : decode cX5_init 111 = .ok (.return_, 1) := by decide +kernel
theorem dX5_copyFrom_0 : decode cX5_copyFrom 0 = .ok (.aload_n 1, 1) := by decide +kernel
theorem dX5_copyFrom_1 : decode cX5_copyFrom 1 = .ok (.getfield 9, 3) := by decide +kernel
theorem dX5_copyFrom_4 : decode cX5_copyFrom 4 = .ok (.iconst 0, 1) := by decide +kernel
theorem dX5_copyFrom_5 : decode cX5_copyFrom 5 = .ok (.aload_n 0, 1) := by decide +kernel
theorem dX5_copyFrom_6 : decode cX5_copyFrom 6 = .ok (.getfield 9, 3) := by decide +kernel
theorem dX5_copyFrom_9 : decode cX5_copyFrom 9 = .ok (.iconst 0, 1) := by decide +kernel
theorem dX5_copyFrom_10 : decode cX5_copyFrom 10 = .ok (.iconst 4, 1) := by decide +kernel
theorem dX5_copyFrom_11 : decode cX5_copyFrom 11 = .ok (.invokestatic 37, 3) := by decide +kernel
theorem dX5_copyFrom_14 : decode cX5_copyFrom 14 = .ok (.aload_n 1, 1) := by decide +kernel
theorem dX5_copyFrom_15 : decode cX5_copyFrom 15 = .ok (.getfield 27, 3) := by decide +kernel
theorem dX5_copyFrom_18 : decode cX5_copyFrom 18 = .ok (.iconst 0, 1) := by decide +kernel
theorem dX5_copyFrom_19 : decode cX5_copyFrom 19 = .ok (.aload_n 0, 1) := by decide +kernel
theorem dX5_copyFrom_20 : decode cX5_copyFrom 20 = .ok (.getfield 27, 3) := by decide +kernel
theorem dX5_copyFrom_23 : decode cX5_copyFrom 23 = .ok (.iconst 0, 1) := by decide +kernel
theorem dX5_copyFrom_24 : decode cX5_copyFrom 24 = .ok (.bipush 8, 2) := by decide +kernel
theorem dX5_copyFrom_26 : decode cX5_copyFrom 26 = .ok (.invokestatic 37, 3) := by decide +kernel
theorem dX5_copyFrom_29 : decode cX5_copyFrom 29 = .ok (.iconst 0, 1) := by decide +kernel
theorem dX5_copyFrom_30 : decode cX5_copyFrom 30 = .ok (.istore_n 2, 1) := by decide +kernel
theorem dX5_copyFrom_31 : decode cX5_copyFrom 31 = .ok (.iload_n 2, 1) := by decide +kernel
theorem dX5_copyFrom_32 : decode cX5_copyFrom 32 = .ok (.bipush 12, 2) := by decide +kernel
theorem dX5_copyFrom_34 : decode cX5_copyFrom 34 = .ok (.if_icmp .ge 24, 3) := by decide +kernel
theorem dX5_copyFrom_37 : decode cX5_copyFrom 37 = .ok (.aload_n 0, 1) := by decide +kernel
theorem dX5_copyFrom_38 : decode cX5_copyFrom 38 = .ok (.getfield 17, 3) := by decide +kernel
theorem dX5_copyFrom_41 : decode cX5_copyFrom 41 = .ok (.iload_n 2, 1) := by decide +kernel
theorem dX5_copyFrom_42 : decode cX5_copyFrom 42 = .ok (.aaload, 1) := by decide +kernel
theorem dX5_copyFrom_43 : decode cX5_copyFrom 43 = .ok (.aload_n 1, 1) := by decide +kernel
theorem dX5_copyFrom_44 : decode cX5_copyFrom 44 = .ok (.getfield 17, 3) := by decide +kernel
theorem dX5_copyFrom_47 : decode cX5_copyFrom 47 = .ok (.iload_n 2, 1) := by decide +kernel
theorem dX5_copyFrom_48 : decode cX5_copyFrom 48 = .ok (.aaload, 1) := by decide +kernel
theorem dX5_copyFrom_49 : decode cX5_copyFrom 49 = .ok (.invokevirtual 47, 3) := by decide +kernel
theorem dX5_copyFrom_52 : decode cX5_copyFrom 52 = .ok (.iinc 2 1, 3) := by decide +kernel
theorem dX5_copyFrom_55 : decode cX5_copyFrom 55 = .ok (.goto (-24), 3) := by decide +kernel
theorem dX5_copyFrom_58 : decode cX5_copyFrom 58 = .ok (.iconst 0, 1) := by decide +kernel
theorem dX5_copyFrom_59 : decode cX5_copyFrom 59 = .ok (.istore_n 2, 1) := by decide +kernel
theorem dX5_copyFrom_60 : decode cX5_copyFrom 60 = .ok (.iload_n 2, 1) := by decide +kernel
theorem dX5_copyFrom_61 : decode cX5_copyFrom 61 = .ok (.bipush 8, 2) := by decide +kernel
theorem dX5_copyFrom_63 : decode cX5_copyFrom 63 = .ok (.if_icmp .ge 24, 3) := by decide +kernel
theorem dX5_copyFrom_66 : decode cX5_copyFrom 66 = .ok (.aload_n 0, 1) := by decide +kernel
theorem dX5_copyFrom_67 : decode cX5_copyFrom 67 = .ok (.getfield 23, 3) := by decide +kernel
theorem dX5_copyFrom_70 : decode cX5_copyFrom 70 = .ok (.iload_n 2, 1) := by decide +kernel
theorem dX5_copyFrom_71 : decode cX5_copyFrom 71 = .ok (.aaload, 1) := by decide +kernel
theorem dX5_copyFrom_72 : decode cX5_copyFrom 72 = .ok (.aload_n 1, 1) := by decide +kernel
theorem dX5_copyFrom_73 : decode cX5_copyFrom 73 = .ok (.getfield 23, 3) := by decide +kernel
theorem dX5_copyFrom_76 : decode cX5_copyFrom 76 = .ok (.iload_n 2, 1) := by decide +kernel
theorem dX5_copyFrom_77 : decode cX5_copyFrom 77 = .ok (.aaload, 1) := by decide +kernel
theorem dX5_copyFrom_78 : decode cX5_copyFrom 78 = .ok (.invokevirtual 51, 3) := by decide +kernel
theorem dX5_copyFrom_81 : decode cX5_copyFrom 81 = .ok (.iinc 2 1, 3) := by decide +kernel
theorem dX5_copyFrom_84 : decode cX5_copyFrom 84 = .ok (.goto (-24), 3) := by decide +kernel
theorem dX5_copyFrom_87 : decode cX5_copyFrom 87 = .ok (.aload_n 0, 1) := by decide +kernel
theorem dX5_copyFrom_88 : decode cX5_copyFrom 88 = .ok (.aload_n 1, 1) := by decide +kernel
theorem dX5_copyFrom_89 : decode cX5_copyFrom 89 = .ok (.getfield 54, 3) := by decide +kernel
theorem dX5_copyFrom_92 : decode cX5_copyFrom 92 = .ok (.putfield 54, 3) := by decide +kernel
theorem dX5_copyFrom_95 : decode cX5_copyFrom 95 = .ok (.aload_n 0, 1) := by decide +kernel
theorem dX5_copyFrom_96 : decode cX5_copyFrom 96 = .ok (.aload_n 1, 1) := by decide +kernel
theorem dX5_copyFrom_97 : decode cX5_copyFrom 97 = .ok (.getfield 57, 3) := by decide +kernel
theorem dX5_copyFrom_100 : decode cX5_copyFrom 100 = .ok (.putfield 57, 3) := by decide +kernel
theorem dX5_copyFrom_103 : decode cX5_copyFrom 103 = .ok (.aload_n 0, 1) := by decide +kernel
theorem dX5_copyFrom_104 : decode cX5_copyFrom 104 = .ok (.aload_n 1, 1) := by decide +kernel
theorem dX5_copyFrom_105 : decode cX5_copyFrom 105 = .ok (.getfield 60, 3) := by decide +kernel
theorem dX5_copyFrom_108 : decode cX5_copyFrom 108 = .ok (.putfield 60, 3) := by decide +kernel
theorem dX5_copyFrom_111 : decode cX5_copyFrom 111 = .ok (.aload_n 0, 1) := by decide +kernel
theorem dX5_copyFrom_112 : decode cX5_copyFrom 112 = .ok (.aload_n 1, 1) := by decide +kernel
theorem dX5_copyFrom_113 : decode cX5_copyFrom 113 = .ok (.getfield 30, 3) := by decide +kernel
theorem dX5_copyFrom_116 : decode cX5_copyFrom 116 = .ok (.putfield 30, 3) := by decide +kernel
theorem dX5_copyFrom_119 : decode cX5_copyFrom 119 = .ok (.aload_n 0, 1) := by decide +kernel
theorem dX5_copyFrom_120 : decode cX5_copyFrom 120 = .ok (.aload_n 1, 1) := by decide +kernel
theorem dX5_copyFrom_121 : decode cX5_copyFrom 121 = .ok (.getfield 63, 3) := by decide +kernel
theorem dX5_copyFrom_124 : decode cX5_copyFrom 124 = .ok (.putfield 63, 3) := by decide +kernel
theorem dX5_copyFrom_127 : decode cX5_copyFrom 127 = .ok (.aload_n 0, 1) := by decide +kernel
theorem dX5_copyFrom_128 : decode cX5_copyFrom 128 = .ok (.aload_n 1, 1) := by decide +kernel
theorem dX5_copyFrom_129 : decode cX5_copyFrom 129 = .ok (.getfield 66, 3) := by decide +kernel
theorem dX5_copyFrom_132 : decode cX5_copyFrom 132 = .ok (.putfield 66, 3) := by decide +kernel
theorem dX5_copyFrom_135 : decode cX5_copyFrom 135 = .ok (.aload_n 0, 1) := by decide +kernel
theorem dX5_copyFrom_136 : decode cX5_copyFrom 136 = .ok (.aload_n 1, 1) := by decide +kernel
theorem dX5_copyFrom_137 : decode cX5_copyFrom 137 = .ok (.getfield 69, 3) := by decide +kernel
theorem dX5_copyFrom_140 : decode cX5_copyFrom 140 = .ok (.putfield 69, 3) := by decide +kernel
theorem dX5_copyFrom_143 : decode cX5_copyFrom 143 = .ok (.return_, 1) := by decide +kernel
theorem dX5_bridgeOf_0 : decode cX5_bridgeOf 0 = .ok (.iload_n 1, 1) := by decide +kernel
theorem dX5_bridgeOf_1 : decode cX5_bridgeOf 1 = .ok (.aload_n 0, 1) := by decide +kernel
theorem dX5_bridgeOf_2 : decode cX5_bridgeOf 2 = .ok (.getfield 57, 3) := by decide +kernel
theorem dX5_bridgeOf_5 : decode cX5_bridgeOf 5 = .ok (.invokestatic 72, 3) := by decide +kernel
theorem dX5_bridgeOf_8 : decode cX5_bridgeOf 8 = .ok (.ifCond .eq 12, 3) := by decide +kernel
theorem dX5_bridgeOf_11 : decode cX5_bridgeOf 11 = .ok (.aload_n 0, 1) := by decide +kernel
theorem dX5_bridgeOf_12 : decode cX5_bridgeOf 12 = .ok (.getfield 17, 3) := by decide +kernel
theorem dX5_bridgeOf_15 : decode cX5_bridgeOf 15 = .ok (.iload_n 1, 1) := by decide +kernel
theorem dX5_bridgeOf_16 : decode cX5_bridgeOf 16 = .ok (.aaload, 1) := by decide +kernel
theorem dX5_bridgeOf_17 : decode cX5_bridgeOf 17 = .ok (.goto 4, 3) := by decide +kernel
theorem dX5_bridgeOf_20 : decode cX5_bridgeOf 20 = .ok (.aconst_null, 1) := by decide +kernel
theorem dX5_bridgeOf_21 : decode cX5_bridgeOf 21 = .ok (.areturn, 1) := by decide +kernel
theorem dX5_cartOf_0 : decode cX5_cartOf 0 = .ok (.iload_n 1, 1) := by decide +kernel
theorem dX5_cartOf_1 : decode cX5_cartOf 1 = .ok (.aload_n 0, 1) := by decide +kernel
theorem dX5_cartOf_2 : decode cX5_cartOf 2 = .ok (.getfield 60, 3) := by decide +kernel
theorem dX5_cartOf_5 : decode cX5_cartOf 5 = .ok (.invokestatic 72, 3) := by decide +kernel
theorem dX5_cartOf_8 : decode cX5_cartOf 8 = .ok (.ifCond .eq 12, 3) := by decide +kernel
theorem dX5_cartOf_11 : decode cX5_cartOf 11 = .ok (.aload_n 0, 1) := by decide +kernel
theorem dX5_cartOf_12 : decode cX5_cartOf 12 = .ok (.getfield 23, 3) := by decide +kernel
theorem dX5_cartOf_15 : decode cX5_cartOf 15 = .ok (.iload_n 1, 1) := by decide +kernel
theorem dX5_cartOf_16 : decode cX5_cartOf 16 = .ok (.aaload, 1) := by decide +kernel
theorem dX5_cartOf_17 : decode cX5_cartOf 17 = .ok (.goto 4, 3) := by decide +kernel
theorem dX5_cartOf_20 : decode cX5_cartOf 20 = .ok (.aconst_null, 1) := by decide +kernel
theorem dX5_cartOf_21 : decode cX5_cartOf 21 = .ok (.areturn, 1) := by decide +kernel
theorem dX5_changeSetting_0 : decode cX5_changeSetting 0 = .ok (.iload_n 1, 1) := by decide +kernel
theorem dX5_changeSetting_1 : decode cX5_changeSetting 1 = .ok (.iconst 4, 1) := by decide +kernel
theorem dX5_changeSetting_2 : decode cX5_changeSetting 2 = .ok (.invokestatic 72, 3) := by decide +kernel
theorem dX5_changeSetting_5 : decode cX5_changeSetting 5 = .ok (.ifCond .eq 21, 3) := by decide +kernel
theorem dX5_changeSetting_8 : decode cX5_changeSetting 8 = .ok (.iload_n 2, 1) := by decide +kernel
theorem dX5_changeSetting_9 : decode cX5_changeSetting 9 = .ok (.getstatic 76, 3) := by decide +kernel
theorem dX5_changeSetting_12 : decode cX5_changeSetting 12 = .ok (.iload_n 1, 1) := by decide +kernel
theorem dX5_changeSetting_13 : decode cX5_changeSetting 13 = .ok (.iaload, 1) := by decide +kernel
theorem dX5_changeSetting_14 : decode cX5_changeSetting 14 = .ok (.if_icmp .lt 12, 3) := by decide +kernel
theorem dX5_changeSetting_17 : decode cX5_changeSetting 17 = .ok (.iload_n 2, 1) := by decide +kernel
theorem dX5_changeSetting_18 : decode cX5_changeSetting 18 = .ok (.getstatic 79, 3) := by decide +kernel
theorem dX5_changeSetting_21 : decode cX5_changeSetting 21 = .ok (.iload_n 1, 1) := by decide +kernel
theorem dX5_changeSetting_22 : decode cX5_changeSetting 22 = .ok (.iaload, 1) := by decide +kernel
theorem dX5_changeSetting_23 : decode cX5_changeSetting 23 = .ok (.if_icmp .le 6, 3) := by decide +kernel
theorem dX5_changeSetting_26 : decode cX5_changeSetting 26 = .ok (.bipush (-2), 2) := by decide +kernel
theorem dX5_changeSetting_28 : decode cX5_changeSetting 28 = .ok (.ireturn, 1) := by decide +kernel
theorem dX5_changeSetting_29 : decode cX5_changeSetting 29 = .ok (.aload_n 0, 1) := by decide +kernel
theorem dX5_changeSetting_30 : decode cX5_changeSetting 30 = .ok (.getfield 9, 3) := by decide +kernel
theorem dX5_changeSetting_33 : decode cX5_changeSetting 33 = .ok (.iload_n 1, 1) := by decide +kernel
theorem dX5_changeSetting_34 : decode cX5_changeSetting 34 = .ok (.iaload, 1) := by decide +kernel
theorem dX5_changeSetting_35 : decode cX5_changeSetting 35 = .ok (.istore_n 3, 1) := by decide +kernel
theorem dX5_changeSetting_36 : decode cX5_changeSetting 36 = .ok (.aload_n 0, 1) := by decide +kernel
theorem dX5_changeSetting_37 : decode cX5_changeSetting 37 = .ok (.getfield 9, 3) := by decide +kernel
theorem dX5_changeSetting_40 : decode cX5_changeSetting 40 = .ok (.iload_n 1, 1) := by decide +kernel
theorem dX5_changeSetting_41 : decode cX5_changeSetting 41 = .ok (.iload_n 2, 1) := by decide +kernel
theorem dX5_changeSetting_42 : decode cX5_changeSetting 42 = .ok (.iastore, 1) := by decide +kernel
theorem dX5_changeSetting_43 : decode cX5_changeSetting 43 = .ok (.iload_n 3, 1) := by decide +kernel
theorem dX5_changeSetting_44 : decode cX5_changeSetting 44 = .ok (.ireturn, 1) := by decide +kernel
theorem dX5_addBridge_0 : decode cX5_addBridge 0 = .ok (.iload_n 1, 1) := by decide +kernel
theorem dX5_addBridge_1 : decode cX5_addBridge 1 = .ok (.bipush 8, 2) := by decide +kernel
theorem dX5_addBridge_3 : decode cX5_addBridge 3 = .ok (.invokestatic 72, 3) := by decide +kernel
theorem dX5_addBridge_6 : decode cX5_addBridge 6 = .ok (.ifCond .eq 12, 3) := by decide +kernel
theorem dX5_addBridge_9 : decode cX5_addBridge 9 = .ok (.iload_n 2, 1) := by decide +kernel
theorem dX5_addBridge_10 : decode cX5_addBridge 10 = .ok (.bipush 8, 2) := by decide +kernel
theorem dX5_addBridge_12 : decode cX5_addBridge 12 = .ok (.invokestatic 72, 3) := by decide +kernel
theorem dX5_addBridge_15 : decode cX5_addBridge 15 = .ok (.ifCond .ne 5, 3) := by decide +kernel
theorem dX5_addBridge_18 : decode cX5_addBridge 18 = .ok (.iconst (-1), 1) := by decide +kernel
theorem dX5_addBridge_19 : decode cX5_addBridge 19 = .ok (.ireturn, 1) := by decide +kernel
theorem dX5_addBridge_20 : decode cX5_addBridge 20 = .ok (.iload_n 1, 1) := by decide +kernel
theorem dX5_addBridge_21 : decode cX5_addBridge 21 = .ok (.iload_n 2, 1) := by decide +kernel
theorem dX5_addBridge_22 : decode cX5_addBridge 22 = .ok (.if_icmp .eq 15, 3) := by decide +kernel
theorem dX5_addBridge_25 : decode cX5_addBridge 25 = .ok (.iload_n 3, 1) := by decide +kernel
theorem dX5_addBridge_26 : decode cX5_addBridge 26 = .ok (.iconst 2, 1) := by decide +kernel
theorem dX5_addBridge_27 : decode cX5_addBridge 27 = .ok (.if_icmp .lt 10, 3) := by decide +kernel
theorem dX5_addBridge_30 : decode cX5_addBridge 30 = .ok (.iload_n 3, 1) := by decide +kernel
theorem dX5_addBridge_31 : decode cX5_addBridge 31 = .ok (.sipush 1000, 3) := by decide +kernel
theorem dX5_addBridge_34 : decode cX5_addBridge 34 = .ok (.if_icmp .le 6, 3) := by decide +kernel
theorem dX5_addBridge_37 : decode cX5_addBridge 37 = .ok (.bipush (-2), 2) := by decide +kernel
theorem dX5_addBridge_39 : decode cX5_addBridge 39 = .ok (.ireturn, 1) := by decide +kernel
theorem dX5_addBridge_40 : decode cX5_addBridge 40 = .ok (.aload_n 0, 1) := by decide +kernel
theorem dX5_addBridge_41 : decode cX5_addBridge 41 = .ok (.getfield 57, 3) := by decide +kernel
theorem dX5_addBridge_44 : decode cX5_addBridge 44 = .ok (.bipush 12, 2) := by decide +kernel
theorem dX5_addBridge_46 : decode cX5_addBridge 46 = .ok (.if_icmp .lt 6, 3) := by decide +kernel
theorem dX5_addBridge_49 : decode cX5_addBridge 49 = .ok (.bipush (-4), 2) := by decide +kernel
theorem dX5_addBridge_51 : decode cX5_addBridge 51 = .ok (.ireturn, 1) := by decide +kernel
theorem dX5_addBridge_52 : decode cX5_addBridge 52 = .ok (.aload_n 0, 1) := by decide +kernel
theorem dX5_addBridge_53 : decode cX5_addBridge 53 = .ok (.getfield 17, 3) := by decide +kernel
theorem dX5_addBridge_56 : decode cX5_addBridge 56 = .ok (.aload_n 0, 1) := by decide +kernel
theorem dX5_addBridge_57 : decode cX5_addBridge 57 = .ok (.getfield 57, 3) := by decide +kernel
theorem dX5_addBridge_60 : decode cX5_addBridge 60 = .ok (.aaload, 1) := by decide +kernel
theorem dX5_addBridge_61 : decode cX5_addBridge 61 = .ok (.astore 4, 2) := by decide +kernel
theorem dX5_addBridge_63 : decode cX5_addBridge 63 = .ok (.aload 4, 2) := by decide +kernel
theorem dX5_addBridge_65 : decode cX5_addBridge 65 = .ok (.iload_n 1, 1) := by decide +kernel
theorem dX5_addBridge_66 : decode cX5_addBridge 66 = .ok (.putfield 82, 3) := by decide +kernel
theorem dX5_addBridge_69 : decode cX5_addBridge 69 = .ok (.aload 4, 2) := by decide +kernel
theorem dX5_addBridge_71 : decode cX5_addBridge 71 = .ok (.iload_n 2, 1) := by decide +kernel
theorem dX5_addBridge_72 : decode cX5_addBridge 72 = .ok (.putfield 85, 3) := by decide +kernel
theorem dX5_addBridge_75 : decode cX5_addBridge 75 = .ok (.aload 4, 2) := by decide +kernel
theorem dX5_addBridge_77 : decode cX5_addBridge 77 = .ok (.iload_n 3, 1) := by decide +kernel
theorem dX5_addBridge_78 : decode cX5_addBridge 78 = .ok (.putfield 88, 3) := by decide +kernel
theorem dX5_addBridge_81 : decode cX5_addBridge 81 = .ok (.aload_n 0, 1) := by decide +kernel
theorem dX5_addBridge_82 : decode cX5_addBridge 82 = .ok (.aload 4, 2) := by decide +kernel
theorem dX5_addBridge_84 : decode cX5_addBridge 84 = .ok (.invokevirtual 91, 3) := by decide +kernel
theorem dX5_addBridge_87 : decode cX5_addBridge 87 = .ok (.aload_n 0, 1) := by decide +kernel
theorem dX5_addBridge_88 : decode cX5_addBridge 88 = .ok (.dup, 1) := by decide +kernel
theorem dX5_addBridge_89 : decode cX5_addBridge 89 = .ok (.getfield 57, 3) := by decide +kernel
theorem dX5_addBridge_92 : decode cX5_addBridge 92 = .ok (.iconst 1, 1) := by decide +kernel
theorem dX5_addBridge_93 : decode cX5_addBridge 93 = .ok (.iadd, 1) := by decide +kernel
theorem dX5_addBridge_94 : decode cX5_addBridge 94 = .ok (.putfield 57, 3) := by decide +kernel
theorem dX5_addBridge_97 : decode cX5_addBridge 97 = .ok (.aload 4, 2) := by decide +kernel
theorem dX5_addBridge_99 : decode cX5_addBridge 99 = .ok (.getfield 94, 3) := by decide +kernel
theorem dX5_addBridge_102 : decode cX5_addBridge 102 = .ok (.ireturn, 1) := by decide +kernel
theorem dX5_addCart_0 : decode cX5_addCart 0 = .ok (.iload_n 1, 1) := by decide +kernel
theorem dX5_addCart_1 : decode cX5_addCart 1 = .ok (.bipush 8, 2) := by decide +kernel
theorem dX5_addCart_3 : decode cX5_addCart 3 = .ok (.invokestatic 72, 3) := by decide +kernel
theorem dX5_addCart_6 : decode cX5_addCart 6 = .ok (.ifCond .ne 5, 3) := by decide +kernel
theorem dX5_addCart_9 : decode cX5_addCart 9 = .ok (.iconst (-1), 1) := by decide +kernel
theorem dX5_addCart_10 : decode cX5_addCart 10 = .ok (.ireturn, 1) := by decide +kernel
theorem dX5_addCart_11 : decode cX5_addCart 11 = .ok (.iload_n 2, 1) := by decide +kernel
theorem dX5_addCart_12 : decode cX5_addCart 12 = .ok (.ifCond .lt 10, 3) := by decide +kernel
theorem dX5_addCart_15 : decode cX5_addCart 15 = .ok (.iload_n 2, 1) := by decide +kernel
theorem dX5_addCart_16 : decode cX5_addCart 16 = .ok (.sipush 9999, 3) := by decide +kernel
theorem dX5_addCart_19 : decode cX5_addCart 19 = .ok (.if_icmp .le 6, 3) := by decide +kernel
theorem dX5_addCart_22 : decode cX5_addCart 22 = .ok (.bipush (-2), 2) := by decide +kernel
theorem dX5_addCart_24 : decode cX5_addCart 24 = .ok (.ireturn, 1) := by decide +kernel
theorem dX5_addCart_25 : decode cX5_addCart 25 = .ok (.aload_n 0, 1) := by decide +kernel
theorem dX5_addCart_26 : decode cX5_addCart 26 = .ok (.getfield 60, 3) := by decide +kernel
theorem dX5_addCart_29 : decode cX5_addCart 29 = .ok (.bipush 8, 2) := by decide +kernel
theorem dX5_addCart_31 : decode cX5_addCart 31 = .ok (.if_icmp .lt 6, 3) := by decide +kernel
theorem dX5_addCart_34 : decode cX5_addCart 34 = .ok (.bipush (-4), 2) := by decide +kernel
theorem dX5_addCart_36 : decode cX5_addCart 36 = .ok (.ireturn, 1) := by decide +kernel
theorem dX5_addCart_37 : decode cX5_addCart 37 = .ok (.aload_n 0, 1) := by decide +kernel
theorem dX5_addCart_38 : decode cX5_addCart 38 = .ok (.getfield 23, 3) := by decide +kernel
theorem dX5_addCart_41 : decode cX5_addCart 41 = .ok (.aload_n 0, 1) := by decide +kernel
theorem dX5_addCart_42 : decode cX5_addCart 42 = .ok (.getfield 60, 3) := by decide +kernel
theorem dX5_addCart_45 : decode cX5_addCart 45 = .ok (.aaload, 1) := by decide +kernel
theorem dX5_addCart_46 : decode cX5_addCart 46 = .ok (.astore_n 3, 1) := by decide +kernel
theorem dX5_addCart_47 : decode cX5_addCart 47 = .ok (.aload_n 3, 1) := by decide +kernel
theorem dX5_addCart_48 : decode cX5_addCart 48 = .ok (.iload_n 1, 1) := by decide +kernel
theorem dX5_addCart_49 : decode cX5_addCart 49 = .ok (.putfield 97, 3) := by decide +kernel
theorem dX5_addCart_52 : decode cX5_addCart 52 = .ok (.aload_n 3, 1) := by decide +kernel
theorem dX5_addCart_53 : decode cX5_addCart 53 = .ok (.iload_n 2, 1) := by decide +kernel
theorem dX5_addCart_54 : decode cX5_addCart 54 = .ok (.putfield 98, 3) := by decide +kernel
theorem dX5_addCart_57 : decode cX5_addCart 57 = .ok (.aload_n 0, 1) := by decide +kernel
theorem dX5_addCart_58 : decode cX5_addCart 58 = .ok (.dup, 1) := by decide +kernel
theorem dX5_addCart_59 : decode cX5_addCart 59 = .ok (.getfield 66, 3) := by decide +kernel
theorem dX5_addCart_62 : decode cX5_addCart 62 = .ok (.iload_n 2, 1) := by decide +kernel
theorem dX5_addCart_63 : decode cX5_addCart 63 = .ok (.iadd, 1) := by decide +kernel
theorem dX5_addCart_64 : decode cX5_addCart 64 = .ok (.putfield 66, 3) := by decide +kernel
theorem dX5_addCart_67 : decode cX5_addCart 67 = .ok (.aload_n 0, 1) := by decide +kernel
theorem dX5_addCart_68 : decode cX5_addCart 68 = .ok (.dup, 1) := by decide +kernel
theorem dX5_addCart_69 : decode cX5_addCart 69 = .ok (.getfield 60, 3) := by decide +kernel
theorem dX5_addCart_72 : decode cX5_addCart 72 = .ok (.iconst 1, 1) := by decide +kernel
theorem dX5_addCart_73 : decode cX5_addCart 73 = .ok (.iadd, 1) := by decide +kernel
theorem dX5_addCart_74 : decode cX5_addCart 74 = .ok (.putfield 60, 3) := by decide +kernel
theorem dX5_addCart_77 : decode cX5_addCart 77 = .ok (.aload_n 3, 1) := by decide +kernel
theorem dX5_addCart_78 : decode cX5_addCart 78 = .ok (.getfield 101, 3) := by decide +kernel
theorem dX5_addCart_81 : decode cX5_addCart 81 = .ok (.ireturn, 1) := by decide +kernel
theorem dX5_comeToWait_0 : decode cX5_comeToWait 0 = .ok (.aload_n 0, 1) := by decide +kernel
theorem dX5_comeToWait_1 : decode cX5_comeToWait 1 = .ok (.iload_n 1, 1) := by decide +kernel
theorem dX5_comeToWait_2 : decode cX5_comeToWait 2 = .ok (.invokevirtual 102, 3) := by decide +kernel
theorem dX5_comeToWait_5 : decode cX5_comeToWait 5 = .ok (.astore 4, 2) := by decide +kernel
theorem dX5_comeToWait_7 : decode cX5_comeToWait 7 = .ok (.aload_n 0, 1) := by decide +kernel
theorem dX5_comeToWait_8 : decode cX5_comeToWait 8 = .ok (.iload_n 2, 1) := by decide +kernel
theorem dX5_comeToWait_9 : decode cX5_comeToWait 9 = .ok (.invokevirtual 106, 3) := by decide +kernel
theorem dX5_comeToWait_12 : decode cX5_comeToWait 12 = .ok (.astore 5, 2) := by decide +kernel
theorem dX5_comeToWait_14 : decode cX5_comeToWait 14 = .ok (.aload 4, 2) := by decide +kernel
theorem dX5_comeToWait_16 : decode cX5_comeToWait 16 = .ok (.ifnull 8, 3) := by decide +kernel
theorem dX5_comeToWait_19 : decode cX5_comeToWait 19 = .ok (.aload 5, 2) := by decide +kernel
theorem dX5_comeToWait_21 : decode cX5_comeToWait 21 = .ok (.ifnonnull 5, 3) := by decide +kernel
theorem dX5_comeToWait_24 : decode cX5_comeToWait 24 = .ok (.iconst (-1), 1) := by decide +kernel
theorem dX5_comeToWait_25 : decode cX5_comeToWait 25 = .ok (.ireturn, 1) := by decide +kernel
theorem dX5_comeToWait_26 : decode cX5_comeToWait 26 = .ok (.iload_n 3, 1) := by decide +kernel
theorem dX5_comeToWait_27 : decode cX5_comeToWait 27 = .ok (.aload 5, 2) := by decide +kernel
theorem dX5_comeToWait_29 : decode cX5_comeToWait 29 = .ok (.getfield 88, 3) := by decide +kernel
theorem dX5_comeToWait_32 : decode cX5_comeToWait 32 = .ok (.invokestatic 72, 3) := by decide +kernel
theorem dX5_comeToWait_35 : decode cX5_comeToWait 35 = .ok (.ifCond .ne 6, 3) := by decide +kernel
theorem dX5_comeToWait_38 : decode cX5_comeToWait 38 = .ok (.bipush (-2), 2) := by decide +kernel
theorem dX5_comeToWait_40 : decode cX5_comeToWait 40 = .ok (.ireturn, 1) := by decide +kernel
theorem dX5_comeToWait_41 : decode cX5_comeToWait 41 = .ok (.aload 4, 2) := by decide +kernel
theorem dX5_comeToWait_43 : decode cX5_comeToWait 43 = .ok (.invokevirtual 110, 3) := by decide +kernel
theorem dX5_comeToWait_46 : decode cX5_comeToWait 46 = .ok (.ifCond .ne 25, 3) := by decide +kernel
theorem dX5_comeToWait_49 : decode cX5_comeToWait 49 = .ok (.aload 5, 2) := by decide +kernel
theorem dX5_comeToWait_51 : decode cX5_comeToWait 51 = .ok (.aload 4, 2) := by decide +kernel
theorem dX5_comeToWait_53 : decode cX5_comeToWait 53 = .ok (.getfield 97, 3) := by decide +kernel
theorem dX5_comeToWait_56 : decode cX5_comeToWait 56 = .ok (.invokevirtual 114, 3) := by decide +kernel
theorem dX5_comeToWait_59 : decode cX5_comeToWait 59 = .ok (.ifCond .eq 12, 3) := by decide +kernel
theorem dX5_comeToWait_62 : decode cX5_comeToWait 62 = .ok (.aload_n 0, 1) := by decide +kernel
theorem dX5_comeToWait_63 : decode cX5_comeToWait 63 = .ok (.getfield 54, 3) := by decide +kernel
theorem dX5_comeToWait_66 : decode cX5_comeToWait 66 = .ok (.bipush 8, 2) := by decide +kernel
theorem dX5_comeToWait_68 : decode cX5_comeToWait 68 = .ok (.if_icmp .lt 6, 3) := by decide +kernel
theorem dX5_comeToWait_71 : decode cX5_comeToWait 71 = .ok (.bipush (-5), 2) := by decide +kernel
theorem dX5_comeToWait_73 : decode cX5_comeToWait 73 = .ok (.ireturn, 1) := by decide +kernel
theorem dX5_comeToWait_74 : decode cX5_comeToWait 74 = .ok (.aload_n 0, 1) := by decide +kernel
theorem dX5_comeToWait_75 : decode cX5_comeToWait 75 = .ok (.getfield 27, 3) := by decide +kernel
theorem dX5_comeToWait_78 : decode cX5_comeToWait 78 = .ok (.aload_n 0, 1) := by decide +kernel
theorem dX5_comeToWait_79 : decode cX5_comeToWait 79 = .ok (.getfield 54, 3) := by decide +kernel
theorem dX5_comeToWait_82 : decode cX5_comeToWait 82 = .ok (.iload_n 1, 1) := by decide +kernel
theorem dX5_comeToWait_83 : decode cX5_comeToWait 83 = .ok (.iastore, 1) := by decide +kernel
theorem dX5_comeToWait_84 : decode cX5_comeToWait 84 = .ok (.aload_n 0, 1) := by decide +kernel
theorem dX5_comeToWait_85 : decode cX5_comeToWait 85 = .ok (.dup, 1) := by decide +kernel
theorem dX5_comeToWait_86 : decode cX5_comeToWait 86 = .ok (.getfield 54, 3) := by decide +kernel
theorem dX5_comeToWait_89 : decode cX5_comeToWait 89 = .ok (.iconst 1, 1) := by decide +kernel
theorem dX5_comeToWait_90 : decode cX5_comeToWait 90 = .ok (.iadd, 1) := by decide +kernel
theorem dX5_comeToWait_91 : decode cX5_comeToWait 91 = .ok (.putfield 54, 3) := by decide +kernel
theorem dX5_comeToWait_94 : decode cX5_comeToWait 94 = .ok (.aload 4, 2) := by decide +kernel
theorem dX5_comeToWait_96 : decode cX5_comeToWait 96 = .ok (.iload_n 2, 1) := by decide +kernel
theorem dX5_comeToWait_97 : decode cX5_comeToWait 97 = .ok (.putfield 118, 3) := by decide +kernel
theorem dX5_comeToWait_100 : decode cX5_comeToWait 100 = .ok (.aload 4, 2) := by decide +kernel
theorem dX5_comeToWait_102 : decode cX5_comeToWait 102 = .ok (.iload_n 3, 1) := by decide +kernel
theorem dX5_comeToWait_103 : decode cX5_comeToWait 103 = .ok (.putfield 121, 3) := by decide +kernel
theorem dX5_comeToWait_106 : decode cX5_comeToWait 106 = .ok (.aload 5, 2) := by decide +kernel
theorem dX5_comeToWait_108 : decode cX5_comeToWait 108 = .ok (.dup, 1) := by decide +kernel
theorem dX5_comeToWait_109 : decode cX5_comeToWait 109 = .ok (.getfield 124, 3) := by decide +kernel
theorem dX5_comeToWait_112 : decode cX5_comeToWait 112 = .ok (.iconst 1, 1) := by decide +kernel
theorem dX5_comeToWait_113 : decode cX5_comeToWait 113 = .ok (.iadd, 1) := by decide +kernel
theorem dX5_comeToWait_114 : decode cX5_comeToWait 114 = .ok (.putfield 124, 3) := by decide +kernel
theorem dX5_comeToWait_117 : decode cX5_comeToWait 117 = .ok (.aload 5, 2) := by decide +kernel
theorem dX5_comeToWait_119 : decode cX5_comeToWait 119 = .ok (.getfield 124, 3) := by decide +kernel
theorem dX5_comeToWait_122 : decode cX5_comeToWait 122 = .ok (.ireturn, 1) := by decide +kernel
theorem dX5_stopWaiting_0 : decode cX5_stopWaiting 0 = .ok (.aload_n 0, 1) := by decide +kernel
theorem dX5_stopWaiting_1 : decode cX5_stopWaiting 1 = .ok (.iload_n 1, 1) := by decide +kernel
theorem dX5_stopWaiting_2 : decode cX5_stopWaiting 2 = .ok (.invokevirtual 102, 3) := by decide +kernel
theorem dX5_stopWaiting_5 : decode cX5_stopWaiting 5 = .ok (.astore_n 2, 1) := by decide +kernel
theorem dX5_stopWaiting_6 : decode cX5_stopWaiting 6 = .ok (.aload_n 2, 1) := by decide +kernel
theorem dX5_stopWaiting_7 : decode cX5_stopWaiting 7 = .ok (.ifnonnull 5, 3) := by decide +kernel
theorem dX5_stopWaiting_10 : decode cX5_stopWaiting 10 = .ok (.iconst (-1), 1) := by decide +kernel
theorem dX5_stopWaiting_11 : decode cX5_stopWaiting 11 = .ok (.ireturn, 1) := by decide +kernel
theorem dX5_stopWaiting_12 : decode cX5_stopWaiting 12 = .ok (.aload_n 0, 1) := by decide +kernel
theorem dX5_stopWaiting_13 : decode cX5_stopWaiting 13 = .ok (.aload_n 2, 1) := by decide +kernel
theorem dX5_stopWaiting_14 : decode cX5_stopWaiting 14 = .ok (.getfield 118, 3) := by decide +kernel
theorem dX5_stopWaiting_17 : decode cX5_stopWaiting 17 = .ok (.invokevirtual 106, 3) := by decide +kernel
theorem dX5_stopWaiting_20 : decode cX5_stopWaiting 20 = .ok (.astore_n 3, 1) := by decide +kernel
theorem dX5_stopWaiting_21 : decode cX5_stopWaiting 21 = .ok (.aload_n 3, 1) := by decide +kernel
theorem dX5_stopWaiting_22 : decode cX5_stopWaiting 22 = .ok (.ifnonnull 6, 3) := by decide +kernel
theorem dX5_stopWaiting_25 : decode cX5_stopWaiting 25 = .ok (.bipush (-5), 2) := by decide +kernel
theorem dX5_stopWaiting_27 : decode cX5_stopWaiting 27 = .ok (.ireturn, 1) := by decide +kernel
theorem dX5_stopWaiting_28 : decode cX5_stopWaiting 28 = .ok (.aload_n 0, 1) := by decide +kernel
theorem dX5_stopWaiting_29 : decode cX5_stopWaiting 29 = .ok (.aload_n 2, 1) := by decide +kernel
theorem dX5_stopWaiting_30 : decode cX5_stopWaiting 30 = .ok (.aload_n 3, 1) := by decide +kernel
theorem dX5_stopWaiting_31 : decode cX5_stopWaiting 31 = .ok (.invokevirtual 127, 3) := by decide +kernel
theorem dX5_stopWaiting_34 : decode cX5_stopWaiting 34 = .ok (.aload_n 3, 1) := by decide +kernel
theorem dX5_stopWaiting_35 : decode cX5_stopWaiting 35 = .ok (.getfield 94, 3) := by decide +kernel
theorem dX5_stopWaiting_38 : decode cX5_stopWaiting 38 = .ok (.ireturn, 1) := by decide +kernel
theorem dX5_buyHint_0 : decode cX5_buyHint 0 = .ok (.aload_n 0, 1) := by decide +kernel
theorem dX5_buyHint_1 : decode cX5_buyHint 1 = .ok (.iload_n 1, 1) := by decide +kernel
theorem dX5_buyHint_2 : decode cX5_buyHint 2 = .ok (.invokevirtual 102, 3) := by decide +kernel
theorem dX5_buyHint_5 : decode cX5_buyHint 5 = .ok (.astore_n 3, 1) := by decide +kernel
theorem dX5_buyHint_6 : decode cX5_buyHint 6 = .ok (.aload_n 0, 1) := by decide +kernel
theorem dX5_buyHint_7 : decode cX5_buyHint 7 = .ok (.iload_n 2, 1) := by decide +kernel
theorem dX5_buyHint_8 : decode cX5_buyHint 8 = .ok (.invokevirtual 106, 3) := by decide +kernel
theorem dX5_buyHint_11 : decode cX5_buyHint 11 = .ok (.astore 4, 2) := by decide +kernel
theorem dX5_buyHint_13 : decode cX5_buyHint 13 = .ok (.aload_n 3, 1) := by decide +kernel
theorem dX5_buyHint_14 : decode cX5_buyHint 14 = .ok (.ifnull 8, 3) := by decide +kernel
theorem dX5_buyHint_17 : decode cX5_buyHint 17 = .ok (.aload 4, 2) := by decide +kernel
theorem dX5_buyHint_19 : decode cX5_buyHint 19 = .ok (.ifnonnull 5, 3) := by decide +kernel
theorem dX5_buyHint_22 : decode cX5_buyHint 22 = .ok (.iconst (-1), 1) := by decide +kernel
theorem dX5_buyHint_23 : decode cX5_buyHint 23 = .ok (.ireturn, 1) := by decide +kernel
theorem dX5_buyHint_24 : decode cX5_buyHint 24 = .ok (.aload_n 0, 1) := by decide +kernel
theorem dX5_buyHint_25 : decode cX5_buyHint 25 = .ok (.getfield 9, 3) := by decide +kernel
theorem dX5_buyHint_28 : decode cX5_buyHint 28 = .ok (.iconst 1, 1) := by decide +kernel
theorem dX5_buyHint_29 : decode cX5_buyHint 29 = .ok (.iaload, 1) := by decide +kernel
theorem dX5_buyHint_30 : decode cX5_buyHint 30 = .ok (.istore 5, 2) := by decide +kernel
theorem dX5_buyHint_32 : decode cX5_buyHint 32 = .ok (.aload 4, 2) := by decide +kernel
theorem dX5_buyHint_34 : decode cX5_buyHint 34 = .ok (.aload_n 3, 1) := by decide +kernel
theorem dX5_buyHint_35 : decode cX5_buyHint 35 = .ok (.getfield 97, 3) := by decide +kernel
theorem dX5_buyHint_38 : decode cX5_buyHint 38 = .ok (.invokevirtual 114, 3) := by decide +kernel
theorem dX5_buyHint_41 : decode cX5_buyHint 41 = .ok (.ifCond .eq 22, 3) := by decide +kernel
theorem dX5_buyHint_44 : decode cX5_buyHint 44 = .ok (.aload_n 3, 1) := by decide +kernel
theorem dX5_buyHint_45 : decode cX5_buyHint 45 = .ok (.getfield 98, 3) := by decide +kernel
theorem dX5_buyHint_48 : decode cX5_buyHint 48 = .ok (.iload 5, 2) := by decide +kernel
theorem dX5_buyHint_50 : decode cX5_buyHint 50 = .ok (.if_icmp .lt 13, 3) := by decide +kernel
theorem dX5_buyHint_53 : decode cX5_buyHint 53 = .ok (.aload_n 3, 1) := by decide +kernel
theorem dX5_buyHint_54 : decode cX5_buyHint 54 = .ok (.aload 4, 2) := by decide +kernel
theorem dX5_buyHint_56 : decode cX5_buyHint 56 = .ok (.invokevirtual 131, 3) := by decide +kernel
theorem dX5_buyHint_59 : decode cX5_buyHint 59 = .ok (.iconst 1, 1) := by decide +kernel
theorem dX5_buyHint_60 : decode cX5_buyHint 60 = .ok (.if_icmp .ne 6, 3) := by decide +kernel
theorem dX5_buyHint_63 : decode cX5_buyHint 63 = .ok (.bipush (-5), 2) := by decide +kernel
theorem dX5_buyHint_65 : decode cX5_buyHint 65 = .ok (.ireturn, 1) := by decide +kernel
theorem dX5_buyHint_66 : decode cX5_buyHint 66 = .ok (.aload_n 3, 1) := by decide +kernel
theorem dX5_buyHint_67 : decode cX5_buyHint 67 = .ok (.iload 5, 2) := by decide +kernel
theorem dX5_buyHint_69 : decode cX5_buyHint 69 = .ok (.aload 4, 2) := by decide +kernel
theorem dX5_buyHint_71 : decode cX5_buyHint 71 = .ok (.invokevirtual 135, 3) := by decide +kernel
theorem dX5_buyHint_74 : decode cX5_buyHint 74 = .ok (.aload_n 3, 1) := by decide +kernel
theorem dX5_buyHint_75 : decode cX5_buyHint 75 = .ok (.aload 4, 2) := by decide +kernel
theorem dX5_buyHint_77 : decode cX5_buyHint 77 = .ok (.invokevirtual 139, 3) := by decide +kernel
theorem dX5_buyHint_80 : decode cX5_buyHint 80 = .ok (.aload_n 0, 1) := by decide +kernel
theorem dX5_buyHint_81 : decode cX5_buyHint 81 = .ok (.dup, 1) := by decide +kernel
theorem dX5_buyHint_82 : decode cX5_buyHint 82 = .ok (.getfield 69, 3) := by decide +kernel
theorem dX5_buyHint_85 : decode cX5_buyHint 85 = .ok (.iconst 1, 1) := by decide +kernel
theorem dX5_buyHint_86 : decode cX5_buyHint 86 = .ok (.iadd, 1) := by decide +kernel
theorem dX5_buyHint_87 : decode cX5_buyHint 87 = .ok (.putfield 69, 3) := by decide +kernel
theorem dX5_buyHint_90 : decode cX5_buyHint 90 = .ok (.aload_n 3, 1) := by decide +kernel
theorem dX5_buyHint_91 : decode cX5_buyHint 91 = .ok (.aload 4, 2) := by decide +kernel
theorem dX5_buyHint_93 : decode cX5_buyHint 93 = .ok (.invokevirtual 131, 3) := by decide +kernel
theorem dX5_buyHint_96 : decode cX5_buyHint 96 = .ok (.ireturn, 1) := by decide +kernel
theorem dX5_passHours_0 : decode cX5_passHours 0 = .ok (.iload_n 1, 1) := by decide +kernel
theorem dX5_passHours_1 : decode cX5_passHours 1 = .ok (.iconst 1, 1) := by decide +kernel
theorem dX5_passHours_2 : decode cX5_passHours 2 = .ok (.if_icmp .lt 9, 3) := by decide +kernel
theorem dX5_passHours_5 : decode cX5_passHours 5 = .ok (.iload_n 1, 1) := by decide +kernel
theorem dX5_passHours_6 : decode cX5_passHours 6 = .ok (.bipush 99, 2) := by decide +kernel
theorem dX5_passHours_8 : decode cX5_passHours 8 = .ok (.if_icmp .le 6, 3) := by decide +kernel
theorem dX5_passHours_11 : decode cX5_passHours 11 = .ok (.bipush (-2), 2) := by decide +kernel
theorem dX5_passHours_13 : decode cX5_passHours 13 = .ok (.ireturn, 1) := by decide +kernel
theorem dX5_passHours_14 : decode cX5_passHours 14 = .ok (.aload_n 0, 1) := by decide +kernel
theorem dX5_passHours_15 : decode cX5_passHours 15 = .ok (.getfield 63, 3) := by decide +kernel
theorem dX5_passHours_18 : decode cX5_passHours 18 = .ok (.iload_n 1, 1) := by decide +kernel
theorem dX5_passHours_19 : decode cX5_passHours 19 = .ok (.iadd, 1) := by decide +kernel
theorem dX5_passHours_20 : decode cX5_passHours 20 = .ok (.sipush 9999, 3) := by decide +kernel
theorem dX5_passHours_23 : decode cX5_passHours 23 = .ok (.if_icmp .le 6, 3) := by decide +kernel
theorem dX5_passHours_26 : decode cX5_passHours 26 = .ok (.bipush (-5), 2) := by decide +kernel
theorem dX5_passHours_28 : decode cX5_passHours 28 = .ok (.ireturn, 1) := by decide +kernel
theorem dX5_passHours_29 : decode cX5_passHours 29 = .ok (.iconst 0, 1) := by decide +kernel
theorem dX5_passHours_30 : decode cX5_passHours 30 = .ok (.istore_n 2, 1) := by decide +kernel
theorem dX5_passHours_31 : decode cX5_passHours 31 = .ok (.iconst 0, 1) := by decide +kernel
theorem dX5_passHours_32 : decode cX5_passHours 32 = .ok (.istore_n 3, 1) := by decide +kernel
theorem dX5_passHours_33 : decode cX5_passHours 33 = .ok (.iload_n 3, 1) := by decide +kernel
theorem dX5_passHours_34 : decode cX5_passHours 34 = .ok (.iload_n 1, 1) := by decide +kernel
theorem dX5_passHours_35 : decode cX5_passHours 35 = .ok (.if_icmp .ge 16, 3) := by decide +kernel
theorem dX5_passHours_38 : decode cX5_passHours 38 = .ok (.iload_n 2, 1) := by decide +kernel
theorem dX5_passHours_39 : decode cX5_passHours 39 = .ok (.aload_n 0, 1) := by decide +kernel
theorem dX5_passHours_40 : decode cX5_passHours 40 = .ok (.invokevirtual 142, 3) := by decide +kernel
theorem dX5_passHours_43 : decode cX5_passHours 43 = .ok (.iadd, 1) := by decide +kernel
theorem dX5_passHours_44 : decode cX5_passHours 44 = .ok (.istore_n 2, 1) := by decide +kernel
theorem dX5_passHours_45 : decode cX5_passHours 45 = .ok (.iinc 3 1, 3) := by decide +kernel
theorem dX5_passHours_48 : decode cX5_passHours 48 = .ok (.goto (-15), 3) := by decide +kernel
theorem dX5_passHours_51 : decode cX5_passHours 51 = .ok (.iload_n 2, 1) := by decide +kernel
theorem dX5_passHours_52 : decode cX5_passHours 52 = .ok (.ireturn, 1) := by decide +kernel
theorem dX5_playHour_0 : decode cX5_playHour 0 = .ok (.iconst 0, 1) := by decide +kernel
theorem dX5_playHour_1 : decode cX5_playHour 1 = .ok (.istore_n 1, 1) := by decide +kernel
theorem dX5_playHour_2 : decode cX5_playHour 2 = .ok (.iconst 0, 1) := by decide +kernel
theorem dX5_playHour_3 : decode cX5_playHour 3 = .ok (.istore_n 2, 1) := by decide +kernel
theorem dX5_playHour_4 : decode cX5_playHour 4 = .ok (.iload_n 2, 1) := by decide +kernel
theorem dX5_playHour_5 : decode cX5_playHour 5 = .ok (.aload_n 0, 1) := by decide +kernel
theorem dX5_playHour_6 : decode cX5_playHour 6 = .ok (.getfield 57, 3) := by decide +kernel
theorem dX5_playHour_9 : decode cX5_playHour 9 = .ok (.if_icmp .ge 22, 3) := by decide +kernel
theorem dX5_playHour_12 : decode cX5_playHour 12 = .ok (.iload_n 1, 1) := by decide +kernel
theorem dX5_playHour_13 : decode cX5_playHour 13 = .ok (.aload_n 0, 1) := by decide +kernel
theorem dX5_playHour_14 : decode cX5_playHour 14 = .ok (.aload_n 0, 1) := by decide +kernel
theorem dX5_playHour_15 : decode cX5_playHour 15 = .ok (.getfield 17, 3) := by decide +kernel
theorem dX5_playHour_18 : decode cX5_playHour 18 = .ok (.iload_n 2, 1) := by decide +kernel
theorem dX5_playHour_19 : decode cX5_playHour 19 = .ok (.aaload, 1) := by decide +kernel
theorem dX5_playHour_20 : decode cX5_playHour 20 = .ok (.invokevirtual 146, 3) := by decide +kernel
theorem dX5_playHour_23 : decode cX5_playHour 23 = .ok (.iadd, 1) := by decide +kernel
theorem dX5_playHour_24 : decode cX5_playHour 24 = .ok (.istore_n 1, 1) := by decide +kernel
theorem dX5_playHour_25 : decode cX5_playHour 25 = .ok (.iinc 2 1, 3) := by decide +kernel
theorem dX5_playHour_28 : decode cX5_playHour 28 = .ok (.goto (-24), 3) := by decide +kernel
theorem dX5_playHour_31 : decode cX5_playHour 31 = .ok (.iconst 0, 1) := by decide +kernel
theorem dX5_playHour_32 : decode cX5_playHour 32 = .ok (.istore_n 2, 1) := by decide +kernel
theorem dX5_playHour_33 : decode cX5_playHour 33 = .ok (.iload_n 2, 1) := by decide +kernel
theorem dX5_playHour_34 : decode cX5_playHour 34 = .ok (.aload_n 0, 1) := by decide +kernel
theorem dX5_playHour_35 : decode cX5_playHour 35 = .ok (.getfield 60, 3) := by decide +kernel
theorem dX5_playHour_38 : decode cX5_playHour 38 = .ok (.if_icmp .ge 36, 3) := by decide +kernel
theorem dX5_playHour_41 : decode cX5_playHour 41 = .ok (.aload_n 0, 1) := by decide +kernel
theorem dX5_playHour_42 : decode cX5_playHour 42 = .ok (.getfield 23, 3) := by decide +kernel
theorem dX5_playHour_45 : decode cX5_playHour 45 = .ok (.iload_n 2, 1) := by decide +kernel
theorem dX5_playHour_46 : decode cX5_playHour 46 = .ok (.aaload, 1) := by decide +kernel
theorem dX5_playHour_47 : decode cX5_playHour 47 = .ok (.invokevirtual 110, 3) := by decide +kernel
theorem dX5_playHour_50 : decode cX5_playHour 50 = .ok (.ifCond .eq 18, 3) := by decide +kernel
theorem dX5_playHour_53 : decode cX5_playHour 53 = .ok (.aload_n 0, 1) := by decide +kernel
theorem dX5_playHour_54 : decode cX5_playHour 54 = .ok (.getfield 23, 3) := by decide +kernel
theorem dX5_playHour_57 : decode cX5_playHour 57 = .ok (.iload_n 2, 1) := by decide +kernel
theorem dX5_playHour_58 : decode cX5_playHour 58 = .ok (.aaload, 1) := by decide +kernel
theorem dX5_playHour_59 : decode cX5_playHour 59 = .ok (.dup, 1) := by decide +kernel
theorem dX5_playHour_60 : decode cX5_playHour 60 = .ok (.getfield 149, 3) := by decide +kernel
theorem dX5_playHour_63 : decode cX5_playHour 63 = .ok (.iconst 1, 1) := by decide +kernel
theorem dX5_playHour_64 : decode cX5_playHour 64 = .ok (.iadd, 1) := by decide +kernel
theorem dX5_playHour_65 : decode cX5_playHour 65 = .ok (.putfield 149, 3) := by decide +kernel
theorem dX5_playHour_68 : decode cX5_playHour 68 = .ok (.iinc 2 1, 3) := by decide +kernel
theorem dX5_playHour_71 : decode cX5_playHour 71 = .ok (.goto (-38), 3) := by decide +kernel
theorem dX5_playHour_74 : decode cX5_playHour 74 = .ok (.aload_n 0, 1) := by decide +kernel
theorem dX5_playHour_75 : decode cX5_playHour 75 = .ok (.dup, 1) := by decide +kernel
theorem dX5_playHour_76 : decode cX5_playHour 76 = .ok (.getfield 63, 3) := by decide +kernel
theorem dX5_playHour_79 : decode cX5_playHour 79 = .ok (.iconst 1, 1) := by decide +kernel
theorem dX5_playHour_80 : decode cX5_playHour 80 = .ok (.iadd, 1) := by decide +kernel
theorem dX5_playHour_81 : decode cX5_playHour 81 = .ok (.putfield 63, 3) := by decide +kernel
theorem dX5_playHour_84 : decode cX5_playHour 84 = .ok (.iload_n 1, 1) := by decide +kernel
theorem dX5_playHour_85 : decode cX5_playHour 85 = .ok (.ireturn, 1) := by decide +kernel
theorem dX5_letOver_0 : decode cX5_letOver 0 = .ok (.aload_n 0, 1) := by decide +kernel
theorem dX5_letOver_1 : decode cX5_letOver 1 = .ok (.aload_n 1, 1) := by decide +kernel
theorem dX5_letOver_2 : decode cX5_letOver 2 = .ok (.invokevirtual 152, 3) := by decide +kernel
theorem dX5_letOver_5 : decode cX5_letOver 5 = .ok (.istore_n 2, 1) := by decide +kernel
theorem dX5_letOver_6 : decode cX5_letOver 6 = .ok (.aload_n 0, 1) := by decide +kernel
theorem dX5_letOver_7 : decode cX5_letOver 7 = .ok (.aload_n 1, 1) := by decide +kernel
theorem dX5_letOver_8 : decode cX5_letOver 8 = .ok (.invokevirtual 156, 3) := by decide +kernel
theorem dX5_letOver_11 : decode cX5_letOver 11 = .ok (.astore_n 3, 1) := by decide +kernel
theorem dX5_letOver_12 : decode cX5_letOver 12 = .ok (.iload_n 2, 1) := by decide +kernel
theorem dX5_letOver_13 : decode cX5_letOver 13 = .ok (.ifCond .eq 13, 3) := by decide +kernel
theorem dX5_letOver_16 : decode cX5_letOver 16 = .ok (.aload_n 1, 1) := by decide +kernel
theorem dX5_letOver_17 : decode cX5_letOver 17 = .ok (.dup, 1) := by decide +kernel
theorem dX5_letOver_18 : decode cX5_letOver 18 = .ok (.getfield 160, 3) := by decide +kernel
theorem dX5_letOver_21 : decode cX5_letOver 21 = .ok (.iconst 1, 1) := by decide +kernel
theorem dX5_letOver_22 : decode cX5_letOver 22 = .ok (.iadd, 1) := by decide +kernel
theorem dX5_letOver_23 : decode cX5_letOver 23 = .ok (.putfield 160, 3) := by decide +kernel
theorem dX5_letOver_26 : decode cX5_letOver 26 = .ok (.aload_n 3, 1) := by decide +kernel
theorem dX5_letOver_27 : decode cX5_letOver 27 = .ok (.ifnonnull 5, 3) := by decide +kernel
theorem dX5_letOver_30 : decode cX5_letOver 30 = .ok (.iconst 0, 1) := by decide +kernel
theorem dX5_letOver_31 : decode cX5_letOver 31 = .ok (.ireturn, 1) := by decide +kernel
theorem dX5_letOver_32 : decode cX5_letOver 32 = .ok (.iload_n 2, 1) := by decide +kernel
theorem dX5_letOver_33 : decode cX5_letOver 33 = .ok (.ifCond .ne 11, 3) := by decide +kernel
theorem dX5_letOver_36 : decode cX5_letOver 36 = .ok (.aload_n 1, 1) := by decide +kernel
theorem dX5_letOver_37 : decode cX5_letOver 37 = .ok (.getfield 124, 3) := by decide +kernel
theorem dX5_letOver_40 : decode cX5_letOver 40 = .ok (.iconst 1, 1) := by decide +kernel
theorem dX5_letOver_41 : decode cX5_letOver 41 = .ok (.if_icmp .ne 21, 3) := by decide +kernel
theorem dX5_letOver_44 : decode cX5_letOver 44 = .ok (.aload_n 3, 1) := by decide +kernel
theorem dX5_letOver_45 : decode cX5_letOver 45 = .ok (.aload_n 0, 1) := by decide +kernel
theorem dX5_letOver_46 : decode cX5_letOver 46 = .ok (.getfield 9, 3) := by decide +kernel
theorem dX5_letOver_49 : decode cX5_letOver 49 = .ok (.iconst 0, 1) := by decide +kernel
theorem dX5_letOver_50 : decode cX5_letOver 50 = .ok (.iaload, 1) := by decide +kernel
theorem dX5_letOver_51 : decode cX5_letOver 51 = .ok (.aload_n 3, 1) := by decide +kernel
theorem dX5_letOver_52 : decode cX5_letOver 52 = .ok (.getfield 98, 3) := by decide +kernel
theorem dX5_letOver_55 : decode cX5_letOver 55 = .ok (.invokestatic 163, 3) := by decide +kernel
theorem dX5_letOver_58 : decode cX5_letOver 58 = .ok (.aload_n 1, 1) := by decide +kernel
theorem dX5_letOver_59 : decode cX5_letOver 59 = .ok (.invokevirtual 135, 3) := by decide +kernel
theorem dX5_letOver_62 : decode cX5_letOver 62 = .ok (.aload_n 3, 1) := by decide +kernel
theorem dX5_letOver_63 : decode cX5_letOver 63 = .ok (.getfield 121, 3) := by decide +kernel
theorem dX5_letOver_66 : decode cX5_letOver 66 = .ok (.aload_n 1, 1) := by decide +kernel
theorem dX5_letOver_67 : decode cX5_letOver 67 = .ok (.getfield 169, 3) := by decide +kernel
theorem dX5_letOver_70 : decode cX5_letOver 70 = .ok (.if_icmp .ne 14, 3) := by decide +kernel
theorem dX5_letOver_73 : decode cX5_letOver 73 = .ok (.aload_n 3, 1) := by decide +kernel
theorem dX5_letOver_74 : decode cX5_letOver 74 = .ok (.aload_n 0, 1) := by decide +kernel
theorem dX5_letOver_75 : decode cX5_letOver 75 = .ok (.getfield 9, 3) := by decide +kernel
theorem dX5_letOver_78 : decode cX5_letOver 78 = .ok (.iconst 2, 1) := by decide +kernel
theorem dX5_letOver_79 : decode cX5_letOver 79 = .ok (.iaload, 1) := by decide +kernel
theorem dX5_letOver_80 : decode cX5_letOver 80 = .ok (.aload_n 1, 1) := by decide +kernel
theorem dX5_letOver_81 : decode cX5_letOver 81 = .ok (.invokevirtual 172, 3) := by decide +kernel
theorem dX5_letOver_84 : decode cX5_letOver 84 = .ok (.aload_n 0, 1) := by decide +kernel
theorem dX5_letOver_85 : decode cX5_letOver 85 = .ok (.aload_n 3, 1) := by decide +kernel
theorem dX5_letOver_86 : decode cX5_letOver 86 = .ok (.aload_n 1, 1) := by decide +kernel
theorem dX5_letOver_87 : decode cX5_letOver 87 = .ok (.invokevirtual 127, 3) := by decide +kernel
theorem dX5_letOver_90 : decode cX5_letOver 90 = .ok (.aload_n 3, 1) := by decide +kernel
theorem dX5_letOver_91 : decode cX5_letOver 91 = .ok (.aload_n 1, 1) := by decide +kernel
theorem dX5_letOver_92 : decode cX5_letOver 92 = .ok (.aload_n 3, 1) := by decide +kernel
theorem dX5_letOver_93 : decode cX5_letOver 93 = .ok (.getfield 97, 3) := by decide +kernel
theorem dX5_letOver_96 : decode cX5_letOver 96 = .ok (.invokevirtual 175, 3) := by decide +kernel
theorem dX5_letOver_99 : decode cX5_letOver 99 = .ok (.putfield 97, 3) := by decide +kernel
theorem dX5_letOver_102 : decode cX5_letOver 102 = .ok (.aload_n 3, 1) := by decide +kernel
theorem dX5_letOver_103 : decode cX5_letOver 103 = .ok (.dup, 1) := by decide +kernel
theorem dX5_letOver_104 : decode cX5_letOver 104 = .ok (.getfield 179, 3) := by decide +kernel
theorem dX5_letOver_107 : decode cX5_letOver 107 = .ok (.iconst 1, 1) := by decide +kernel
theorem dX5_letOver_108 : decode cX5_letOver 108 = .ok (.iadd, 1) := by decide +kernel
theorem dX5_letOver_109 : decode cX5_letOver 109 = .ok (.putfield 179, 3) := by decide +kernel
theorem dX5_letOver_112 : decode cX5_letOver 112 = .ok (.aload_n 1, 1) := by decide +kernel
theorem dX5_letOver_113 : decode cX5_letOver 113 = .ok (.dup, 1) := by decide +kernel
theorem dX5_letOver_114 : decode cX5_letOver 114 = .ok (.getfield 182, 3) := by decide +kernel
theorem dX5_letOver_117 : decode cX5_letOver 117 = .ok (.iconst 1, 1) := by decide +kernel
theorem dX5_letOver_118 : decode cX5_letOver 118 = .ok (.iadd, 1) := by decide +kernel
theorem dX5_letOver_119 : decode cX5_letOver 119 = .ok (.putfield 182, 3) := by decide +kernel
theorem dX5_letOver_122 : decode cX5_letOver 122 = .ok (.aload_n 0, 1) := by decide +kernel
theorem dX5_letOver_123 : decode cX5_letOver 123 = .ok (.aload_n 1, 1) := by decide +kernel
theorem dX5_letOver_124 : decode cX5_letOver 124 = .ok (.invokevirtual 91, 3) := by decide +kernel
theorem dX5_letOver_127 : decode cX5_letOver 127 = .ok (.iconst 1, 1) := by decide +kernel
theorem dX5_letOver_128 : decode cX5_letOver 128 = .ok (.ireturn, 1) := by decide +kernel
theorem dX5_comerOver_0 : decode cX5_comerOver 0 = .ok (.aload_n 0, 1) := by decide +kernel
theorem dX5_comerOver_1 : decode cX5_comerOver 1 = .ok (.aload_n 1, 1) := by decide +kernel
theorem dX5_comerOver_2 : decode cX5_comerOver 2 = .ok (.iconst 0, 1) := by decide +kernel
theorem dX5_comerOver_3 : decode cX5_comerOver 3 = .ok (.invokevirtual 183, 3) := by decide +kernel
theorem dX5_comerOver_6 : decode cX5_comerOver 6 = .ok (.astore_n 2, 1) := by decide +kernel
theorem dX5_comerOver_7 : decode cX5_comerOver 7 = .ok (.aload_n 0, 1) := by decide +kernel
theorem dX5_comerOver_8 : decode cX5_comerOver 8 = .ok (.aload_n 1, 1) := by decide +kernel
theorem dX5_comerOver_9 : decode cX5_comerOver 9 = .ok (.iconst 1, 1) := by decide +kernel
theorem dX5_comerOver_10 : decode cX5_comerOver 10 = .ok (.invokevirtual 183, 3) := by decide +kernel
theorem dX5_comerOver_13 : decode cX5_comerOver 13 = .ok (.astore_n 3, 1) := by decide +kernel
theorem dX5_comerOver_14 : decode cX5_comerOver 14 = .ok (.aload_n 2, 1) := by decide +kernel
theorem dX5_comerOver_15 : decode cX5_comerOver 15 = .ok (.ifnonnull 5, 3) := by decide +kernel
theorem dX5_comerOver_18 : decode cX5_comerOver 18 = .ok (.aconst_null, 1) := by decide +kernel
theorem dX5_comerOver_19 : decode cX5_comerOver 19 = .ok (.areturn, 1) := by decide +kernel
theorem dX5_comerOver_20 : decode cX5_comerOver 20 = .ok (.aload_n 3, 1) := by decide +kernel
theorem dX5_comerOver_21 : decode cX5_comerOver 21 = .ok (.ifnonnull 22, 3) := by decide +kernel
theorem dX5_comerOver_24 : decode cX5_comerOver 24 = .ok (.aload_n 2, 1) := by decide +kernel
theorem dX5_comerOver_25 : decode cX5_comerOver 25 = .ok (.getfield 149, 3) := by decide +kernel
theorem dX5_comerOver_28 : decode cX5_comerOver 28 = .ok (.aload_n 0, 1) := by decide +kernel
theorem dX5_comerOver_29 : decode cX5_comerOver 29 = .ok (.getfield 9, 3) := by decide +kernel
theorem dX5_comerOver_32 : decode cX5_comerOver 32 = .ok (.iconst 3, 1) := by decide +kernel
theorem dX5_comerOver_33 : decode cX5_comerOver 33 = .ok (.iaload, 1) := by decide +kernel
theorem dX5_comerOver_34 : decode cX5_comerOver 34 = .ok (.if_icmp .lt 7, 3) := by decide +kernel
theorem dX5_comerOver_37 : decode cX5_comerOver 37 = .ok (.aload_n 2, 1) := by decide +kernel
theorem dX5_comerOver_38 : decode cX5_comerOver 38 = .ok (.goto 4, 3) := by decide +kernel
theorem dX5_comerOver_41 : decode cX5_comerOver 41 = .ok (.aconst_null, 1) := by decide +kernel
theorem dX5_comerOver_42 : decode cX5_comerOver 42 = .ok (.areturn, 1) := by decide +kernel
theorem dX5_comerOver_43 : decode cX5_comerOver 43 = .ok (.aload_n 1, 1) := by decide +kernel
theorem dX5_comerOver_44 : decode cX5_comerOver 44 = .ok (.aload_n 3, 1) := by decide +kernel
theorem dX5_comerOver_45 : decode cX5_comerOver 45 = .ok (.getfield 121, 3) := by decide +kernel
theorem dX5_comerOver_48 : decode cX5_comerOver 48 = .ok (.invokevirtual 187, 3) := by decide +kernel
theorem dX5_comerOver_51 : decode cX5_comerOver 51 = .ok (.aload_n 1, 1) := by decide +kernel
theorem dX5_comerOver_52 : decode cX5_comerOver 52 = .ok (.aload_n 2, 1) := by decide +kernel
theorem dX5_comerOver_53 : decode cX5_comerOver 53 = .ok (.getfield 121, 3) := by decide +kernel
theorem dX5_comerOver_56 : decode cX5_comerOver 56 = .ok (.invokevirtual 187, 3) := by decide +kernel
theorem dX5_comerOver_59 : decode cX5_comerOver 59 = .ok (.isub, 1) := by decide +kernel
theorem dX5_comerOver_60 : decode cX5_comerOver 60 = .ok (.istore 4, 2) := by decide +kernel
theorem dX5_comerOver_62 : decode cX5_comerOver 62 = .ok (.iload 4, 2) := by decide +kernel
theorem dX5_comerOver_64 : decode cX5_comerOver 64 = .ok (.ifCond .ne 10, 3) := by decide +kernel
theorem dX5_comerOver_67 : decode cX5_comerOver 67 = .ok (.aload_n 0, 1) := by decide +kernel
theorem dX5_comerOver_68 : decode cX5_comerOver 68 = .ok (.aload_n 2, 1) := by decide +kernel
theorem dX5_comerOver_69 : decode cX5_comerOver 69 = .ok (.aload_n 3, 1) := by decide +kernel
theorem dX5_comerOver_70 : decode cX5_comerOver 70 = .ok (.invokevirtual 190, 3) := by decide +kernel
theorem dX5_comerOver_73 : decode cX5_comerOver 73 = .ok (.areturn, 1) := by decide +kernel
theorem dX5_comerOver_74 : decode cX5_comerOver 74 = .ok (.iload 4, 2) := by decide +kernel
theorem dX5_comerOver_76 : decode cX5_comerOver 76 = .ok (.ifCond .le 7, 3) := by decide +kernel
theorem dX5_comerOver_79 : decode cX5_comerOver 79 = .ok (.aload_n 2, 1) := by decide +kernel
theorem dX5_comerOver_80 : decode cX5_comerOver 80 = .ok (.goto 4, 3) := by decide +kernel
theorem dX5_comerOver_83 : decode cX5_comerOver 83 = .ok (.aload_n 3, 1) := by decide +kernel
theorem dX5_comerOver_84 : decode cX5_comerOver 84 = .ok (.areturn, 1) := by decide +kernel
theorem dX5_isTied_0 : decode cX5_isTied 0 = .ok (.aload_n 0, 1) := by decide +kernel
theorem dX5_isTied_1 : decode cX5_isTied 1 = .ok (.aload_n 1, 1) := by decide +kernel
theorem dX5_isTied_2 : decode cX5_isTied 2 = .ok (.iconst 0, 1) := by decide +kernel
theorem dX5_isTied_3 : decode cX5_isTied 3 = .ok (.invokevirtual 183, 3) := by decide +kernel
theorem dX5_isTied_6 : decode cX5_isTied 6 = .ok (.astore_n 2, 1) := by decide +kernel
theorem dX5_isTied_7 : decode cX5_isTied 7 = .ok (.aload_n 0, 1) := by decide +kernel
theorem dX5_isTied_8 : decode cX5_isTied 8 = .ok (.aload_n 1, 1) := by decide +kernel
theorem dX5_isTied_9 : decode cX5_isTied 9 = .ok (.iconst 1, 1) := by decide +kernel
theorem dX5_isTied_10 : decode cX5_isTied 10 = .ok (.invokevirtual 183, 3) := by decide +kernel
theorem dX5_isTied_13 : decode cX5_isTied 13 = .ok (.astore_n 3, 1) := by decide +kernel
theorem dX5_isTied_14 : decode cX5_isTied 14 = .ok (.aload_n 2, 1) := by decide +kernel
theorem dX5_isTied_15 : decode cX5_isTied 15 = .ok (.ifnull 30, 3) := by decide +kernel
theorem dX5_isTied_18 : decode cX5_isTied 18 = .ok (.aload_n 3, 1) := by decide +kernel
theorem dX5_isTied_19 : decode cX5_isTied 19 = .ok (.ifnull 26, 3) := by decide +kernel
theorem dX5_isTied_22 : decode cX5_isTied 22 = .ok (.aload_n 1, 1) := by decide +kernel
theorem dX5_isTied_23 : decode cX5_isTied 23 = .ok (.aload_n 2, 1) := by decide +kernel
theorem dX5_isTied_24 : decode cX5_isTied 24 = .ok (.getfield 121, 3) := by decide +kernel
theorem dX5_isTied_27 : decode cX5_isTied 27 = .ok (.invokevirtual 187, 3) := by decide +kernel
theorem dX5_isTied_30 : decode cX5_isTied 30 = .ok (.aload_n 1, 1) := by decide +kernel
theorem dX5_isTied_31 : decode cX5_isTied 31 = .ok (.aload_n 3, 1) := by decide +kernel
theorem dX5_isTied_32 : decode cX5_isTied 32 = .ok (.getfield 121, 3) := by decide +kernel
theorem dX5_isTied_35 : decode cX5_isTied 35 = .ok (.invokevirtual 187, 3) := by decide +kernel
theorem dX5_isTied_38 : decode cX5_isTied 38 = .ok (.if_icmp .ne 7, 3) := by decide +kernel
theorem dX5_isTied_41 : decode cX5_isTied 41 = .ok (.iconst 1, 1) := by decide +kernel
theorem dX5_isTied_42 : decode cX5_isTied 42 = .ok (.goto 4, 3) := by decide +kernel
theorem dX5_isTied_45 : decode cX5_isTied 45 = .ok (.iconst 0, 1) := by decide +kernel
theorem dX5_isTied_46 : decode cX5_isTied 46 = .ok (.ireturn, 1) := by decide +kernel
theorem dX5_payerOfTie_0 : decode cX5_payerOfTie 0 = .ok (.aload_n 1, 1) := by decide +kernel
theorem dX5_payerOfTie_1 : decode cX5_payerOfTie 1 = .ok (.getfield 101, 3) := by decide +kernel
theorem dX5_payerOfTie_4 : decode cX5_payerOfTie 4 = .ok (.aload_n 2, 1) := by decide +kernel
theorem dX5_payerOfTie_5 : decode cX5_payerOfTie 5 = .ok (.getfield 101, 3) := by decide +kernel
theorem dX5_payerOfTie_8 : decode cX5_payerOfTie 8 = .ok (.if_icmp .ge 7, 3) := by decide +kernel
theorem dX5_payerOfTie_11 : decode cX5_payerOfTie 11 = .ok (.aload_n 1, 1) := by decide +kernel
theorem dX5_payerOfTie_12 : decode cX5_payerOfTie 12 = .ok (.goto 4, 3) := by decide +kernel
theorem dX5_payerOfTie_15 : decode cX5_payerOfTie 15 = .ok (.aload_n 2, 1) := by decide +kernel
theorem dX5_payerOfTie_16 : decode cX5_payerOfTie 16 = .ok (.astore_n 3, 1) := by decide +kernel
theorem dX5_payerOfTie_17 : decode cX5_payerOfTie 17 = .ok (.aload_n 1, 1) := by decide +kernel
theorem dX5_payerOfTie_18 : decode cX5_payerOfTie 18 = .ok (.getfield 101, 3) := by decide +kernel
theorem dX5_payerOfTie_21 : decode cX5_payerOfTie 21 = .ok (.aload_n 2, 1) := by decide +kernel
theorem dX5_payerOfTie_22 : decode cX5_payerOfTie 22 = .ok (.getfield 101, 3) := by decide +kernel
theorem dX5_payerOfTie_25 : decode cX5_payerOfTie 25 = .ok (.if_icmp .ge 7, 3) := by decide +kernel
theorem dX5_payerOfTie_28 : decode cX5_payerOfTie 28 = .ok (.aload_n 2, 1) := by decide +kernel
theorem dX5_payerOfTie_29 : decode cX5_payerOfTie 29 = .ok (.goto 4, 3) := by decide +kernel
theorem dX5_payerOfTie_32 : decode cX5_payerOfTie 32 = .ok (.aload_n 1, 1) := by decide +kernel
theorem dX5_payerOfTie_33 : decode cX5_payerOfTie 33 = .ok (.astore 4, 2) := by decide +kernel
theorem dX5_payerOfTie_35 : decode cX5_payerOfTie 35 = .ok (.aload_n 3, 1) := by decide +kernel
theorem dX5_payerOfTie_36 : decode cX5_payerOfTie 36 = .ok (.getfield 98, 3) := by decide +kernel
theorem dX5_payerOfTie_39 : decode cX5_payerOfTie 39 = .ok (.aload_n 0, 1) := by decide +kernel
theorem dX5_payerOfTie_40 : decode cX5_payerOfTie 40 = .ok (.getfield 9, 3) := by decide +kernel
theorem dX5_payerOfTie_43 : decode cX5_payerOfTie 43 = .ok (.iconst 0, 1) := by decide +kernel
theorem dX5_payerOfTie_44 : decode cX5_payerOfTie 44 = .ok (.iaload, 1) := by decide +kernel
theorem dX5_payerOfTie_45 : decode cX5_payerOfTie 45 = .ok (.if_icmp .lt 5, 3) := by decide +kernel
theorem dX5_payerOfTie_48 : decode cX5_payerOfTie 48 = .ok (.aload_n 3, 1) := by decide +kernel
theorem dX5_payerOfTie_49 : decode cX5_payerOfTie 49 = .ok (.areturn, 1) := by decide +kernel
theorem dX5_payerOfTie_50 : decode cX5_payerOfTie 50 = .ok (.aload 4, 2) := by decide +kernel
theorem dX5_payerOfTie_52 : decode cX5_payerOfTie 52 = .ok (.getfield 98, 3) := by decide +kernel
theorem dX5_payerOfTie_55 : decode cX5_payerOfTie 55 = .ok (.aload_n 0, 1) := by decide +kernel
theorem dX5_payerOfTie_56 : decode cX5_payerOfTie 56 = .ok (.getfield 9, 3) := by decide +kernel
theorem dX5_payerOfTie_59 : decode cX5_payerOfTie 59 = .ok (.iconst 0, 1) := by decide +kernel
theorem dX5_payerOfTie_60 : decode cX5_payerOfTie 60 = .ok (.iaload, 1) := by decide +kernel
theorem dX5_payerOfTie_61 : decode cX5_payerOfTie 61 = .ok (.if_icmp .lt 8, 3) := by decide +kernel
theorem dX5_payerOfTie_64 : decode cX5_payerOfTie 64 = .ok (.aload 4, 2) := by decide +kernel
theorem dX5_payerOfTie_66 : decode cX5_payerOfTie 66 = .ok (.goto 4, 3) := by decide +kernel
theorem dX5_payerOfTie_69 : decode cX5_payerOfTie 69 = .ok (.aconst_null, 1) := by decide +kernel
theorem dX5_payerOfTie_70 : decode cX5_payerOfTie 70 = .ok (.areturn, 1) := by decide +kernel
theorem dX5_release_0 : decode cX5_release 0 = .ok (.iconst 0, 1) := by decide +kernel
theorem dX5_release_1 : decode cX5_release 1 = .ok (.istore_n 3, 1) := by decide +kernel
theorem dX5_release_2 : decode cX5_release 2 = .ok (.iconst 0, 1) := by decide +kernel
theorem dX5_release_3 : decode cX5_release 3 = .ok (.istore 4, 2) := by decide +kernel
theorem dX5_release_5 : decode cX5_release 5 = .ok (.iload 4, 2) := by decide +kernel
theorem dX5_release_7 : decode cX5_release 7 = .ok (.aload_n 0, 1) := by decide +kernel
theorem dX5_release_8 : decode cX5_release 8 = .ok (.getfield 54, 3) := by decide +kernel
theorem dX5_release_11 : decode cX5_release 11 = .ok (.if_icmp .ge 39, 3) := by decide +kernel
theorem dX5_release_14 : decode cX5_release 14 = .ok (.aload_n 0, 1) := by decide +kernel
theorem dX5_release_15 : decode cX5_release 15 = .ok (.getfield 27, 3) := by decide +kernel
theorem dX5_release_18 : decode cX5_release 18 = .ok (.iload 4, 2) := by decide +kernel
theorem dX5_release_20 : decode cX5_release 20 = .ok (.iaload, 1) := by decide +kernel
theorem dX5_release_21 : decode cX5_release 21 = .ok (.aload_n 1, 1) := by decide +kernel
theorem dX5_release_22 : decode cX5_release 22 = .ok (.getfield 101, 3) := by decide +kernel
theorem dX5_release_25 : decode cX5_release 25 = .ok (.if_icmp .eq 19, 3) := by decide +kernel
theorem dX5_release_28 : decode cX5_release 28 = .ok (.aload_n 0, 1) := by decide +kernel
theorem dX5_release_29 : decode cX5_release 29 = .ok (.getfield 27, 3) := by decide +kernel
theorem dX5_release_32 : decode cX5_release 32 = .ok (.iload_n 3, 1) := by decide +kernel
theorem dX5_release_33 : decode cX5_release 33 = .ok (.aload_n 0, 1) := by decide +kernel
theorem dX5_release_34 : decode cX5_release 34 = .ok (.getfield 27, 3) := by decide +kernel
theorem dX5_release_37 : decode cX5_release 37 = .ok (.iload 4, 2) := by decide +kernel
theorem dX5_release_39 : decode cX5_release 39 = .ok (.iaload, 1) := by decide +kernel
theorem dX5_release_40 : decode cX5_release 40 = .ok (.iastore, 1) := by decide +kernel
theorem dX5_release_41 : decode cX5_release 41 = .ok (.iinc 3 1, 3) := by decide +kernel
theorem dX5_release_44 : decode cX5_release 44 = .ok (.iinc 4 1, 3) := by decide +kernel
theorem dX5_release_47 : decode cX5_release 47 = .ok (.goto (-42), 3) := by decide +kernel
theorem dX5_release_50 : decode cX5_release 50 = .ok (.aload_n 0, 1) := by decide +kernel
theorem dX5_release_51 : decode cX5_release 51 = .ok (.iload_n 3, 1) := by decide +kernel
theorem dX5_release_52 : decode cX5_release 52 = .ok (.putfield 54, 3) := by decide +kernel
theorem dX5_release_55 : decode cX5_release 55 = .ok (.aload_n 1, 1) := by decide +kernel
theorem dX5_release_56 : decode cX5_release 56 = .ok (.bipush (-6), 2) := by decide +kernel
theorem dX5_release_58 : decode cX5_release 58 = .ok (.putfield 118, 3) := by decide +kernel
theorem dX5_release_61 : decode cX5_release 61 = .ok (.aload_n 1, 1) := by decide +kernel
theorem dX5_release_62 : decode cX5_release 62 = .ok (.bipush (-6), 2) := by decide +kernel
theorem dX5_release_64 : decode cX5_release 64 = .ok (.putfield 121, 3) := by decide +kernel
theorem dX5_release_67 : decode cX5_release 67 = .ok (.aload_n 1, 1) := by decide +kernel
theorem dX5_release_68 : decode cX5_release 68 = .ok (.iconst 0, 1) := by decide +kernel
theorem dX5_release_69 : decode cX5_release 69 = .ok (.putfield 149, 3) := by decide +kernel
theorem dX5_release_72 : decode cX5_release 72 = .ok (.aload_n 2, 1) := by decide +kernel
theorem dX5_release_73 : decode cX5_release 73 = .ok (.dup, 1) := by decide +kernel
theorem dX5_release_74 : decode cX5_release 74 = .ok (.getfield 124, 3) := by decide +kernel
theorem dX5_release_77 : decode cX5_release 77 = .ok (.iconst 1, 1) := by decide +kernel
theorem dX5_release_78 : decode cX5_release 78 = .ok (.isub, 1) := by decide +kernel
theorem dX5_release_79 : decode cX5_release 79 = .ok (.putfield 124, 3) := by decide +kernel
theorem dX5_release_82 : decode cX5_release 82 = .ok (.return_, 1) := by decide +kernel
theorem dX5_drawRiddle_0 : decode cX5_drawRiddle 0 = .ok (.aload_n 0, 1) := by decide +kernel
theorem dX5_drawRiddle_1 : decode cX5_drawRiddle 1 = .ok (.bipush 75, 2) := by decide +kernel
theorem dX5_drawRiddle_3 : decode cX5_drawRiddle 3 = .ok (.aload_n 0, 1) := by decide +kernel
theorem dX5_drawRiddle_4 : decode cX5_drawRiddle 4 = .ok (.getfield 30, 3) := by decide +kernel
theorem dX5_drawRiddle_7 : decode cX5_drawRiddle 7 = .ok (.imul, 1) := by decide +kernel
theorem dX5_drawRiddle_8 : decode cX5_drawRiddle 8 = .ok (.bipush 74, 2) := by decide +kernel
theorem dX5_drawRiddle_10 : decode cX5_drawRiddle 10 = .ok (.iadd, 1) := by decide +kernel
theorem dX5_drawRiddle_11 : decode cX5_drawRiddle 11 = .ok (.ldc 194, 2) := by decide +kernel
theorem dX5_drawRiddle_13 : decode cX5_drawRiddle 13 = .ok (.irem, 1) := by decide +kernel
theorem dX5_drawRiddle_14 : decode cX5_drawRiddle 14 = .ok (.putfield 30, 3) := by decide +kernel
theorem dX5_drawRiddle_17 : decode cX5_drawRiddle 17 = .ok (.aload_n 1, 1) := by decide +kernel
theorem dX5_drawRiddle_18 : decode cX5_drawRiddle 18 = .ok (.aload_n 0, 1) := by decide +kernel
theorem dX5_drawRiddle_19 : decode cX5_drawRiddle 19 = .ok (.getfield 30, 3) := by decide +kernel
theorem dX5_drawRiddle_22 : decode cX5_drawRiddle 22 = .ok (.iconst 2, 1) := by decide +kernel
theorem dX5_drawRiddle_23 : decode cX5_drawRiddle 23 = .ok (.idiv, 1) := by decide +kernel
theorem dX5_drawRiddle_24 : decode cX5_drawRiddle 24 = .ok (.invokevirtual 195, 3) := by decide +kernel
theorem dX5_drawRiddle_27 : decode cX5_drawRiddle 27 = .ok (.iconst 0, 1) := by decide +kernel
theorem dX5_drawRiddle_28 : decode cX5_drawRiddle 28 = .ok (.istore_n 2, 1) := by decide +kernel
theorem dX5_drawRiddle_29 : decode cX5_drawRiddle 29 = .ok (.iload_n 2, 1) := by decide +kernel
theorem dX5_drawRiddle_30 : decode cX5_drawRiddle 30 = .ok (.bipush 8, 2) := by decide +kernel
theorem dX5_drawRiddle_32 : decode cX5_drawRiddle 32 = .ok (.if_icmp .ge 19, 3) := by decide +kernel
theorem dX5_drawRiddle_35 : decode cX5_drawRiddle 35 = .ok (.aload_n 0, 1) := by decide +kernel
theorem dX5_drawRiddle_36 : decode cX5_drawRiddle 36 = .ok (.getfield 23, 3) := by decide +kernel
theorem dX5_drawRiddle_39 : decode cX5_drawRiddle 39 = .ok (.iload_n 2, 1) := by decide +kernel
theorem dX5_drawRiddle_40 : decode cX5_drawRiddle 40 = .ok (.aaload, 1) := by decide +kernel
theorem dX5_drawRiddle_41 : decode cX5_drawRiddle 41 = .ok (.aload_n 1, 1) := by decide +kernel
theorem dX5_drawRiddle_42 : decode cX5_drawRiddle 42 = .ok (.invokevirtual 198, 3) := by decide +kernel
theorem dX5_drawRiddle_45 : decode cX5_drawRiddle 45 = .ok (.iinc 2 1, 3) := by decide +kernel
theorem dX5_drawRiddle_48 : decode cX5_drawRiddle 48 = .ok (.goto (-19), 3) := by decide +kernel
theorem dX5_drawRiddle_51 : decode cX5_drawRiddle 51 = .ok (.return_, 1) := by decide +kernel
theorem dX5_waiterAt_0 : decode cX5_waiterAt 0 = .ok (.iconst 0, 1) := by decide +kernel
theorem dX5_waiterAt_1 : decode cX5_waiterAt 1 = .ok (.istore_n 3, 1) := by decide +kernel
theorem dX5_waiterAt_2 : decode cX5_waiterAt 2 = .ok (.iconst 0, 1) := by decide +kernel
theorem dX5_waiterAt_3 : decode cX5_waiterAt 3 = .ok (.istore 4, 2) := by decide +kernel
theorem dX5_waiterAt_5 : decode cX5_waiterAt 5 = .ok (.iload 4, 2) := by decide +kernel
theorem dX5_waiterAt_7 : decode cX5_waiterAt 7 = .ok (.aload_n 0, 1) := by decide +kernel
theorem dX5_waiterAt_8 : decode cX5_waiterAt 8 = .ok (.getfield 54, 3) := by decide +kernel
theorem dX5_waiterAt_11 : decode cX5_waiterAt 11 = .ok (.if_icmp .ge 63, 3) := by decide +kernel
theorem dX5_waiterAt_14 : decode cX5_waiterAt 14 = .ok (.aload_n 0, 1) := by decide +kernel
theorem dX5_waiterAt_15 : decode cX5_waiterAt 15 = .ok (.getfield 27, 3) := by decide +kernel
theorem dX5_waiterAt_18 : decode cX5_waiterAt 18 = .ok (.iload 4, 2) := by decide +kernel
theorem dX5_waiterAt_20 : decode cX5_waiterAt 20 = .ok (.iaload, 1) := by decide +kernel
theorem dX5_waiterAt_21 : decode cX5_waiterAt 21 = .ok (.istore 5, 2) := by decide +kernel
theorem dX5_waiterAt_23 : decode cX5_waiterAt 23 = .ok (.iload 5, 2) := by decide +kernel
theorem dX5_waiterAt_25 : decode cX5_waiterAt 25 = .ok (.aload_n 0, 1) := by decide +kernel
theorem dX5_waiterAt_26 : decode cX5_waiterAt 26 = .ok (.getfield 60, 3) := by decide +kernel
theorem dX5_waiterAt_29 : decode cX5_waiterAt 29 = .ok (.invokestatic 72, 3) := by decide +kernel
theorem dX5_waiterAt_32 : decode cX5_waiterAt 32 = .ok (.ifCond .eq 36, 3) := by decide +kernel
theorem dX5_waiterAt_35 : decode cX5_waiterAt 35 = .ok (.aload_n 0, 1) := by decide +kernel
theorem dX5_waiterAt_36 : decode cX5_waiterAt 36 = .ok (.getfield 23, 3) := by decide +kernel
theorem dX5_waiterAt_39 : decode cX5_waiterAt 39 = .ok (.iload 5, 2) := by decide +kernel
theorem dX5_waiterAt_41 : decode cX5_waiterAt 41 = .ok (.aaload, 1) := by decide +kernel
theorem dX5_waiterAt_42 : decode cX5_waiterAt 42 = .ok (.getfield 118, 3) := by decide +kernel
theorem dX5_waiterAt_45 : decode cX5_waiterAt 45 = .ok (.aload_n 1, 1) := by decide +kernel
theorem dX5_waiterAt_46 : decode cX5_waiterAt 46 = .ok (.getfield 94, 3) := by decide +kernel
theorem dX5_waiterAt_49 : decode cX5_waiterAt 49 = .ok (.if_icmp .ne 19, 3) := by decide +kernel
theorem dX5_waiterAt_52 : decode cX5_waiterAt 52 = .ok (.iload_n 3, 1) := by decide +kernel
theorem dX5_waiterAt_53 : decode cX5_waiterAt 53 = .ok (.iload_n 2, 1) := by decide +kernel
theorem dX5_waiterAt_54 : decode cX5_waiterAt 54 = .ok (.if_icmp .ne 11, 3) := by decide +kernel
theorem dX5_waiterAt_57 : decode cX5_waiterAt 57 = .ok (.aload_n 0, 1) := by decide +kernel
theorem dX5_waiterAt_58 : decode cX5_waiterAt 58 = .ok (.getfield 23, 3) := by decide +kernel
theorem dX5_waiterAt_61 : decode cX5_waiterAt 61 = .ok (.iload 5, 2) := by decide +kernel
theorem dX5_waiterAt_63 : decode cX5_waiterAt 63 = .ok (.aaload, 1) := by decide +kernel
theorem dX5_waiterAt_64 : decode cX5_waiterAt 64 = .ok (.areturn, 1) := by decide +kernel
theorem dX5_waiterAt_65 : decode cX5_waiterAt 65 = .ok (.iinc 3 1, 3) := by decide +kernel
theorem dX5_waiterAt_68 : decode cX5_waiterAt 68 = .ok (.iinc 4 1, 3) := by decide +kernel
theorem dX5_waiterAt_71 : decode cX5_waiterAt 71 = .ok (.goto (-66), 3) := by decide +kernel
theorem dX5_waiterAt_74 : decode cX5_waiterAt 74 = .ok (.aconst_null, 1) := by decide +kernel
theorem dX5_waiterAt_75 : decode cX5_waiterAt 75 = .ok (.areturn, 1) := by decide +kernel
theorem dX5_reasonToStay_0 : decode cX5_reasonToStay 0 = .ok (.aload_n 0, 1) := by decide +kernel
theorem dX5_reasonToStay_1 : decode cX5_reasonToStay 1 = .ok (.aload_n 1, 1) := by decide +kernel
theorem dX5_reasonToStay_2 : decode cX5_reasonToStay 2 = .ok (.getfield 118, 3) := by decide +kernel
theorem dX5_reasonToStay_5 : decode cX5_reasonToStay 5 = .ok (.invokevirtual 106, 3) := by decide +kernel
theorem dX5_reasonToStay_8 : decode cX5_reasonToStay 8 = .ok (.astore_n 2, 1) := by decide +kernel
theorem dX5_reasonToStay_9 : decode cX5_reasonToStay 9 = .ok (.aload_n 2, 1) := by decide +kernel
theorem dX5_reasonToStay_10 : decode cX5_reasonToStay 10 = .ok (.ifnonnull 5, 3) := by decide +kernel
theorem dX5_reasonToStay_13 : decode cX5_reasonToStay 13 = .ok (.iconst 1, 1) := by decide +kernel
theorem dX5_reasonToStay_14 : decode cX5_reasonToStay 14 = .ok (.ireturn, 1) := by decide +kernel
theorem dX5_reasonToStay_15 : decode cX5_reasonToStay 15 = .ok (.aload_n 0, 1) := by decide +kernel
theorem dX5_reasonToStay_16 : decode cX5_reasonToStay 16 = .ok (.aload_n 2, 1) := by decide +kernel
theorem dX5_reasonToStay_17 : decode cX5_reasonToStay 17 = .ok (.invokevirtual 156, 3) := by decide +kernel
theorem dX5_reasonToStay_20 : decode cX5_reasonToStay 20 = .ok (.astore_n 3, 1) := by decide +kernel
theorem dX5_reasonToStay_21 : decode cX5_reasonToStay 21 = .ok (.aload_n 3, 1) := by decide +kernel
theorem dX5_reasonToStay_22 : decode cX5_reasonToStay 22 = .ok (.aload_n 1, 1) := by decide +kernel
theorem dX5_reasonToStay_23 : decode cX5_reasonToStay 23 = .ok (.if_acmp .ne 5, 3) := by decide +kernel
theorem dX5_reasonToStay_26 : decode cX5_reasonToStay 26 = .ok (.iconst 0, 1) := by decide +kernel
theorem dX5_reasonToStay_27 : decode cX5_reasonToStay 27 = .ok (.ireturn, 1) := by decide +kernel
theorem dX5_reasonToStay_28 : decode cX5_reasonToStay 28 = .ok (.aload_n 2, 1) := by decide +kernel
theorem dX5_reasonToStay_29 : decode cX5_reasonToStay 29 = .ok (.getfield 124, 3) := by decide +kernel
theorem dX5_reasonToStay_32 : decode cX5_reasonToStay 32 = .ok (.iconst 1, 1) := by decide +kernel
theorem dX5_reasonToStay_33 : decode cX5_reasonToStay 33 = .ok (.if_icmp .ne 5, 3) := by decide +kernel
theorem dX5_reasonToStay_36 : decode cX5_reasonToStay 36 = .ok (.iconst 2, 1) := by decide +kernel
theorem dX5_reasonToStay_37 : decode cX5_reasonToStay 37 = .ok (.ireturn, 1) := by decide +kernel
theorem dX5_reasonToStay_38 : decode cX5_reasonToStay 38 = .ok (.aload_n 0, 1) := by decide +kernel
theorem dX5_reasonToStay_39 : decode cX5_reasonToStay 39 = .ok (.aload_n 2, 1) := by decide +kernel
theorem dX5_reasonToStay_40 : decode cX5_reasonToStay 40 = .ok (.iconst 0, 1) := by decide +kernel
theorem dX5_reasonToStay_41 : decode cX5_reasonToStay 41 = .ok (.invokevirtual 183, 3) := by decide +kernel
theorem dX5_reasonToStay_44 : decode cX5_reasonToStay 44 = .ok (.aload_n 1, 1) := by decide +kernel
theorem dX5_reasonToStay_45 : decode cX5_reasonToStay 45 = .ok (.if_acmp .eq 15, 3) := by decide +kernel
theorem dX5_reasonToStay_48 : decode cX5_reasonToStay 48 = .ok (.aload_n 0, 1) := by decide +kernel
theorem dX5_reasonToStay_49 : decode cX5_reasonToStay 49 = .ok (.aload_n 2, 1) := by decide +kernel
theorem dX5_reasonToStay_50 : decode cX5_reasonToStay 50 = .ok (.iconst 1, 1) := by decide +kernel
theorem dX5_reasonToStay_51 : decode cX5_reasonToStay 51 = .ok (.invokevirtual 183, 3) := by decide +kernel
theorem dX5_reasonToStay_54 : decode cX5_reasonToStay 54 = .ok (.aload_n 1, 1) := by decide +kernel
theorem dX5_reasonToStay_55 : decode cX5_reasonToStay 55 = .ok (.if_acmp .eq 5, 3) := by decide +kernel
theorem dX5_reasonToStay_58 : decode cX5_reasonToStay 58 = .ok (.iconst 3, 1) := by decide +kernel
theorem dX5_reasonToStay_59 : decode cX5_reasonToStay 59 = .ok (.ireturn, 1) := by decide +kernel
theorem dX5_reasonToStay_60 : decode cX5_reasonToStay 60 = .ok (.aload_n 0, 1) := by decide +kernel
theorem dX5_reasonToStay_61 : decode cX5_reasonToStay 61 = .ok (.aload_n 2, 1) := by decide +kernel
theorem dX5_reasonToStay_62 : decode cX5_reasonToStay 62 = .ok (.invokevirtual 152, 3) := by decide +kernel
theorem dX5_reasonToStay_65 : decode cX5_reasonToStay 65 = .ok (.ifCond .ne 5, 3) := by decide +kernel
theorem dX5_reasonToStay_68 : decode cX5_reasonToStay 68 = .ok (.iconst 4, 1) := by decide +kernel
theorem dX5_reasonToStay_69 : decode cX5_reasonToStay 69 = .ok (.ireturn, 1) := by decide +kernel
theorem dX5_reasonToStay_70 : decode cX5_reasonToStay 70 = .ok (.aload_n 3, 1) := by decide +kernel
theorem dX5_reasonToStay_71 : decode cX5_reasonToStay 71 = .ok (.ifnonnull 8, 3) := by decide +kernel
theorem dX5_reasonToStay_74 : decode cX5_reasonToStay 74 = .ok (.bipush 6, 2) := by decide +kernel
theorem dX5_reasonToStay_76 : decode cX5_reasonToStay 76 = .ok (.goto 4, 3) := by decide +kernel
theorem dX5_reasonToStay_79 : decode cX5_reasonToStay 79 = .ok (.iconst 5, 1) := by decide +kernel
theorem dX5_reasonToStay_80 : decode cX5_reasonToStay 80 = .ok (.ireturn, 1) := by decide +kernel
theorem dX5_total_0 : decode cX5_total 0 = .ok (.iload_n 1, 1) := by decide +kernel
theorem dX5_total_1 : decode cX5_total 1 = .ok (.tableswitch 100 0 8 #[51, 56, 61, 66, 71, 78, 84, 90, 95], 51) := by decide +kernel
theorem dX5_total_52 : decode cX5_total 52 = .ok (.aload_n 0, 1) := by decide +kernel
theorem dX5_total_53 : decode cX5_total 53 = .ok (.getfield 63, 3) := by decide +kernel
theorem dX5_total_56 : decode cX5_total 56 = .ok (.ireturn, 1) := by decide +kernel
theorem dX5_total_57 : decode cX5_total 57 = .ok (.aload_n 0, 1) := by decide +kernel
theorem dX5_total_58 : decode cX5_total 58 = .ok (.getfield 57, 3) := by decide +kernel
theorem dX5_total_61 : decode cX5_total 61 = .ok (.ireturn, 1) := by decide +kernel
theorem dX5_total_62 : decode cX5_total 62 = .ok (.aload_n 0, 1) := by decide +kernel
theorem dX5_total_63 : decode cX5_total 63 = .ok (.getfield 60, 3) := by decide +kernel
theorem dX5_total_66 : decode cX5_total 66 = .ok (.ireturn, 1) := by decide +kernel
theorem dX5_total_67 : decode cX5_total 67 = .ok (.aload_n 0, 1) := by decide +kernel
theorem dX5_total_68 : decode cX5_total 68 = .ok (.invokevirtual 201, 3) := by decide +kernel
theorem dX5_total_71 : decode cX5_total 71 = .ok (.ireturn, 1) := by decide +kernel
theorem dX5_total_72 : decode cX5_total 72 = .ok (.aload_n 0, 1) := by decide +kernel
theorem dX5_total_73 : decode cX5_total 73 = .ok (.bipush 6, 2) := by decide +kernel
theorem dX5_total_75 : decode cX5_total 75 = .ok (.invokevirtual 204, 3) := by decide +kernel
theorem dX5_total_78 : decode cX5_total 78 = .ok (.ireturn, 1) := by decide +kernel
theorem dX5_total_79 : decode cX5_total 79 = .ok (.aload_n 0, 1) := by decide +kernel
theorem dX5_total_80 : decode cX5_total 80 = .ok (.iconst 1, 1) := by decide +kernel
theorem dX5_total_81 : decode cX5_total 81 = .ok (.invokevirtual 207, 3) := by decide +kernel
theorem dX5_total_84 : decode cX5_total 84 = .ok (.ireturn, 1) := by decide +kernel
theorem dX5_total_85 : decode cX5_total 85 = .ok (.aload_n 0, 1) := by decide +kernel
theorem dX5_total_86 : decode cX5_total 86 = .ok (.iconst 5, 1) := by decide +kernel
theorem dX5_total_87 : decode cX5_total 87 = .ok (.invokevirtual 204, 3) := by decide +kernel
theorem dX5_total_90 : decode cX5_total 90 = .ok (.ireturn, 1) := by decide +kernel
theorem dX5_total_91 : decode cX5_total 91 = .ok (.aload_n 0, 1) := by decide +kernel
theorem dX5_total_92 : decode cX5_total 92 = .ok (.getfield 66, 3) := by decide +kernel
theorem dX5_total_95 : decode cX5_total 95 = .ok (.ireturn, 1) := by decide +kernel
theorem dX5_total_96 : decode cX5_total 96 = .ok (.aload_n 0, 1) := by decide +kernel
theorem dX5_total_97 : decode cX5_total 97 = .ok (.getfield 69, 3) := by decide +kernel
end
section
/-! THE STATE: one mathematical value for all ints that the system's cells hold, and the picture of it in the heap; all addresses are a base and an offset -/
def TW : List Cond := lw_tbl.filter goodWord
theorem tw {i : Nat} {w : Cond} (h : lw_tbl[i]? = some w) (g : goodWord w = true) : w ∈ TW := List.mem_filter.mpr ⟨List.mem_of_getElem? h, g⟩
theorem TW_in : ∀ w ∈ TW, w ∈ lw_tbl := fun _ h => (List.mem_filter.mp h).1
abbrev wsm (y : MethodName) (cb : ByteArray) (n : Nat) (r : Option FieldType) : List Cond := .code y cb n r :: TW
theorem good_TW {w : Cond} (h : w ∈ TW) : (w.onTables && w.keeps) = true ∨ ∃ ty, w = .arrayClass ty := good_of_word (List.mem_filter.mp h).2
theorem good_sub {y : MethodName} {cb : ByteArray} {n : Nat} {r : Option FieldType} (h : Cond.code y cb n r ∈ TW) : GoodIn TW (wsm y cb n r) := by
  intro w hw
  rcases List.mem_cons.mp hw with rfl | h1
  · exact ⟨h, good_TW h⟩
  · exact ⟨h1, good_TW h1⟩
theorem in_sub {w : Cond} {a : Cond} (h : w ∈ TW) : w ∈ a :: TW := List.mem_cons_of_mem _ h
abbrev EE : Type := va_G × (Nat → ClassId)
abbrev Row : Type := Nat → Int32
abbrev GS : Type := (Nat → Row) × Row × (Nat → Row) × Row
def tys (E : EE) : List (ClassId × FieldType) := [(E.2 0, .int), (E.2 1, .boolean), (E.2 2, .object RX0), (E.2 3, .object RX1), (E.2 4, .object RX5)]
/-- a world: n cells from B on, their contents by the function f -/
def wl (B n : Nat) (f : Nat → va_E) : va_W := (List.range n).map (fun o => (B + o, f o))
theorem wl_at {B n o : Nat} {f : Nat → va_E} (h : o < n) : (wl B n f)[o]? = some (B + o, f o) := by simp [wl, h]
theorem wl_len {B n : Nat} {f : Nat → va_E} : (wl B n f).length = n := by simp [wl]
theorem wl_set {B n o : Nat} {f : Nat → va_E} {e : va_E} (_h : o < n) : (wl B n f).set o (B + o, e) = wl B n (va_up f o e) := by
  apply List.ext_getElem?
  intro i
  by_cases hi : i < n
  · rw [wl_at hi, List.getElem?_set]
    by_cases ho : o = i
    · subst ho; simp [wl_len, hi, va_up]
    · have hne : ¬ i = o := fun q => ho q.symm
      rw [if_neg ho, wl_at hi]; simp [va_up, hne]
  · rw [List.getElem?_eq_none (by rw [List.length_set, wl_len]; omega), List.getElem?_eq_none (by rw [wl_len]; omega)]
theorem wl_push {B n : Nat} {f : Nat → va_E} {e : va_E} : wl B n f ++ [(B + n, e)] = wl B (n + 1) (va_up f n e) := by
  have h : (List.range n).map (fun o => (B + o, va_up f n e o)) = (List.range n).map (fun o => (B + o, f o)) := by
    apply List.map_congr_left
    intro o ho
    have := List.mem_range.mp ho
    rw [show va_up f n e o = f o from if_neg (by omega)]
  unfold wl
  rw [List.range_succ, List.map_append, h]
  simp [va_up]
abbrev fB (B : Nat) : Nat → Prop := fun q => B ≤ q
theorem wl_D {B n : Nat} {f : Nat → va_E} : va_D (fB B) (wl B n f) := by
  have key : ∀ (i : Nat) (p : Nat × va_E), (wl B n f)[i]? = some p → p.1 = B + i := by
    intro i p h
    have hi : i < n := by have := (List.getElem?_eq_some_iff.mp h).1; rwa [wl_len] at this
    rw [wl_at hi] at h
    cases h; rfl
  refine ⟨fun i j p q hi hj hpq => ?_, fun k q hk => ?_⟩
  · rw [key i p hi, key j q hj] at hpq; omega
  · show B ≤ q.1
    rw [key k q hk]; omega
def upW (g : GS) (k : Nat) (w : Row) : GS := (fun k' => if k' = k then w else g.1 k', g.2)
def upC (g : GS) (c : Row) : GS := (g.1, c, g.2.2)
def upS (g : GS) (t : Nat) (w : Row) : GS := (g.1, g.2.1, fun t' => if t' = t then w else g.2.2.1 t', g.2.2.2)
def upR (g : GS) (r : Row) : GS := (g.1, g.2.1, g.2.2.1, r)
/-- the first n of a row -/
def tr (n : Nat) (f : Row) : Row := fun j => if j < n then f j else 0
theorem tr_at {n j : Nat} {f : Row} (h : j < n) : tr n f j = f j := if_pos h
/-- where the cells of the world k begin -/
def wo (k : Nat) : Nat := if k < 2 then 1 + 41 * k else if k < 9 then 85 + 41 * (k - 2) else 373 + 41 * (k - 9)
def rfs (n : Nat) (f : Nat → Nat) : (Nat → Int32) ⊕ (Nat → Int64) ⊕ (Nat → UInt32) ⊕ (Nat → UInt64) ⊕ (Nat → Option Nat) := .inr (.inr (.inr (.inr (fun j => if j < n then some (f j) else none))))
def pw (E : EE) (B k : Nat) (w : Row) (r : Nat) : va_E :=
  if r = 0 then .inr (5, [.ref (B + (wo k + 1)), .ref (B + (wo k + 2)), .ref (B + (wo k + 3)), .ref (B + (wo k + 4)), .int (w 10), .int (w 5), .int (w 6), .int (w 7), .int (w 4), .int (w 8), .int (w 9)])
  else if r = 1 then .inl (E.2 0, 4, .inl (tr 4 w))
  else if r = 2 then .inl (E.2 2, 12, rfs 12 (fun i => B + (wo k + (5 + i))))
  else if r = 3 then .inl (E.2 3, 8, rfs 8 (fun i => B + (wo k + (17 + 3 * i))))
  else if r = 4 then .inl (E.2 0, 8, .inl (tr 8 (fun j => w (12 + j))))
  else if r < 17 then .inr (0, [.int (nI (r - 5)), .int (w (20 + 7 * (r - 5))), .int (w (20 + 7 * (r - 5) + 1)), .int (w (20 + 7 * (r - 5) + 2)), .int (w (20 + 7 * (r - 5) + 3)), .int (w (360 + (r - 5))), .int (w (20 + 7 * (r - 5) + 4)), .int (w (20 + 7 * (r - 5) + 5)), .int (w (20 + 7 * (r - 5) + 6))])
  else if (r - 17) % 3 = 0 then .inr (1, [.int (nI ((r - 17) / 3)), .int (w (104 + 8 * ((r - 17) / 3))), .int (w (104 + 8 * ((r - 17) / 3) + 1)), .int (w (104 + 8 * ((r - 17) / 3) + 2)), .int (w (104 + 8 * ((r - 17) / 3) + 3)), .int (w (104 + 8 * ((r - 17) / 3) + 4)), .int (w (104 + 8 * ((r - 17) / 3) + 5)), .int (w (104 + 8 * ((r - 17) / 3) + 6)), .int (w (104 + 8 * ((r - 17) / 3) + 7)), .ref (B + (wo k + (18 + 3 * ((r - 17) / 3)))), .ref (B + (wo k + (19 + 3 * ((r - 17) / 3))))])
  else if (r - 17) % 3 = 1 then .inl (E.2 0, 12, .inl (tr 12 (fun j => w (168 + 2 * (12 * ((r - 17) / 3) + j)))))
  else .inl (E.2 0, 12, .inl (tr 12 (fun j => w (168 + 2 * (12 * ((r - 17) / 3) + j) + 1))))
def pcT (E : EE) (B : Nat) (g : GS) (o : Nat) : va_E :=
  if o = 0 then .inr (6, [.ref (B + wo 0), .ref (B + wo 1), .ref (B + 83), .ref (B + 372), .ref (B + 455), .ref (B + 456), .ref (B + 458)])
  else if o < 83 then pw E B ((o - 1) / 41) (g.1 ((o - 1) / 41)) ((o - 1) % 41)
  else if o = 83 then .inr (2, [.ref (B + 84), .int (g.2.1 0), .int (g.2.1 1)])
  else if o = 84 then .inl (E.2 4, 7, rfs 7 (fun i => B + wo (2 + i)))
  else if o < 372 then pw E B (2 + (o - 85) / 41) (g.1 (2 + (o - 85) / 41)) ((o - 85) % 41)
  else if o = 372 then .inl (E.2 4, 2, rfs 2 (fun i => B + wo (9 + i)))
  else if o < 455 then pw E B (9 + (o - 373) / 41) (g.1 (9 + (o - 373) / 41)) ((o - 373) % 41)
  else if o = 455 then .inl (E.2 1, 2, .inl (tr 2 (fun j => g.2.1 (10 + j))))
  else if o = 456 then .inr (4, [.ref (B + 457), .int (g.2.1 3)])
  else if o = 457 then .inl (E.2 0, 80, .inl (tr 80 (fun j => g.2.1 (100 + j))))
  else if o = 458 then .inr (3, [.ref (B + 456), .int (g.2.1 4), .int (g.2.1 5), .int (g.2.1 6), .int (g.2.1 7), .int (g.2.1 8)])
  else if o = 459 then .inr (7, [.ref (B + 460), .int (g.2.2.2 0), .ref (B + 461), .ref (B + 462), .int (g.2.2.2 1), .int (g.2.2.2 2), .int (g.2.2.2 3), .int (g.2.2.2 4), .int (g.2.2.2 5), .int (g.2.2.2 6), .ref (B + 463)])
  else if o = 460 then .inl (E.2 0, 3600, .inl (tr 3600 (fun j => g.2.2.1 (j / 360) (j % 360))))
  else if o = 461 then .inl (E.2 1, 2, .inl (tr 2 (fun j => g.2.2.2 (10 + j))))
  else if o = 462 then .inl (E.2 0, 80, .inl (tr 80 (fun j => g.2.2.2 (100 + j))))
  else .inl (E.2 0, 8, .inl (tr 8 (fun j => g.2.2.2 (200 + j))))
/-- which cell of a world holds the int j -/
def ow (j : Nat) : Nat := if j < 4 then 1 else if j < 12 then 0 else if j < 20 then 4 else if j < 104 then 5 + (j - 20) / 7 else if j < 168 then 17 + 3 * ((j - 104) / 8) else if j < 360 then 18 + 3 * ((j - 168) / 24) + (j - 168) % 2 else 5 + (j - 360)
theorem upd_ow {w : Row} {j r i : Nat} {v : Int32} (h : ¬ r = ow j) (hi : ow i = r) : upd w j v i = w i := if_neg (fun q => h (by rw [← q]; exact hi.symm))
theorem pw_ow {E : EE} {B k j r : Nat} {w : Row} {v : Int32} (h : ¬ r = ow j) (hr : r < 41) : pw E B k (upd w j v) r = pw E B k w r := by
  have U : ∀ i, ow i = r → upd w j v i = w i := fun i hi => upd_ow h hi
  unfold pw
  by_cases h0 : r = 0
  · subst h0
    simp only [if_true]
    rw [U 10 (by decide), U 5 (by decide), U 6 (by decide), U 7 (by decide), U 4 (by decide), U 8 (by decide), U 9 (by decide)]
  rw [if_neg h0, if_neg h0]
  by_cases h1 : r = 1
  · subst h1
    have e : tr 4 (upd w j v) = tr 4 w := by
      funext i
      unfold tr
      by_cases hi : i < 4
      · rw [if_pos hi, if_pos hi]; exact U i (by unfold ow; rw [if_pos hi])
      · rw [if_neg hi, if_neg hi]
    rw [if_pos rfl, if_pos rfl, e]
  rw [if_neg h1, if_neg h1]
  by_cases h2 : r = 2
  · rw [if_pos h2, if_pos h2]
  rw [if_neg h2, if_neg h2]
  by_cases h3 : r = 3
  · rw [if_pos h3, if_pos h3]
  rw [if_neg h3, if_neg h3]
  by_cases h4 : r = 4
  · subst h4
    have e : tr 8 (fun i => upd w j v (12 + i)) = tr 8 (fun i => w (12 + i)) := by
      funext i
      unfold tr
      by_cases hi : i < 8
      · rw [if_pos hi, if_pos hi]; exact U (12 + i) (by unfold ow; rw [if_neg (by omega), if_neg (by omega), if_pos (by omega)])
      · rw [if_neg hi, if_neg hi]
    rw [if_pos rfl, if_pos rfl, e]
  rw [if_neg h4, if_neg h4]
  by_cases h5 : r < 17
  · have V : ∀ f, f < 7 → upd w j v (20 + 7 * (r - 5) + f) = w (20 + 7 * (r - 5) + f) := fun f hf => U _ (by
      unfold ow; rw [if_neg (by omega), if_neg (by omega), if_neg (by omega), if_pos (by omega)]; omega)
    rw [if_pos h5, if_pos h5, V 1 (by omega), V 2 (by omega), V 3 (by omega), V 4 (by omega), V 5 (by omega), V 6 (by omega), show upd w j v (20 + 7 * (r - 5)) = w (20 + 7 * (r - 5)) from V 0 (by omega),
      U (360 + (r - 5)) (by unfold ow; rw [if_neg (by omega), if_neg (by omega), if_neg (by omega), if_neg (by omega), if_neg (by omega), if_neg (by omega)]; omega)]
  rw [if_neg h5, if_neg h5]
  by_cases h6 : (r - 17) % 3 = 0
  · have V : ∀ f, f < 8 → upd w j v (104 + 8 * ((r - 17) / 3) + f) = w (104 + 8 * ((r - 17) / 3) + f) := fun f hf => U _ (by
      unfold ow; rw [if_neg (by omega), if_neg (by omega), if_neg (by omega), if_neg (by omega), if_pos (by omega)]; omega)
    rw [if_pos h6, if_pos h6, V 1 (by omega), V 2 (by omega), V 3 (by omega), V 4 (by omega), V 5 (by omega), V 6 (by omega), V 7 (by omega), show upd w j v (104 + 8 * ((r - 17) / 3)) = w (104 + 8 * ((r - 17) / 3)) from V 0 (by omega)]
  rw [if_neg h6, if_neg h6]
  by_cases h7 : (r - 17) % 3 = 1
  · rw [if_pos h7, if_pos h7]
    have e : tr 12 (fun i => upd w j v (168 + 2 * (12 * ((r - 17) / 3) + i))) = tr 12 (fun i => w (168 + 2 * (12 * ((r - 17) / 3) + i))) := by
      funext i
      unfold tr
      by_cases hi : i < 12
      · rw [if_pos hi, if_pos hi]; exact U _ (by unfold ow; rw [if_neg (by omega), if_neg (by omega), if_neg (by omega), if_neg (by omega), if_neg (by omega), if_pos (by omega)]; omega)
      · rw [if_neg hi, if_neg hi]
    rw [e]
  rw [if_neg h7, if_neg h7]
  have e : tr 12 (fun i => upd w j v (168 + 2 * (12 * ((r - 17) / 3) + i) + 1)) = tr 12 (fun i => w (168 + 2 * (12 * ((r - 17) / 3) + i) + 1)) := by
    funext i
    unfold tr
    by_cases hi : i < 12
    · rw [if_pos hi, if_pos hi]; exact U _ (by unfold ow; rw [if_neg (by omega), if_neg (by omega), if_neg (by omega), if_neg (by omega), if_neg (by omega), if_pos (by omega)]; omega)
    · rw [if_neg hi, if_neg hi]
  rw [e]

theorem wo_lt {k : Nat} (hk : k < 11) : 1 ≤ wo k ∧ wo k + 41 ≤ 455 := by unfold wo; split <;> (try split) <;> omega
theorem wo_apart {k k' : Nat} (hk : k < 11) (hk' : k' < 11) (h : ¬ k = k') : wo k + 41 ≤ wo k' ∨ wo k' + 41 ≤ wo k := by
  unfold wo
  by_cases a : k < 2 <;> by_cases b : k' < 2 <;> by_cases c : k < 9 <;> by_cases d : k' < 9 <;> simp only [a, b, c, d, if_true, if_false] <;> omega
theorem wo_inj {k k' r r' : Nat} (hk : k < 11) (hk' : k' < 11) (hr : r < 41) (hr' : r' < 41) (h : wo k + r = wo k' + r') : k = k' ∧ r = r' := by
  by_cases e : k = k'
  · subst e; exact ⟨rfl, by omega⟩
  · have := wo_apart hk hk' e; omega
/-- an offset below 459 is that of a world's cell, or one of these -/
def inW (o : Nat) : Prop := (1 ≤ o ∧ o < 83) ∨ (85 ≤ o ∧ o < 372) ∨ (373 ≤ o ∧ o < 455)
theorem inW_of {o : Nat} (h : inW o) : ∃ k r, k < 11 ∧ r < 41 ∧ o = wo k + r := by
  rcases h with h | h | h
  · refine ⟨(o - 1) / 41, (o - 1) % 41, by omega, by omega, ?_⟩
    unfold wo; rw [if_pos (by omega)]; omega
  · refine ⟨2 + (o - 85) / 41, (o - 85) % 41, by omega, by omega, ?_⟩
    unfold wo; rw [if_neg (by omega), if_pos (by omega)]; omega
  · refine ⟨9 + (o - 373) / 41, (o - 373) % 41, by omega, by omega, ?_⟩
    unfold wo; rw [if_neg (by omega), if_neg (by omega)]; omega
theorem wo_inW {k r : Nat} (hk : k < 11) (hr : r < 41) : inW (wo k + r) := by
  unfold inW wo
  by_cases a : k < 2 <;> by_cases c : k < 9 <;> simp only [a, c, if_true, if_false] <;> omega
theorem pcT_W {E : EE} {B k r : Nat} {g : GS} (hk : k < 11) (hr : r < 41) : pcT E B g (wo k + r) = pw E B k (g.1 k) r := by
  unfold wo
  by_cases a : k < 2
  · rw [if_pos a]
    unfold pcT
    rw [if_neg (by omega), if_pos (by omega), show (1 + 41 * k + r - 1) / 41 = k by omega, show (1 + 41 * k + r - 1) % 41 = r by omega]
  rw [if_neg a]
  by_cases b : k < 9
  · rw [if_pos b]
    unfold pcT
    rw [if_neg (by omega), if_neg (by omega), if_neg (by omega), if_neg (by omega), if_pos (by omega), show 2 + (85 + 41 * (k - 2) + r - 85) / 41 = k by omega, show (85 + 41 * (k - 2) + r - 85) % 41 = r by omega]
  · rw [if_neg b]
    unfold pcT
    rw [if_neg (by omega), if_neg (by omega), if_neg (by omega), if_neg (by omega), if_neg (by omega), if_neg (by omega), if_pos (by omega), show 9 + (373 + 41 * (k - 9) + r - 373) / 41 = k by omega, show (373 + 41 * (k - 9) + r - 373) % 41 = r by omega]
/-- cells that no world has are the same whatever the worlds hold -/
theorem pcT_notW {E : EE} {B o : Nat} {g : GS} {f : Nat → Row} (h : ¬ inW o) : pcT E B (f, g.2) o = pcT E B g o := by
  unfold inW at h
  unfold pcT
  by_cases h0 : o = 0
  · rw [if_pos h0, if_pos h0]
  rw [if_neg h0, if_neg h0, if_neg (show ¬ o < 83 by omega), if_neg (show ¬ o < 83 by omega)]
  by_cases h1 : o = 83
  · rw [if_pos h1, if_pos h1]
  rw [if_neg h1, if_neg h1]
  by_cases h2 : o = 84
  · rw [if_pos h2, if_pos h2]
  rw [if_neg h2, if_neg h2, if_neg (show ¬ o < 372 by omega), if_neg (show ¬ o < 372 by omega)]
  by_cases h3 : o = 372
  · rw [if_pos h3, if_pos h3]
  rw [if_neg h3, if_neg h3, if_neg (show ¬ o < 455 by omega), if_neg (show ¬ o < 455 by omega)]
theorem upW_1 {g : GS} {k : Nat} {w : Row} : (upW g k w).1 k = w := if_pos rfl
theorem upW_ne {g : GS} {k k' : Nat} {w : Row} (h : ¬ k' = k) : (upW g k w).1 k' = g.1 k' := if_neg h
theorem upW_self {g : GS} {k : Nat} : upW g k (g.1 k) = g := by
  unfold upW
  refine Prod.ext (funext fun k' => ?_) rfl
  show (if k' = k then g.1 k else g.1 k') = g.1 k'
  by_cases h : k' = k
  · rw [if_pos h, h]
  · rw [if_neg h]
theorem upW_upW {g : GS} {k : Nat} {w w' : Row} : upW (upW g k w) k w' = upW g k w' := by
  unfold upW
  refine Prod.ext (funext fun k' => ?_) rfl
  show (if k' = k then w' else if k' = k then w else g.1 k') = if k' = k then w' else g.1 k'
  by_cases h : k' = k
  · rw [if_pos h, if_pos h]
  · rw [if_neg h, if_neg h, if_neg h]
/-- a store into a world's cell, in the picture -/
theorem pcT_up {E : EE} {B k j : Nat} {g : GS} {w : Row} {v : Int32} {e : va_E} (hk : k < 11) (hj : ow j < 41) (he : pw E B k (upd w j v) (ow j) = e) : va_up (pcT E B (upW g k w)) (wo k + ow j) e = pcT E B (upW g k (upd w j v)) := by
  funext o
  by_cases ho : o = wo k + ow j
  · subst ho
    rw [pcT_W hk hj, upW_1, he]; exact if_pos rfl
  · rw [show va_up (pcT E B (upW g k w)) (wo k + ow j) e o = pcT E B (upW g k w) o from if_neg ho]
    by_cases hi : inW o
    · obtain ⟨k', r, hk', hr, rfl⟩ := inW_of hi
      rw [pcT_W hk' hr, pcT_W hk' hr]
      by_cases hkk : k' = k
      · subst hkk
        rw [upW_1, upW_1, pw_ow (fun q => ho (by rw [q])) hr]
      · rw [upW_ne hkk, upW_ne hkk]
    · exact (pcT_notW (g := g) hi).trans (pcT_notW (g := g) hi).symm
end
section
/-! the other cells of the picture -/
theorem pcT_0 {E : EE} {B : Nat} {g : GS} : pcT E B g 0 = .inr (6, [.ref (B + wo 0), .ref (B + wo 1), .ref (B + 83), .ref (B + 372), .ref (B + 455), .ref (B + 456), .ref (B + 458)]) := rfl
theorem pcT_83 {E : EE} {B : Nat} {g : GS} : pcT E B g 83 = .inr (2, [.ref (B + 84), .int (g.2.1 0), .int (g.2.1 1)]) := rfl
theorem pcT_84 {E : EE} {B : Nat} {g : GS} : pcT E B g 84 = .inl (E.2 4, 7, rfs 7 (fun i => B + wo (2 + i))) := rfl
theorem pcT_372 {E : EE} {B : Nat} {g : GS} : pcT E B g 372 = .inl (E.2 4, 2, rfs 2 (fun i => B + wo (9 + i))) := rfl
theorem pcT_455 {E : EE} {B : Nat} {g : GS} : pcT E B g 455 = .inl (E.2 1, 2, .inl (tr 2 (fun j => g.2.1 (10 + j)))) := rfl
theorem pcT_456 {E : EE} {B : Nat} {g : GS} : pcT E B g 456 = .inr (4, [.ref (B + 457), .int (g.2.1 3)]) := rfl
theorem pcT_457 {E : EE} {B : Nat} {g : GS} : pcT E B g 457 = .inl (E.2 0, 80, .inl (tr 80 (fun j => g.2.1 (100 + j)))) := rfl
theorem pcT_458 {E : EE} {B : Nat} {g : GS} : pcT E B g 458 = .inr (3, [.ref (B + 456), .int (g.2.1 4), .int (g.2.1 5), .int (g.2.1 6), .int (g.2.1 7), .int (g.2.1 8)]) := rfl
theorem pcT_459 {E : EE} {B : Nat} {g : GS} : pcT E B g 459 = .inr (7, [.ref (B + 460), .int (g.2.2.2 0), .ref (B + 461), .ref (B + 462), .int (g.2.2.2 1), .int (g.2.2.2 2), .int (g.2.2.2 3), .int (g.2.2.2 4), .int (g.2.2.2 5), .int (g.2.2.2 6), .ref (B + 463)]) := rfl
theorem pcT_460 {E : EE} {B : Nat} {g : GS} : pcT E B g 460 = .inl (E.2 0, 3600, .inl (tr 3600 (fun j => g.2.2.1 (j / 360) (j % 360)))) := rfl
theorem pcT_461 {E : EE} {B : Nat} {g : GS} : pcT E B g 461 = .inl (E.2 1, 2, .inl (tr 2 (fun j => g.2.2.2 (10 + j)))) := rfl
theorem pcT_462 {E : EE} {B : Nat} {g : GS} : pcT E B g 462 = .inl (E.2 0, 80, .inl (tr 80 (fun j => g.2.2.2 (100 + j)))) := rfl
theorem pcT_463 {E : EE} {B : Nat} {g : GS} : pcT E B g 463 = .inl (E.2 0, 8, .inl (tr 8 (fun j => g.2.2.2 (200 + j)))) := rfl
theorem pcT_off {E : EE} {B o : Nat} {g : GS} (h : ¬ inW o) (h2 : o < 464) : o = 0 ∨ o = 83 ∨ o = 84 ∨ o = 372 ∨ o = 455 ∨ o = 456 ∨ o = 457 ∨ o = 458 ∨ o = 459 ∨ o = 460 ∨ o = 461 ∨ o = 462 ∨ o = 463 := by
  unfold inW at h; omega
/-- which cell holds the int j of the class's other cells, of the reference's -/
def oc (j : Nat) : Nat := if j < 2 then 83 else if j < 4 then 456 else if j < 9 then 458 else if j < 12 then 455 else 457
def oR (j : Nat) : Nat := if j < 7 then 459 else if j < 12 then 461 else if j < 200 then 462 else 463
theorem tr_eq {n : Nat} {f f' : Row} (h : ∀ j, j < n → f j = f' j) : tr n f = tr n f' := by
  funext j
  unfold tr
  by_cases hj : j < n
  · rw [if_pos hj, if_pos hj, h j hj]
  · rw [if_neg hj, if_neg hj]
theorem pcT_C {E : EE} {B j o : Nat} {g : GS} {c : Row} {v : Int32} (h : ¬ o = oc j) (ho : o < 464) : pcT E B (upC g (upd c j v)) o = pcT E B (upC g c) o := by
  have U : ∀ i, oc i = o → upd c j v i = c i := fun i hi => if_neg (fun q => h (by rw [← q]; exact hi.symm))
  by_cases hi : inW o
  · obtain ⟨k', r, hk', hr, rfl⟩ := inW_of hi
    rw [pcT_W hk' hr, pcT_W hk' hr]; rfl
  rcases pcT_off (E := E) (B := B) (g := g) hi ho with rfl | rfl | rfl | rfl | rfl | rfl | rfl | rfl | rfl | rfl | rfl | rfl | rfl
  · rfl
  · rw [pcT_83, pcT_83]; show Sum.inr (2, [Value.ref (B + 84), .int (upd c j v 0), .int (upd c j v 1)]) = _; rw [U 0 rfl, U 1 rfl]; rfl
  · rfl
  · rfl
  · rw [pcT_455, pcT_455]; show Sum.inl (E.2 1, 2, Sum.inl (tr 2 (fun i => upd c j v (10 + i)))) = _; rw [tr_eq (f' := fun i => c (10 + i)) (fun i hi => U (10 + i) (by unfold oc; rw [if_neg (by omega), if_neg (by omega), if_neg (by omega), if_pos (by omega)]))]; rfl
  · rw [pcT_456, pcT_456]; show Sum.inr (4, [Value.ref (B + 457), .int (upd c j v 3)]) = _; rw [U 3 rfl]; rfl
  · rw [pcT_457, pcT_457]; show Sum.inl (E.2 0, 80, Sum.inl (tr 80 (fun i => upd c j v (100 + i)))) = _; rw [tr_eq (f' := fun i => c (100 + i)) (fun i hi => U (100 + i) (by unfold oc; rw [if_neg (by omega), if_neg (by omega), if_neg (by omega), if_neg (by omega)]))]; rfl
  · rw [pcT_458, pcT_458]; show Sum.inr (3, [Value.ref (B + 456), .int (upd c j v 4), .int (upd c j v 5), .int (upd c j v 6), .int (upd c j v 7), .int (upd c j v 8)]) = _; rw [U 4 rfl, U 5 rfl, U 6 rfl, U 7 rfl, U 8 rfl]; rfl
  · rfl
  · rfl
  · rfl
  · rfl
  · rfl
theorem pcT_R {E : EE} {B j o : Nat} {g : GS} {c : Row} {v : Int32} (h : ¬ o = oR j) (ho : o < 464) : pcT E B (upR g (upd c j v)) o = pcT E B (upR g c) o := by
  have U : ∀ i, oR i = o → upd c j v i = c i := fun i hi => if_neg (fun q => h (by rw [← q]; exact hi.symm))
  by_cases hi : inW o
  · obtain ⟨k', r, hk', hr, rfl⟩ := inW_of hi
    rw [pcT_W hk' hr, pcT_W hk' hr]; rfl
  rcases pcT_off (E := E) (B := B) (g := g) hi ho with rfl | rfl | rfl | rfl | rfl | rfl | rfl | rfl | rfl | rfl | rfl | rfl | rfl
  · rfl
  · rfl
  · rfl
  · rfl
  · rfl
  · rfl
  · rfl
  · rfl
  · rw [pcT_459, pcT_459]; show Sum.inr (7, [Value.ref (B + 460), .int (upd c j v 0), .ref (B + 461), .ref (B + 462), .int (upd c j v 1), .int (upd c j v 2), .int (upd c j v 3), .int (upd c j v 4), .int (upd c j v 5), .int (upd c j v 6), .ref (B + 463)]) = _; rw [U 0 rfl, U 1 rfl, U 2 rfl, U 3 rfl, U 4 rfl, U 5 rfl, U 6 rfl]; rfl
  · rfl
  · rw [pcT_461, pcT_461]; show Sum.inl (E.2 1, 2, Sum.inl (tr 2 (fun i => upd c j v (10 + i)))) = _; rw [tr_eq (f' := fun i => c (10 + i)) (fun i hi => U (10 + i) (by unfold oR; rw [if_neg (by omega), if_pos (by omega)]))]; rfl
  · rw [pcT_462, pcT_462]; show Sum.inl (E.2 0, 80, Sum.inl (tr 80 (fun i => upd c j v (100 + i)))) = _; rw [tr_eq (f' := fun i => c (100 + i)) (fun i hi => U (100 + i) (by unfold oR; rw [if_neg (by omega), if_neg (by omega), if_pos (by omega)]))]; rfl
  · rw [pcT_463, pcT_463]; show Sum.inl (E.2 0, 8, Sum.inl (tr 8 (fun i => upd c j v (200 + i)))) = _; rw [tr_eq (f' := fun i => c (200 + i)) (fun i hi => U (200 + i) (by unfold oR; rw [if_neg (by omega), if_neg (by omega), if_neg (by omega)]))]; rfl
/-- the rows of the reference stand in one array -/
theorem pcT_S {E : EE} {B o : Nat} {g : GS} {t : Nat} {w : Row} (h : ¬ o = 460) (ho : o < 464) : pcT E B (upS g t w) o = pcT E B g o := by
  by_cases hi : inW o
  · obtain ⟨k', r, hk', hr, rfl⟩ := inW_of hi
    rw [pcT_W hk' hr, pcT_W hk' hr]; rfl
  rcases pcT_off (E := E) (B := B) (g := g) hi ho with rfl | rfl | rfl | rfl | rfl | rfl | rfl | rfl | rfl | rfl | rfl | rfl | rfl <;> first | rfl | exact absurd rfl h
theorem upS_1 {g : GS} {k : Nat} {w : Row} : (upS g k w).2.2.1 k = w := if_pos rfl
theorem upS_ne {g : GS} {k k' : Nat} {w : Row} (h : ¬ k' = k) : (upS g k w).2.2.1 k' = g.2.2.1 k' := if_neg h
theorem upS_fun {t : Nat} {f : Nat → Row} (k : Nat) (w : Row) (h : f t = w ∨ ¬ t = k) : True := trivial
theorem upS_self {g : GS} {k : Nat} : upS g k (g.2.2.1 k) = g := by
  unfold upS
  have : (fun t' => if t' = k then g.2.2.1 k else g.2.2.1 t') = g.2.2.1 := by
    funext k'
    by_cases h : k' = k
    · rw [if_pos h, h]
    · rw [if_neg h]
  rw [this]
theorem upS_upS {g : GS} {k : Nat} {w w' : Row} : upS (upS g k w) k w' = upS g k w' := by
  have : (fun t' => if t' = k then w' else (upS g k w).2.2.1 t') = (fun t' => if t' = k then w' else g.2.2.1 t') := by
    funext k'
    by_cases h : k' = k
    · rw [if_pos h, if_pos h]
    · rw [if_neg h, if_neg h]; exact upS_ne h
  show ((upS g k w).1, (upS g k w).2.1, (fun t' => if t' = k then w' else (upS g k w).2.2.1 t'), (upS g k w).2.2.2) = _
  rw [this]; rfl
theorem pcT_upC {E : EE} {B j : Nat} {g : GS} {c : Row} {v : Int32} {e : va_E} (hj : oc j < 464) (he : pcT E B (upC g (upd c j v)) (oc j) = e) : wl B 464 (va_up (pcT E B (upC g c)) (oc j) e) = wl B 464 (pcT E B (upC g (upd c j v))) := by
  apply List.map_congr_left
  intro o ho
  have hl := List.mem_range.mp ho
  by_cases h : o = oc j
  · subst h; rw [he]; exact congrArg _ (if_pos rfl)
  · rw [pcT_C h hl]; exact congrArg _ (if_neg h)
theorem pcT_upR {E : EE} {B j : Nat} {g : GS} {c : Row} {v : Int32} {e : va_E} (hj : oR j < 464) (he : pcT E B (upR g (upd c j v)) (oR j) = e) : wl B 464 (va_up (pcT E B (upR g c)) (oR j) e) = wl B 464 (pcT E B (upR g (upd c j v))) := by
  apply List.map_congr_left
  intro o ho
  have hl := List.mem_range.mp ho
  by_cases h : o = oR j
  · subst h; rw [he]; exact congrArg _ (if_pos rfl)
  · rw [pcT_R h hl]; exact congrArg _ (if_neg h)
theorem pcT_upS {E : EE} {B t : Nat} {g : GS} {w w' : Row} {e : va_E} (he : pcT E B (upS g t w') 460 = e) : wl B 464 (va_up (pcT E B (upS g t w)) 460 e) = wl B 464 (pcT E B (upS g t w')) := by
  apply List.map_congr_left
  intro o ho
  have hl := List.mem_range.mp ho
  by_cases h : o = 460
  · subst h; rw [he]; exact congrArg _ (if_pos rfl)
  · rw [pcT_S h hl]; refine congrArg _ ((if_neg h).trans (pcT_S h hl))
end
section
/-! the machine's rows over that picture -/
def NW (U : State) : Prop := va_Nw (.fieldLinkNest RX5 34 RX6 "FIRST_SETTINGS" "[I" RX6) U ∧ va_Nw (.fieldLinkNest RX5 76 RX6 "LEAST_SETTINGS" "[I" RX6) U ∧ va_Nw (.fieldLinkNest RX5 79 RX6 "MOST_SETTINGS" "[I" RX6) U ∧ va_Nw (.methodLinkNest RX6 36 yX4_init RX6) U ∧ va_Nw (.methodLinkNest RX5 72 yX6_isBelow RX6) U ∧ va_AO RX0 U ∧ va_AO RX1 U ∧ va_AO RX5 U
theorem NW.warm {s U : State} (hW : s.WarmedH U.vm) (h : NW s) : NW U := ⟨va_Nw.warmF hW h.1, va_Nw.warmF hW h.2.1, va_Nw.warmF hW h.2.2.1, va_Nw.warmM hW h.2.2.2.1, va_Nw.warmM hW h.2.2.2.2.1, va_AO.moved hW.alike h.2.2.2.2.2.1, va_AO.moved hW.alike h.2.2.2.2.2.2.1, va_AO.moved hW.alike h.2.2.2.2.2.2.2⟩
theorem va_AO.same {C : String} {u U : State} (h : u.vm = U.vm) (hz : va_AO C u) : va_AO C U := va_AO.moved (by rw [h]; exact Vm.Alike.refl _) hz
theorem NW.same {s U : State} (hW : s.vm = U.vm) (h : NW s) : NW U := ⟨va_Nw.same rfl hW h.1, va_Nw.same rfl hW h.2.1, va_Nw.same rfl hW h.2.2.1, va_Nw.same rfl hW h.2.2.2.1, va_Nw.same rfl hW h.2.2.2.2.1, va_AO.same hW h.2.2.2.2.2.1, va_AO.same hW h.2.2.2.2.2.2.1, va_AO.same hW h.2.2.2.2.2.2.2⟩
/-- the three rows of numbers that the class keeps as statics -/
def st_first : Row := fun j => match j with | 0 => 3 | 1 => 1 | 2 => 2 | _ => 5
def st_least : Row := fun j => match j with | 0 => 0 | 1 => 0 | 2 => 0 | _ => 1
def st_most : Row := fun j => match j with | 0 => 50 | 1 => 20 | 2 => 50 | _ => 20
def ST1 (n : String) (f : Row) (B : Nat) (U : State) (H : Heap) : Prop := ∃ t : Nat, va_Z RX6 n "[I" (.ref t) (fB B) U H ∧ va_T .int t 4 (fun j => .int (f j)) (fB B) U H
def ST (B : Nat) (U : State) (H : Heap) : Prop := ST1 "FIRST_SETTINGS" st_first B U H ∧ ST1 "LEAST_SETTINGS" st_least B U H ∧ ST1 "MOST_SETTINGS" st_most B U H
theorem ST1.to {n : String} {f : Row} {B : Nat} {u U : State} {H H1 : Heap} (hvm : u.vm.Alike U.vm) (hq : ∀ a : Nat, a < H.size → ¬ fB B a → H1[a]? = H[a]?) (h : ST1 n f B u H) : ST1 n f B U H1 := by
  obtain ⟨t, h1, h2⟩ := h
  exact ⟨t, (h1.moved hvm).kept hq, (h2.moved hvm).kept hq⟩
theorem ST.to {B : Nat} {u U : State} {H H1 : Heap} (hvm : u.vm.Alike U.vm) (hq : ∀ a : Nat, a < H.size → ¬ fB B a → H1[a]? = H[a]?) (h : ST B u H) : ST B U H1 := ⟨h.1.to hvm hq, h.2.1.to hvm hq, h.2.2.to hvm hq⟩
def BPx (E : EE) (B : Nat) (U : State) : Prop := va_K E.1 vwCl (tys E) U ∧ NW U ∧ ST B U U.heap ∧ B ≤ U.heap.size
def BP (E : EE) (B n : Nat) (f : Nat → va_E) (U : State) : Prop := va_P E.1 vwCl (wl B n f) U.heap ∧ BPx E B U ∧ U.heap.size = B + n
theorem BPx.at {E : EE} {B : Nat} {s U : State} {H : Heap} {locs : List Loc} (h : BPx E B s) (hS : va_S (fB B) s.heap H locs) (hU : U.heap = H) (hW : s.WarmedH U.vm) : BPx E B U := by
  obtain ⟨h1, h2, h3, h4⟩ := h
  refine ⟨va_K.moved hW.alike h1, h2.warm hW, ?_, ?_⟩
  · rw [hU]; exact h3.to hW.alike (fun a ha hn => hS.2.1 a ha hn)
  · rw [hU]; exact Nat.le_trans h4 hS.1
theorem BPx.same {E : EE} {B : Nat} {s U : State} (h : BPx E B s) (hU : U.heap = s.heap) (hv : s.vm = U.vm) : BPx E B U := by
  obtain ⟨h1, h2, h3, h4⟩ := h
  have ha : s.vm.Alike U.vm := by rw [hv]; exact Vm.Alike.refl _
  refine ⟨va_K.moved ha h1, h2.same hv, ?_, by rw [hU]; exact h4⟩
  rw [hU]; exact h3.to ha (fun _ _ _ => rfl)
def JL (E : EE) (B : Nat) (s : State) (n : Nat) (f : Nat → va_E) (H : Heap) (locs : List Loc) : Prop := va_P E.1 vwCl (wl B n f) H ∧ va_S (fB B) s.heap H locs ∧ H.size = B + n
abbrev JG (E : EE) (B : Nat) (s : State) (g : GS) (H : Heap) (locs : List Loc) : Prop := JL E B s 464 (pcT E B g) H locs
theorem JL.BP {E : EE} {B n : Nat} {s U : State} {f : Nat → va_E} {H : Heap} {locs : List Loc} (h : JL E B s n f H locs) (hx : BPx E B s) (hU : U.heap = H) (hW : s.WarmedH U.vm) : BP E B n f U := ⟨by rw [hU]; exact h.1, hx.at h.2.1 hU hW, by rw [hU]; exact h.2.2⟩
def Cx (p : Program) (s : State) (m : MethodId) (args : Array Value) (c : Code) (cc : ByteArray) (nL : Nat) (own : String) (E : EE) (B : Nat) : Prop :=
  p.tables.exec = Jvm.exec ∧ c.code = cc ∧ c.maxLocals = nL ∧ s.vm.findClass own = some m.cls ∧ (∀ w ∈ TW, w.before args s = true) ∧ BPx E B s
abbrev rmm (fr lo mc ms : Nat) : Room := { frames := fr, cells := mc, slots := ms, locals := lo }
/-- a contract: from the picture f of n cells, with these arguments, the method answers rv and leaves the picture f' of n' cells -/
def Ct (l : Launch) (y : MethodName) (cb : ByteArray) (maxL : Nat) (ret : Option FieldType) (fr lo mc ms : Nat) (E : EE) (B : Nat) (av : List Value) (n : Nat) (f : Nat → va_E) (rv : Option Value) (n' : Nat) (f' : Nat → va_E) : Prop :=
  Met l y (wsm y cb maxL ret) (rmm fr lo mc ms) (va_Pc av (BP E B n f)) (fun _ st oc t => (oc = .returned rv ∧ BP E B n' f' t) ∧ va_F (fB B) st t) mc ms (fB B)
abbrev CG (l : Launch) (y : MethodName) (cb : ByteArray) (maxL : Nat) (ret : Option FieldType) (fr lo : Nat) (E : EE) (B : Nat) (av : List Value) (g : GS) (rv : Option Value) (g' : GS) : Prop :=
  Ct l y cb maxL ret fr lo 0 0 E B av 464 (pcT E B g) rv 464 (pcT E B g')
theorem Pc_blind {E : EE} {B n : Nat} {f : Nat → va_E} {av : List Value} : FrameBlind (va_Pc av (BP E B n f)) := fun a U g mk h => ⟨h.1, h.2.1, h.2.2.1.same rfl rfl, h.2.2.2⟩
section MR
variable {p : Program} {l : Launch} {e : Env} {R : Room} {s : State} {m : MethodId} {args : Array Value} {below : List Frame} {meth : Method} {c : Code} {H : Heap} {locs : List Loc} {cells slots : Nat} {Q : State → Prop}
variable {cc : ByteArray} {nL : Nat} {own : String} {E : EE} {B : Nat} {pc : Nat} {ls : Array Slot} {rest : List Value} {n : Nat} {f : Nat → va_E}
theorem rget (X : Cx p s m args c cc nL own E B) (hJ : JL E B s n f H locs) {o ci index : Nat} {fs : List Value} {v : Value} {ref C : String} {T : u_T} {N : Nat} (hc : vwCl[ci]? = some (C, T, N)) (hin : ∀ w ∈ u_ws C T N, w ∈ TW) (k : Nat) (hk : k < N) (hlink : Cond.fieldLink own index ref (T k).2.1 (T k).2.2.1 ∈ TW) (href : ref = (T k).1) (ho : o < n) (hf : f o = .inr (ci, fs)) (hv : fs[k]? = some v) (hdg : decode cc pc = .ok (.getfield index, 3))
    (kk : W p l e R s m args below meth c H locs cells slots Q (F0 m (pc + 3) ls (v :: rest))) : W p l e R s m args below meth c H locs cells slots Q (F0 m pc ls (.ref (B + o) :: rest)) :=
  va_get (D := E.1) (tys := tys E) X.1 X.2.1 X.2.2.2.2.1 hin X.2.2.2.1 X.2.2.2.2.2.1 hJ.1 o (by rw [wl_at ho, hf]) hc k hk (X.2.2.2.2.1 _ hlink) (by rw [href]; exact fun _ h => h) hv hdg kk
theorem rput (X : Cx p s m args c cc nL own E B) (hJ : JL E B s n f H locs) {o ci index : Nat} {fs : List Value} {v : Value} {ref C : String} {T : u_T} {N : Nat} {ty0 : Nat → FieldType} (hc : vwCl[ci]? = some (C, T, N)) (hin : ∀ w ∈ u_ws C T N, w ∈ TW) (hty : ∀ k, k < N → parseFieldDescriptor (T k).2.2.1 = some (ty0 k)) (hnm : ∀ a, a < N → ∀ b, b < N → a ≠ b → (T a).2.1 ≠ (T b).2.1) (k : Nat) (hk : k < N) (hlink : Cond.fieldLink own index ref (T k).2.1 (T k).2.2.1 ∈ TW) (href : ref = (T k).1) (hfin : (T k).2.2.2 = false) (hn : narrow (ty0 k) v = v) (hfit : fits (ty0 k) v = true) (ho : o < n) (hf : f o = .inr (ci, fs)) (hl : k < fs.length) (hdg : decode cc pc = .ok (.putfield index, 3))
    (kk : ∀ (H1 : Heap) (locs1 : List Loc), JL E B s n (va_up f o (.inr (ci, fs.set k v))) H1 locs1 → W p l e R s m args below meth c H1 locs1 cells slots Q (F0 m (pc + 3) ls rest)) : W p l e R s m args below meth c H locs cells slots Q (F0 m pc ls (v :: .ref (B + o) :: rest)) := by
  have hexec := X.1
  have hb := X.2.1
  have hts := X.2.2.2.2.1
  have hown := X.2.2.2.1
  have hK := X.2.2.2.2.2.1
  have he : (wl B n f)[o]? = some (B + o, .inr (ci, fs)) := by rw [wl_at ho, hf]
  have hap := va_apart (own := own) hts hin ty0 hty hnm hK hc
  obtain ⟨r, h1, cell, q1, q2, q3, q4⟩ := hJ.1 o _ he
  have hr : r = (C, T, N) := Option.some.inj (h1.symm.trans hc)
  subst hr
  obtain ⟨hS, hfc, kC, hkC, hkind⟩ := hK.1 ci _ hc
  obtain ⟨cf, kf, fi, fd, hi, hsl⟩ := hS k hk
  have hlay := hts _ (hin _ (u_in_lay hk))
  unfold u_lay at hlay
  rw [if_neg (by rw [hfin]; decide)] at hlay
  have hst := (u_facts hfc hkC (u_lays hts hin hk) hi).1
  have h6 := u_store hfc hkC hkind hlay hi (hty k hk) hn hfit
  refine W.putK hexec hb (f := fd) ⟨hown, hts _ hlink, ⟨_, _, _, by rw [href]; exact hi⟩, hst⟩ (by rw [q2]; exact h6) q1 q3 (by rw [hsl]; exact k2_hasslot (q4 k hk)) rfl rfl hdg fun H' e1 e2 e3 => ?_
  rw [hsl] at e1 ⊢
  refine kk H' _ ⟨?_, hJ.2.1.put e2 e3 (Nat.le_add_right B o), e2.trans hJ.2.2⟩
  rw [← wl_set ho]
  exact hJ.1.set wl_D he ⟨_, hc, t_OB.to (V := updV (vp_V fs) k v) ⟨_, e1, q2, q3, t_set q4 hap hk v⟩ (fun j _ => vp_updV_set hl v j)⟩ e3
theorem rald (X : Cx p s m args c cc nL own E B) (hJ : JL E B s n f H locs) {o N : Nat} {a : Row} (ho : o < n) (hf : f o = .inl (E.2 0, N, .inl a)) {i : Int32} {j : Nat} (hi : i = nI j) (hj : j < N) (hN : N < 2 ^ 31) (hdg : decode cc pc = .ok (.iaload, 1))
    (kk : W p l e R s m args below meth c H locs cells slots Q (F0 m (pc + 1) ls (.int (a j) :: rest))) : W p l e R s m args below meth c H locs cells slots Q (F0 m pc ls (.int i :: .ref (B + o) :: rest)) := by
  subst hi
  refine va_iald (D := E.1) (tys := tys E) X.1 X.2.1 X.2.2.2.2.2.1 hJ.1 o 0 (by rw [wl_at ho, hf]) rfl (vp_in_nI hj hN) hdg ?_
  rw [nI_clamp (by omega)]
  exact kk
theorem rast (X : Cx p s m args c cc nL own E B) (hJ : JL E B s n f H locs) {o N : Nat} {a : Row} (ho : o < n) (hf : f o = .inl (E.2 0, N, .inl a)) {i x : Int32} {j : Nat} (hi : i = nI j) (hj : j < N) (hN : N < 2 ^ 31) (hdg : decode cc pc = .ok (.iastore, 1))
    (kk : ∀ (H1 : Heap) (locs1 : List Loc), JL E B s n (va_up f o (.inl (E.2 0, N, .inl (upd a j x)))) H1 locs1 → W p l e R s m args below meth c H1 locs1 cells slots Q (F0 m (pc + 1) ls rest)) : W p l e R s m args below meth c H locs cells slots Q (F0 m pc ls (.int x :: .int i :: .ref (B + o) :: rest)) := by
  subst hi
  have he : (wl B n f)[o]? = some (B + o, .inl (E.2 0, N, .inl a)) := by rw [wl_at ho, hf]
  have hin := vp_in_nI hj hN
  refine W.iast X.1 X.2.1 (hJ.1 o _ he) ((X.2.2.2.2.2.1.2 0 _ rfl).1 N (fun j => .int (a j))) (fun q => by cases q) (by show ¬ (nI j < 0 ∨ (arrV _ _ _).slots.size ≤ _); rw [arrV_size]; exact hin) rfl rfl hdg fun H1 e z oq => ?_
  refine kk H1 _ ⟨?_, hJ.2.1.put z oq (Nat.le_add_right B o), z.trans hJ.2.2⟩
  rw [← wl_set ho]
  refine hJ.1.set wl_D he ?_ oq
  show H1[B + o]? = some (vp_cell _ _)
  rw [e, nI_clamp (by omega), vp_cell_i, vp_cell_i, arrV_store]
  congr 2
  funext q
  by_cases hq : q = j
  · subst hq; simp [updV, upd]
  · simp [updV, upd, hq]
theorem rzld (X : Cx p s m args c cc nL own E B) (hJ : JL E B s n f H locs) {o N : Nat} {a : Row} (ho : o < n) (hf : f o = .inl (E.2 1, N, .inl a)) {i : Int32} {j : Nat} (hi : i = nI j) (hj : j < N) (hN : N < 2 ^ 31) (hdg : decode cc pc = .ok (.baload, 1))
    (kk : W p l e R s m args below meth c H locs cells slots Q (F0 m (pc + 1) ls (.int (a j) :: rest))) : W p l e R s m args below meth c H locs cells slots Q (F0 m pc ls (.int i :: .ref (B + o) :: rest)) := by
  subst hi
  refine va_zald (D := E.1) (tys := tys E) X.1 X.2.1 X.2.2.2.2.2.1 hJ.1 o 1 (by rw [wl_at ho, hf]) rfl (vp_in_nI hj hN) hdg ?_
  rw [nI_clamp (by omega)]
  exact kk
theorem rzst (X : Cx p s m args c cc nL own E B) (hJ : JL E B s n f H locs) {o N : Nat} {a : Row} (ho : o < n) (hf : f o = .inl (E.2 1, N, .inl a)) {i x : Int32} {j : Nat} (hi : i = nI j) (hx : narrow .boolean (.int x) = .int x) (hj : j < N) (hN : N < 2 ^ 31) (hdg : decode cc pc = .ok (.bastore, 1))
    (kk : ∀ (H1 : Heap) (locs1 : List Loc), JL E B s n (va_up f o (.inl (E.2 1, N, .inl (upd a j x)))) H1 locs1 → W p l e R s m args below meth c H1 locs1 cells slots Q (F0 m (pc + 1) ls rest)) : W p l e R s m args below meth c H locs cells slots Q (F0 m pc ls (.int x :: .int i :: .ref (B + o) :: rest)) := by
  subst hi
  have he : (wl B n f)[o]? = some (B + o, .inl (E.2 1, N, .inl a)) := by rw [wl_at ho, hf]
  have hin := vp_in_nI hj hN
  refine W.zast X.1 X.2.1 (hJ.1 o _ he) ((X.2.2.2.2.2.1.2 1 _ rfl).1 N (fun j => .int (a j))) (fun q => by cases q) (by show ¬ (nI j < 0 ∨ (arrV _ _ _).slots.size ≤ _); rw [arrV_size]; exact hin) rfl rfl hdg fun H1 e z oq => ?_
  refine kk H1 _ ⟨?_, hJ.2.1.put z oq (Nat.le_add_right B o), z.trans hJ.2.2⟩
  rw [← wl_set ho]
  refine hJ.1.set wl_D he ?_ oq
  show H1[B + o]? = some (vp_cell _ _)
  rw [e, nI_clamp (by omega), hx, vp_cell_i, vp_cell_i, arrV_store]
  congr 2
  funext q
  by_cases hq : q = j
  · subst hq; simp [updV, upd]
  · simp [updV, upd, hq]
theorem raldq (X : Cx p s m args c cc nL own E B) (hJ : JL E B s n f H locs) {o N t0 : Nat} {cA : ClassId} {C : String} {a : Nat → Nat} (ht : (tys E)[t0]? = some (cA, .object C)) (ho : o < n) (hf : f o = .inl (cA, N, rfs N a)) {i : Int32} {j : Nat} (hi : i = nI j) (hj : j < N) (hN : N < 2 ^ 31) (hdg : decode cc pc = .ok (.aaload, 1))
    (kk : W p l e R s m args below meth c H locs cells slots Q (F0 m (pc + 1) ls (.ref (a j) :: rest))) : W p l e R s m args below meth c H locs cells slots Q (F0 m pc ls (.int i :: .ref (B + o) :: rest)) := by
  subst hi
  refine va_aldq (D := E.1) (tys := tys E) X.1 X.2.1 X.2.2.2.2.2.1 hJ.1 o t0 (f := fun j => if j < N then some (a j) else none) (n := N) (by rw [wl_at ho, hf]; rfl) ht (vp_in_nI hj hN) hdg ?_
  rw [nI_clamp (by omega), if_pos hj]
  exact kk

theorem rputF (X : Cx p s m args c cc nL own E B) (hin2 : meth.name = "<init>") (hJ : JL E B s n f H locs) {o ci index : Nat} {fs : List Value} {v : Value} {ref C : String} {T : u_T} {N : Nat} {ty0 : Nat → FieldType} (hc : vwCl[ci]? = some (C, T, N)) (hin : ∀ w ∈ u_ws C T N, w ∈ TW) (hty : ∀ k, k < N → parseFieldDescriptor (T k).2.2.1 = some (ty0 k)) (hnm : ∀ a, a < N → ∀ b, b < N → a ≠ b → (T a).2.1 ≠ (T b).2.1) (k : Nat) (hk : k < N) (hlink : Cond.fieldLink own index ref (T k).2.1 (T k).2.2.1 ∈ TW) (href : ref = (T k).1) (hfin : (T k).2.2.2 = true) (hdecl : (T k).1 = own) (hn : narrow (ty0 k) v = v) (hfit : fits (ty0 k) v = true) (ho : o < n) (hf : f o = .inr (ci, fs)) (hl : k < fs.length) (hdg : decode cc pc = .ok (.putfield index, 3))
    (kk : ∀ (H1 : Heap) (locs1 : List Loc), JL E B s n (va_up f o (.inr (ci, fs.set k v))) H1 locs1 → W p l e R s m args below meth c H1 locs1 cells slots Q (F0 m (pc + 3) ls rest)) : W p l e R s m args below meth c H locs cells slots Q (F0 m pc ls (v :: .ref (B + o) :: rest)) := by
  have hexec := X.1
  have hb := X.2.1
  have hts := X.2.2.2.2.1
  have hown := X.2.2.2.1
  have hK := X.2.2.2.2.2.1
  have he : (wl B n f)[o]? = some (B + o, .inr (ci, fs)) := by rw [wl_at ho, hf]
  have hap := va_apart (own := own) hts hin ty0 hty hnm hK hc
  obtain ⟨r, h1, cell, q1, q2, q3, q4⟩ := hJ.1 o _ he
  have hr : r = (C, T, N) := Option.some.inj (h1.symm.trans hc)
  subst hr
  obtain ⟨hS, hfc, kC, hkC, hkind⟩ := hK.1 ci _ hc
  obtain ⟨cf, kf, fi, fd, hi, hsl⟩ := hS k hk
  have hlay := hts _ (hin _ (u_in_lay hk))
  unfold u_lay at hlay
  rw [if_pos hfin] at hlay
  have hst := (u_facts hfc hkC (u_lays hts hin hk) hi).1
  have hcf : m.cls = cf := by
    obtain ⟨_, _, c', _, _, _, -, -, hf', -, -, -, hown2, -⟩ := Cond.laysFinal_spec hlay
    have e1 : c' = cf := by have := hi.symm.trans hf'; simp at this; exact this.1.symm
    rw [hdecl] at hown2
    rw [← e1]; exact Option.some.inj (hown.symm.trans hown2)
  have h6 := u_fits hfc hkC hkind (Or.inr hlay) hi (hty k hk) hn hfit
  refine W.putFinK hexec hb hown (hts _ hlink) (by rw [href]; exact hi) hst hcf hin2 (by rw [q2]; exact h6) q1 q3 (by rw [hsl]; exact k2_hasslot (q4 k hk)) rfl rfl hdg fun H' e1 e2 e3 => ?_
  rw [hsl] at e1 ⊢
  refine kk H' _ ⟨?_, hJ.2.1.put e2 e3 (Nat.le_add_right B o), e2.trans hJ.2.2⟩
  rw [← wl_set ho]
  exact hJ.1.set wl_D he ⟨_, hc, t_OB.to (V := updV (vp_V fs) k v) ⟨_, e1, q2, q3, t_set q4 hap hk v⟩ (fun j _ => vp_updV_set hl v j)⟩ e3
theorem JL.push {s : State} {H H1 : Heap} {locs : List Loc} {e : va_E} (hJ : JL E B s n f H locs) (hB : B ≤ s.heap.size) (z : H1.size = H.size + 1) (oq : ∀ q, q < H.size → H1[q]? = H[q]?) (he : va_at E.1 vwCl (B + n, e) H1) : JL E B s (n + 1) (va_up f n e) H1 locs := by
  refine ⟨?_, ⟨by have := hJ.2.1.1; omega, fun q h1 h2 => (oq q (Nat.lt_of_lt_of_le h1 hJ.2.1.1)).trans (hJ.2.1.2.1 q h1 h2), hJ.2.1.2.2⟩, by have := hJ.2.2; omega⟩
  rw [← wl_push]
  refine va_P.app (hJ.1.kept (fun k x hx => oq x.1 ((hJ.1 k x hx).lt))) (fun k x hx => ?_)
  have hz : k < 1 := (List.getElem?_eq_some_iff.mp hx).1
  rw [show k = 0 by omega] at hx
  cases hx
  exact he
theorem rnew (X : Cx p s m args c cc nL own E B) (hJ : JL E B s n f H locs) {ci index : Nat} {fs : List Value} {C : String} {T : u_T} {N : Nat} {ty0 : Nat → FieldType} (hc : vwCl[ci]? = some (C, T, N)) (hin : ∀ w ∈ u_ws C T N, w ∈ TW) (hty : ∀ k, k < N → parseFieldDescriptor (T k).2.2.1 = some (ty0 k)) (hcl : Cond.classLink own index C ∈ TW) (hinst : Cond.instantiable C N ∈ TW) (hini : Cond.initialized C ∈ TW) (hfs : ∀ j, j < N → defaultValue (ty0 j) = vp_V fs j) (hcells : cells + 1 ≤ R.cells) (hslots : slots + N ≤ R.slots) (hdg : decode cc pc = .ok (.new index, 3))
    (kk : ∀ (H1 : Heap), JL E B s (n + 1) (va_up f n (.inr (ci, fs))) H1 locs → W p l e R s m args below meth c H1 locs (cells + 1) (slots + N) Q (F0 m (pc + 3) ls (.ref (B + n) :: rest))) : W p l e R s m args below meth c H locs cells slots Q (F0 m pc ls rest) := by
  have hts := X.2.2.2.2.1
  have hK := X.2.2.2.2.2.1
  have hKn := hK.1 ci _ hc
  refine W.newcK X.1 X.2.1 X.2.2.2.1 (hts _ hcl) (hts _ hinst) (hts _ hini) rfl hdg hcells hslots hKn.2.1 hJ.2.2 fun H1 kC hkC e1 z1 o1 => ?_
  refine kk H1 (hJ.push X.2.2.2.2.2.2.2.2 (by rw [hJ.2.2]; exact z1) (by rw [hJ.2.2]; exact o1) ⟨_, hc, (u_born ty0 hts hin hKn hkC e1 hty).to hfs⟩)
theorem rnewa (X : Cx p s m args c cc nL own E B) (hJ : JL E B s n f H locs) {atype : ArrayType} {t0 : Nat} {ty : FieldType} (harr : Cond.arrayClass (newarray.typeOf atype) ∈ TW) (hty : newarray.typeOf atype = ty) (ht : (tys E)[t0]? = some (E.2 t0, ty)) (hra : va_RA s (E.2 t0) ty → s.vm.findClass ("[" ++ ty.toString) = some (E.2 t0)) (hd0 : defaultValue ty = .int 0) {i : Int32} {N : Nat} (hi : i = nI N) (hN : N < 10000) (hcb : componentBytes ty ≤ 8) (hcells : cells + 1 ≤ R.cells) (hslots : slots + N ≤ R.slots) (hdg : decode cc pc = .ok (.newarray atype, 2))
    (kk : ∀ (H1 : Heap), JL E B s (n + 1) (va_up f n (.inl (E.2 t0, N, .inl (fun _ => 0)))) H1 locs → W p l e R s m args below meth c H1 locs (cells + 1) (slots + N) Q (F0 m (pc + 2) ls (.ref (B + n) :: rest))) : W p l e R s m args below meth c H locs cells slots Q (F0 m pc ls (.int i :: rest)) := by
  subst hi
  subst hty
  have hK := X.2.2.2.2.2.1
  refine va_newaK X.1 X.2.1 (X.2.2.2.2.1 _ harr) rfl hdg rfl (nI_pos (by omega)) (nI_clamp (by omega)) ?_ hcells hslots hJ.2.2 fun H1 cA e1 z1 o1 hAr hNm => ?_
  · have : N * componentBytes (newarray.typeOf atype) ≤ 10000 * 8 := Nat.mul_le_mul (by omega) hcb
    omega
  · have hc : cA = E.2 t0 := Option.some.inj (hNm.symm.trans (hra (hK.2 t0 _ ht).2))
    subst hc
    refine kk H1 (hJ.push X.2.2.2.2.2.2.2.2 (by rw [hJ.2.2]; exact z1) (by rw [hJ.2.2]; exact o1) ?_)
    show H1[B + n]? = some (vp_cell _ _)
    rw [e1, hd0, vp_cell_i]
theorem ranew (X : Cx p s m args c cc nL own E B) (hJ : JL E B s n f H locs) {C : String} {index t0 : Nat} (hcl : Cond.classLink own index C ∈ TW) (hao : va_AO C s) (ht : (tys E)[t0]? = some (E.2 t0, .object C)) {i : Int32} {N : Nat} (hi : i = nI N) (hN : N < 10000) (hcells : cells + 1 ≤ R.cells) (hslots : slots + N ≤ R.slots) (hdg : decode cc pc = .ok (.anewarray index, 3))
    (kk : ∀ (H1 : Heap), JL E B s (n + 1) (va_up f n (.inl (E.2 t0, N, .inr (.inr (.inr (.inr (fun _ => none))))))) H1 locs → W p l e R s m args below meth c H1 locs (cells + 1) (slots + N) Q (F0 m (pc + 3) ls (.ref (B + n) :: rest))) : W p l e R s m args below meth c H locs cells slots Q (F0 m pc ls (.int i :: rest)) := by
  subst hi
  have hK := X.2.2.2.2.2.1
  have hnc : (nI N).toNatClampNeg = N := nI_clamp (by omega)
  refine W.anew X.1 X.2.1 X.2.2.2.1 (X.2.2.2.2.1 _ hcl) (va_AO.use hao) rfl hdg rfl (nI_pos (by omega)) (by rw [hnc]; omega) hcells (by rw [hnc]; exact hslots) fun cA kA comp h1 h2 h3 h4 => ?_
  obtain ⟨kA', comp', g1, g2, g3, g4⟩ := (hK.2 t0 _ ht).2
  have hc : cA = E.2 t0 := Option.some.inj (h1.symm.trans g4)
  subst hc
  have hw := kk (H.push { cls := E.2 t0, slots := Array.replicate N .null, vm := .none }) (hJ.push X.2.2.2.2.2.2.2.2 (by simp) (fun q hq => by rw [Array.getElem?_push, if_neg (Nat.ne_of_lt hq)]) (by
    show _ = some (vp_cell _ _)
    rw [← hJ.2.2, Array.getElem?_push_size, vp_cell_q]
    exact congrArg some (arrV_new _ _ _)))
  rw [hnc, hJ.2.2]
  exact hw
theorem rastq (X : Cx p s m args c cc nL own E B) (hJ : JL E B s n f H locs) {o ov N t0 ci : Nat} {cA : ClassId} {r : vw_C} {vs : List Value} {a : Nat → Option Nat} (ht : (tys E)[t0]? = some (cA, .object r.1)) (hc : vwCl[ci]? = some r) (ho : o < n) (hf : f o = .inl (cA, N, .inr (.inr (.inr (.inr a))))) (hov : ov < n) (hfv : f ov = .inr (ci, vs)) {i : Int32} {j : Nat} (hi : i = nI j) (hj : j < N) (hN : N < 2 ^ 31) (hdg : decode cc pc = .ok (.aastore, 1))
    (kk : ∀ (H1 : Heap) (locs1 : List Loc), JL E B s n (va_up f o (.inl (cA, N, .inr (.inr (.inr (.inr (va_up a j (some (B + ov))))))))) H1 locs1 → W p l e R s m args below meth c H1 locs1 cells slots Q (F0 m (pc + 1) ls rest)) : W p l e R s m args below meth c H locs cells slots Q (F0 m pc ls (.ref (B + ov) :: .int i :: .ref (B + o) :: rest)) := by
  subst hi
  have hK := X.2.2.2.2.2.1
  have hin := vp_in_nI hj hN
  have ha : (wl B n f)[o]? = some (B + o, .inl (cA, N, .inr (.inr (.inr (.inr a))))) := by rw [wl_at ho, hf]
  have hv : (wl B n f)[ov]? = some (B + ov, .inr (ci, vs)) := by rw [wl_at hov, hfv]
  have hlt : (nI j).toNatClampNeg < N := Nat.not_le.mp fun q => hin (Or.inr q)
  have h0 : ¬ nI j < 0 := fun q => hin (Or.inl q)
  obtain ⟨r', hr', cellV, g1, g2, g3, -⟩ := hJ.1 ov _ hv
  have hcls := (hK.1 ci r hc).2
  obtain ⟨kA, comp, k1, k2, k3, -⟩ := (hK.2 t0 _ ht).2
  have hcomp : comp = E.1.1 ci := Option.some.inj (k3.symm.trans hcls.1)
  subst hcomp
  obtain ⟨kC, hkC, -⟩ := hcls.2
  refine W.aast X.1 X.2.1 (hJ.1 o _ ha) (fun q h => by cases h) (fun h => by cases h) k1 k2 rfl hkC ⟨h0, by show _ < (arrV _ _ _).slots.size; rw [arrV_size]; exact hlt⟩ g1 (fun q h => by rw [g3] at h; cases h) (by rw [g2]; exact hkC) (by rw [g2]; exact va_assign hcls) rfl rfl hdg fun H1 e z oq => ?_
  refine kk H1 _ ⟨?_, hJ.2.1.put z oq (Nat.le_add_right B o), z.trans hJ.2.2⟩
  rw [← wl_set ho]
  refine hJ.1.set wl_D ha ?_ oq
  show H1[B + o]? = some (vp_cell _ _)
  rw [e, nI_clamp (by omega), vp_cell_q, vp_cell_q, arrV_store]
  congr 2
  funext q
  by_cases hq : q = j
  · subst hq; simp [updV, va_up, va_rf]
  · simp [updV, va_up, hq]
theorem rcopy (X : Cx p s m args c cc nL own E B) (hJ : JL E B s n f H locs) (hml : nL = ls.size) {index o0 o1 N0 N1 : Nat} {a b : Row} (hlink : Cond.methodLink own index arraycopyName ∈ TW) (hnat : Cond.native arraycopyName ∈ TW) (hstat : Cond.static arraycopyName ∈ TW) (hini : Cond.initialized "java/lang/System" ∈ TW)
    (ho0 : o0 < n) (ho1 : o1 < n) (hf0 : f o0 = .inl (E.2 0, N0, .inl a)) (hf1 : f o1 = .inl (E.2 0, N1, .inl b)) {z k : Int32} {K : Nat} (hz : z = 0) (hk : k = nI K) (hK0 : K ≤ N0) (hK1 : K ≤ N1) (hKb : K < 2 ^ 31) (hframes : 1 ≤ R.frames) (hlocals : (rest.map fun v => v.category).sum + (nativeFrameWords "java/lang/System" "arraycopy" 5 + 11) ≤ R.locals) (hdg : decode cc pc = .ok (.invokestatic index, 3))
    (kk : ∀ (H1 : Heap) (locs1 : List Loc), JL E B s n (va_up f o1 (.inl (E.2 0, N1, .inl (va_cpy a b 0 0 K)))) H1 locs1 → W p l e R s m args below meth c H1 locs1 cells slots Q (F0 m (pc + 3) ls rest)) : W p l e R s m args below meth c H locs cells slots Q (F0 m pc ls (.int k :: .int z :: .ref (B + o1) :: .int z :: .ref (B + o0) :: rest)) := by
  subst hz
  subst hk
  have hts := X.2.2.2.2.1
  have hKv := X.2.2.2.2.2.1
  have hnc : (nI K).toNatClampNeg = K := nI_clamp hKb
  have hc0 : H[B + o0]? = some (vp_cell (E.2 0) (N0, .inl a)) := by have := hJ.1 o0 (B + o0, .inl (E.2 0, N0, .inl a)) (by rw [wl_at ho0, hf0]); exact this
  have he : (wl B n f)[o1]? = some (B + o1, .inl (E.2 0, N1, .inl b)) := by rw [wl_at ho1, hf1]
  have hc1 : H[B + o1]? = some (vp_cell (E.2 0) (N1, .inl b)) := hJ.1 o1 _ he
  obtain ⟨-, k0, hk0, cm0, hkk0⟩ := (hKv.2 0 _ rfl).1 N0 (fun j => .int (a j))
  obtain ⟨-, k1, hk1, cm1, hkk1⟩ := (hKv.2 0 _ rfl).1 N1 (fun j => .int (b j))
  intro T hT Xs
  have h3 : ¬ nI K < 0 := nI_pos hKb
  have hti : (nI K).toInt = (K : Int) := nI_toInt hKb
  obtain ⟨vm', X', step⟩ := Xs.arraycopy X.1 X.2.2.2.1 (hts _ hlink) (hts _ hnat) (hts _ hstat) (hts _ hini) (src := B + o0) (dst := B + o1) (cs := vp_cell (E.2 0) (N0, .inl a)) (cd := vp_cell (E.2 0) (N1, .inl b)) (srcPos := 0) (destPos := 0) (n := nI K) (by rw [hT]; exact hc0) (by rw [hT]; exact hc1)
    (fun _ h => by cases h) (fun _ h => by cases h) (fun h => by cases h) (fun h => by cases h) hk0 hk1 hkk0 hkk1 (by simp [refKind]) (by decide) (by decide) h3
    (by rw [hti]; show ¬ _ > ((arrV (E.2 0) N0 (fun j => .int (a j))).slots.size : Int); rw [arrV_size]; simp; omega)
    (by rw [hti]; show ¬ _ > ((arrV (E.2 0) N1 (fun j => .int (b j))).slots.size : Int); rw [arrV_size]; simp; omega)
    (fun vm₁ _ i hi => by
      rw [hnc] at hi
      have e : (vp_cell (E.2 0) (N0, .inl a)).slots.getD ((0 : Int32).toNatClampNeg + i) .null = .int (a ((0 : Int32).toNatClampNeg + i)) := by
        show (arrV (E.2 0) N0 (fun j => .int (a j))).slots.getD _ _ = _
        rw [Array.getD_eq_getD_getElem?, arrV_read _ _ (by show 0 + i < N0; omega)]
        rfl
      refine ⟨?_, ?_⟩
      · rw [e]; rfl
      · rw [e]; exact trivial)
    (g := F0 m pc ls (.int (nI K) :: .int 0 :: .ref (B + o1) :: .int 0 :: .ref (B + o0) :: rest)) rfl (by rw [X.2.2.1, hml]) (rest := rest) rfl (by rw [X.2.1]; exact hdg) hframes (by show 2 * 0 + _ + _ ≤ _; omega)
  have e1 : copied (vp_cell (E.2 0) (N0, .inl a)) (vp_cell (E.2 0) (N1, .inl b)) 0 0 (nI K) = vp_cell (E.2 0) (N1, .inl (va_cpy a b 0 0 K)) := by
    have h4 : (0 : Int32).toNatClampNeg + (nI K).toNatClampNeg ≤ N0 := by rw [hnc]; show 0 + K ≤ N0; omega
    have h6 : copied (vp_cell (E.2 0) (N0, .inl a)) (vp_cell (E.2 0) (N1, .inl b)) 0 0 (nI K) = vp_cell (E.2 0) (N1, .inl (va_cpy a b (0 : Int32).toNatClampNeg (0 : Int32).toNatClampNeg (nI K).toNatClampNeg)) := va_copied (fun z => .int z) (E.2 0) (E.2 0) a b h4
    rw [hnc] at h6
    exact h6
  rw [e1] at X' step
  have hl : B + o1 < H.size := (Array.getElem?_eq_some_iff.mp hc1).1
  have hheap : ((T.setVm vm').setCell (B + o1) (vp_cell (E.2 0) (N1, .inl (va_cpy a b 0 0 K)))).heap = H.setIfInBounds (B + o1) (vp_cell (E.2 0) (N1, .inl (va_cpy a b 0 0 K))) := by rw [← hT]; rfl
  have oq : ∀ q : Nat, q ≠ B + o1 → (H.setIfInBounds (B + o1) (vp_cell (E.2 0) (N1, .inl (va_cpy a b 0 0 K))))[q]? = H[q]? := fun q hq => by simp [Array.getElem?_setIfInBounds, Ne.symm hq]
  obtain ⟨t, a1, b1⟩ := kk _ _ ⟨by
      rw [← wl_set ho1]
      exact hJ.1.set wl_D he (show (H.setIfInBounds (B + o1) _)[B + o1]? = some _ by simp [Array.getElem?_setIfInBounds, hl]) oq, ⟨by simp; exact hJ.2.1.1, fun q g1 g2 => by
      rw [oq q (fun e => g2 (by rw [e]; exact Nat.le_add_right B o1))]
      exact hJ.2.1.2.1 q g1 g2, fun q hq => by
      rcases List.mem_append.mp hq with h | h
      · exact hJ.2.1.2.2 q h
      · obtain ⟨z, -, hz⟩ := List.mem_map.mp h
        rw [← hz]
        exact Nat.le_add_right B o1⟩, by simp; exact hJ.2.2⟩ _ hheap X'
  exact ⟨t, step t a1, b1⟩
end MR
end
