-- ===== PART A: goes FIRST, ahead of the names: the tables' words, and 'selects' of the private methods out of them =====
/-- a private method of a class that the tables say can be made, by its rows of tables_1 -/
def lw_okq (q : MethodName × Nat) : Prop := (q.1.cls ≠ "java/lang/invoke/MethodHandle" ∧ q.1.cls ≠ "java/lang/invoke/VarHandle") ∧ Cond.instantiable q.1.cls q.2 ∈ tables_1 ∧ Cond.privateMethod q.1 ∈ tables_1 ∧ Cond.instanceMethod q.1 ∈ tables_1
theorem lw_p0 : lw_okq (⟨"BridgeWardens", "recorded", "(I)I"⟩, 7) := ⟨⟨by decide +kernel, by decide +kernel⟩, List.mem_of_getElem? (i := 12) (by decide +kernel), List.mem_of_getElem? (i := 286) (by decide +kernel), List.mem_of_getElem? (i := 287) (by decide +kernel)⟩
theorem lw_p1 : lw_okq (⟨"BridgeWardens$World", "drawRiddle", "(LBridgeWardens$Bridge;)V"⟩, 11) := ⟨⟨by decide +kernel, by decide +kernel⟩, List.mem_of_getElem? (i := 20) (by decide +kernel), List.mem_of_getElem? (i := 305) (by decide +kernel), List.mem_of_getElem? (i := 306) (by decide +kernel)⟩
theorem lw_p2 : lw_okq (⟨"BridgeWardens$World", "release", "(LBridgeWardens$Cart;LBridgeWardens$Bridge;)V"⟩, 11) := ⟨⟨by decide +kernel, by decide +kernel⟩, List.mem_of_getElem? (i := 20) (by decide +kernel), List.mem_of_getElem? (i := 358) (by decide +kernel), List.mem_of_getElem? (i := 359) (by decide +kernel)⟩
theorem lw_p3 : lw_okq (⟨"BridgeWardens$World", "letOver", "(LBridgeWardens$Bridge;)I"⟩, 11) := ⟨⟨by decide +kernel, by decide +kernel⟩, List.mem_of_getElem? (i := 20) (by decide +kernel), List.mem_of_getElem? (i := 402) (by decide +kernel), List.mem_of_getElem? (i := 403) (by decide +kernel)⟩
theorem lw_p4 : lw_okq (⟨"BridgeWardens$World", "isTied", "(LBridgeWardens$Bridge;)Z"⟩, 11) := ⟨⟨by decide +kernel, by decide +kernel⟩, List.mem_of_getElem? (i := 20) (by decide +kernel), List.mem_of_getElem? (i := 406) (by decide +kernel), List.mem_of_getElem? (i := 407) (by decide +kernel)⟩
theorem lw_p5 : lw_okq (⟨"BridgeWardens$World", "payerOfTie", "(LBridgeWardens$Cart;LBridgeWardens$Cart;)LBridgeWardens$Cart;"⟩, 11) := ⟨⟨by decide +kernel, by decide +kernel⟩, List.mem_of_getElem? (i := 20) (by decide +kernel), List.mem_of_getElem? (i := 425) (by decide +kernel), List.mem_of_getElem? (i := 426) (by decide +kernel)⟩
theorem lw_p6 : lw_okq (⟨"BridgeWardens", "appendNote", "(LBridgeWardens$Cart;)V"⟩, 7) := ⟨⟨by decide +kernel, by decide +kernel⟩, List.mem_of_getElem? (i := 12) (by decide +kernel), List.mem_of_getElem? (i := 448) (by decide +kernel), List.mem_of_getElem? (i := 449) (by decide +kernel)⟩
theorem lw_p7 : lw_okq (⟨"BridgeWardens$World", "sumOverBridges", "(I)I"⟩, 11) := ⟨⟨by decide +kernel, by decide +kernel⟩, List.mem_of_getElem? (i := 20) (by decide +kernel), List.mem_of_getElem? (i := 515) (by decide +kernel), List.mem_of_getElem? (i := 516) (by decide +kernel)⟩
theorem lw_p8 : lw_okq (⟨"BridgeWardens$World", "withNeighbours", "(I)I"⟩, 11) := ⟨⟨by decide +kernel, by decide +kernel⟩, List.mem_of_getElem? (i := 20) (by decide +kernel), List.mem_of_getElem? (i := 568) (by decide +kernel), List.mem_of_getElem? (i := 569) (by decide +kernel)⟩
theorem lw_p9 : lw_okq (⟨"BridgeWardens$OrderReader", "readDigitPair", "()Z"⟩, 6) := ⟨⟨by decide +kernel, by decide +kernel⟩, List.mem_of_getElem? (i := 203) (by decide +kernel), List.mem_of_getElem? (i := 618) (by decide +kernel), List.mem_of_getElem? (i := 619) (by decide +kernel)⟩
theorem lw_p10 : lw_okq (⟨"BridgeWardens$OrderReader", "readDigit", "()Z"⟩, 6) := ⟨⟨by decide +kernel, by decide +kernel⟩, List.mem_of_getElem? (i := 203) (by decide +kernel), List.mem_of_getElem? (i := 622) (by decide +kernel), List.mem_of_getElem? (i := 623) (by decide +kernel)⟩
theorem lw_p11 : lw_okq (⟨"BridgeWardens$OrderReader", "nextDigit", "()I"⟩, 6) := ⟨⟨by decide +kernel, by decide +kernel⟩, List.mem_of_getElem? (i := 203) (by decide +kernel), List.mem_of_getElem? (i := 626) (by decide +kernel), List.mem_of_getElem? (i := 627) (by decide +kernel)⟩
theorem lw_p12 : lw_okq (⟨"BridgeWardens$OrderReader", "readThird", "()Z"⟩, 6) := ⟨⟨by decide +kernel, by decide +kernel⟩, List.mem_of_getElem? (i := 203) (by decide +kernel), List.mem_of_getElem? (i := 634) (by decide +kernel), List.mem_of_getElem? (i := 635) (by decide +kernel)⟩
theorem lw_p13 : lw_okq (⟨"BridgeWardens$OrderReader", "readNumber", "()I"⟩, 6) := ⟨⟨by decide +kernel, by decide +kernel⟩, List.mem_of_getElem? (i := 203) (by decide +kernel), List.mem_of_getElem? (i := 638) (by decide +kernel), List.mem_of_getElem? (i := 639) (by decide +kernel)⟩
theorem lw_p14 : lw_okq (⟨"BridgeWardens$OrderReader", "readSecond", "()Z"⟩, 6) := ⟨⟨by decide +kernel, by decide +kernel⟩, List.mem_of_getElem? (i := 203) (by decide +kernel), List.mem_of_getElem? (i := 642) (by decide +kernel), List.mem_of_getElem? (i := 643) (by decide +kernel)⟩
theorem lw_p15 : lw_okq (⟨"BridgeWardens", "obey", "()I"⟩, 7) := ⟨⟨by decide +kernel, by decide +kernel⟩, List.mem_of_getElem? (i := 12) (by decide +kernel), List.mem_of_getElem? (i := 652) (by decide +kernel), List.mem_of_getElem? (i := 653) (by decide +kernel)⟩
def lw_privs_1 : List (MethodName × Nat) := [(⟨"BridgeWardens", "recorded", "(I)I"⟩, 7), (⟨"BridgeWardens$World", "drawRiddle", "(LBridgeWardens$Bridge;)V"⟩, 11), (⟨"BridgeWardens$World", "release", "(LBridgeWardens$Cart;LBridgeWardens$Bridge;)V"⟩, 11), (⟨"BridgeWardens$World", "letOver", "(LBridgeWardens$Bridge;)I"⟩, 11), (⟨"BridgeWardens$World", "isTied", "(LBridgeWardens$Bridge;)Z"⟩, 11), (⟨"BridgeWardens$World", "payerOfTie", "(LBridgeWardens$Cart;LBridgeWardens$Cart;)LBridgeWardens$Cart;"⟩, 11), (⟨"BridgeWardens", "appendNote", "(LBridgeWardens$Cart;)V"⟩, 7), (⟨"BridgeWardens$World", "sumOverBridges", "(I)I"⟩, 11), (⟨"BridgeWardens$World", "withNeighbours", "(I)I"⟩, 11), (⟨"BridgeWardens$OrderReader", "readDigitPair", "()Z"⟩, 6), (⟨"BridgeWardens$OrderReader", "readDigit", "()Z"⟩, 6), (⟨"BridgeWardens$OrderReader", "nextDigit", "()I"⟩, 6), (⟨"BridgeWardens$OrderReader", "readThird", "()Z"⟩, 6), (⟨"BridgeWardens$OrderReader", "readNumber", "()I"⟩, 6), (⟨"BridgeWardens$OrderReader", "readSecond", "()Z"⟩, 6), (⟨"BridgeWardens", "obey", "()I"⟩, 7)]
theorem lw_r1 : ∀ q ∈ lw_privs_1, lw_okq q := List.forall_mem_cons.mpr ⟨lw_p0, List.forall_mem_cons.mpr ⟨lw_p1, List.forall_mem_cons.mpr ⟨lw_p2, List.forall_mem_cons.mpr ⟨lw_p3, List.forall_mem_cons.mpr ⟨lw_p4, List.forall_mem_cons.mpr ⟨lw_p5, List.forall_mem_cons.mpr ⟨lw_p6, List.forall_mem_cons.mpr ⟨lw_p7, List.forall_mem_cons.mpr ⟨lw_p8, List.forall_mem_cons.mpr ⟨lw_p9, List.forall_mem_cons.mpr ⟨lw_p10, List.forall_mem_cons.mpr ⟨lw_p11, List.forall_mem_cons.mpr ⟨lw_p12, List.forall_mem_cons.mpr ⟨lw_p13, List.forall_mem_cons.mpr ⟨lw_p14, List.forall_mem_cons.mpr ⟨lw_p15, fun _ h => absurd h List.not_mem_nil⟩⟩⟩⟩⟩⟩⟩⟩⟩⟩⟩⟩⟩⟩⟩⟩
theorem lw_p16 : lw_okq (⟨"BridgeWardensModel", "changes", "()V"⟩, 11) := ⟨⟨by decide +kernel, by decide +kernel⟩, List.mem_of_getElem? (i := 673) (by decide +kernel), List.mem_of_getElem? (i := 725) (by decide +kernel), List.mem_of_getElem? (i := 726) (by decide +kernel)⟩
theorem lw_p17 : lw_okq (⟨"BridgeWardensModel", "copies", "(II)V"⟩, 11) := ⟨⟨by decide +kernel, by decide +kernel⟩, List.mem_of_getElem? (i := 673) (by decide +kernel), List.mem_of_getElem? (i := 729) (by decide +kernel), List.mem_of_getElem? (i := 730) (by decide +kernel)⟩
theorem lw_p18 : lw_okq (⟨"BridgeWardensModel", "bridgeError", "(III)I"⟩, 11) := ⟨⟨by decide +kernel, by decide +kernel⟩, List.mem_of_getElem? (i := 673) (by decide +kernel), List.mem_of_getElem? (i := 737) (by decide +kernel), List.mem_of_getElem? (i := 738) (by decide +kernel)⟩
theorem lw_p19 : lw_okq (⟨"BridgeWardensModel", "builds", "(III)I"⟩, 11) := ⟨⟨by decide +kernel, by decide +kernel⟩, List.mem_of_getElem? (i := 673) (by decide +kernel), List.mem_of_getElem? (i := 747) (by decide +kernel), List.mem_of_getElem? (i := 748) (by decide +kernel)⟩
theorem lw_p20 : lw_okq (⟨"BridgeWardensModel", "draws", "(II)V"⟩, 11) := ⟨⟨by decide +kernel, by decide +kernel⟩, List.mem_of_getElem? (i := 673) (by decide +kernel), List.mem_of_getElem? (i := 754) (by decide +kernel), List.mem_of_getElem? (i := 755) (by decide +kernel)⟩
theorem lw_p21 : lw_okq (⟨"BridgeWardensModel", "cartError", "(II)I"⟩, 11) := ⟨⟨by decide +kernel, by decide +kernel⟩, List.mem_of_getElem? (i := 673) (by decide +kernel), List.mem_of_getElem? (i := 766) (by decide +kernel), List.mem_of_getElem? (i := 767) (by decide +kernel)⟩
theorem lw_p22 : lw_okq (⟨"BridgeWardensModel", "comes", "(II)I"⟩, 11) := ⟨⟨by decide +kernel, by decide +kernel⟩, List.mem_of_getElem? (i := 673) (by decide +kernel), List.mem_of_getElem? (i := 771) (by decide +kernel), List.mem_of_getElem? (i := 772) (by decide +kernel)⟩
theorem lw_p23 : lw_okq (⟨"BridgeWardensModel", "guessError", "(III)I"⟩, 11) := ⟨⟨by decide +kernel, by decide +kernel⟩, List.mem_of_getElem? (i := 673) (by decide +kernel), List.mem_of_getElem? (i := 782) (by decide +kernel), List.mem_of_getElem? (i := 783) (by decide +kernel)⟩
theorem lw_p24 : lw_okq (⟨"BridgeWardensModel", "isCart", "(I)Z"⟩, 11) := ⟨⟨by decide +kernel, by decide +kernel⟩, List.mem_of_getElem? (i := 673) (by decide +kernel), List.mem_of_getElem? (i := 786) (by decide +kernel), List.mem_of_getElem? (i := 787) (by decide +kernel)⟩
theorem lw_p25 : lw_okq (⟨"BridgeWardensModel", "isBridge", "(I)Z"⟩, 11) := ⟨⟨by decide +kernel, by decide +kernel⟩, List.mem_of_getElem? (i := 673) (by decide +kernel), List.mem_of_getElem? (i := 790) (by decide +kernel), List.mem_of_getElem? (i := 791) (by decide +kernel)⟩
theorem lw_p26 : lw_okq (⟨"BridgeWardensModel", "isNumber", "(II)Z"⟩, 11) := ⟨⟨by decide +kernel, by decide +kernel⟩, List.mem_of_getElem? (i := 673) (by decide +kernel), List.mem_of_getElem? (i := 794) (by decide +kernel), List.mem_of_getElem? (i := 795) (by decide +kernel)⟩
theorem lw_p27 : lw_okq (⟨"BridgeWardensModel", "isAt", "(III)Z"⟩, 11) := ⟨⟨by decide +kernel, by decide +kernel⟩, List.mem_of_getElem? (i := 673) (by decide +kernel), List.mem_of_getElem? (i := 798) (by decide +kernel), List.mem_of_getElem? (i := 799) (by decide +kernel)⟩
theorem lw_p28 : lw_okq (⟨"BridgeWardensModel", "guesses", "(III)I"⟩, 11) := ⟨⟨by decide +kernel, by decide +kernel⟩, List.mem_of_getElem? (i := 673) (by decide +kernel), List.mem_of_getElem? (i := 802) (by decide +kernel), List.mem_of_getElem? (i := 803) (by decide +kernel)⟩
theorem lw_p29 : lw_okq (⟨"BridgeWardensModel", "many", "(II)I"⟩, 11) := ⟨⟨by decide +kernel, by decide +kernel⟩, List.mem_of_getElem? (i := 673) (by decide +kernel), List.mem_of_getElem? (i := 806) (by decide +kernel), List.mem_of_getElem? (i := 807) (by decide +kernel)⟩
theorem lw_p30 : lw_okq (⟨"BridgeWardensModel", "leaveError", "(I)I"⟩, 11) := ⟨⟨by decide +kernel, by decide +kernel⟩, List.mem_of_getElem? (i := 673) (by decide +kernel), List.mem_of_getElem? (i := 814) (by decide +kernel), List.mem_of_getElem? (i := 815) (by decide +kernel)⟩
theorem lw_p31 : lw_okq (⟨"BridgeWardensModel", "leaves", "(I)I"⟩, 11) := ⟨⟨by decide +kernel, by decide +kernel⟩, List.mem_of_getElem? (i := 673) (by decide +kernel), List.mem_of_getElem? (i := 818) (by decide +kernel), List.mem_of_getElem? (i := 819) (by decide +kernel)⟩
def lw_privs_2 : List (MethodName × Nat) := [(⟨"BridgeWardensModel", "changes", "()V"⟩, 11), (⟨"BridgeWardensModel", "copies", "(II)V"⟩, 11), (⟨"BridgeWardensModel", "bridgeError", "(III)I"⟩, 11), (⟨"BridgeWardensModel", "builds", "(III)I"⟩, 11), (⟨"BridgeWardensModel", "draws", "(II)V"⟩, 11), (⟨"BridgeWardensModel", "cartError", "(II)I"⟩, 11), (⟨"BridgeWardensModel", "comes", "(II)I"⟩, 11), (⟨"BridgeWardensModel", "guessError", "(III)I"⟩, 11), (⟨"BridgeWardensModel", "isCart", "(I)Z"⟩, 11), (⟨"BridgeWardensModel", "isBridge", "(I)Z"⟩, 11), (⟨"BridgeWardensModel", "isNumber", "(II)Z"⟩, 11), (⟨"BridgeWardensModel", "isAt", "(III)Z"⟩, 11), (⟨"BridgeWardensModel", "guesses", "(III)I"⟩, 11), (⟨"BridgeWardensModel", "many", "(II)I"⟩, 11), (⟨"BridgeWardensModel", "leaveError", "(I)I"⟩, 11), (⟨"BridgeWardensModel", "leaves", "(I)I"⟩, 11)]
theorem lw_r2 : ∀ q ∈ lw_privs_2, lw_okq q := List.forall_mem_cons.mpr ⟨lw_p16, List.forall_mem_cons.mpr ⟨lw_p17, List.forall_mem_cons.mpr ⟨lw_p18, List.forall_mem_cons.mpr ⟨lw_p19, List.forall_mem_cons.mpr ⟨lw_p20, List.forall_mem_cons.mpr ⟨lw_p21, List.forall_mem_cons.mpr ⟨lw_p22, List.forall_mem_cons.mpr ⟨lw_p23, List.forall_mem_cons.mpr ⟨lw_p24, List.forall_mem_cons.mpr ⟨lw_p25, List.forall_mem_cons.mpr ⟨lw_p26, List.forall_mem_cons.mpr ⟨lw_p27, List.forall_mem_cons.mpr ⟨lw_p28, List.forall_mem_cons.mpr ⟨lw_p29, List.forall_mem_cons.mpr ⟨lw_p30, List.forall_mem_cons.mpr ⟨lw_p31, fun _ h => absurd h List.not_mem_nil⟩⟩⟩⟩⟩⟩⟩⟩⟩⟩⟩⟩⟩⟩⟩⟩
theorem lw_p32 : lw_okq (⟨"BridgeWardensModel", "stopsWaiting", "(II)V"⟩, 11) := ⟨⟨by decide +kernel, by decide +kernel⟩, List.mem_of_getElem? (i := 673) (by decide +kernel), List.mem_of_getElem? (i := 822) (by decide +kernel), List.mem_of_getElem? (i := 823) (by decide +kernel)⟩
theorem lw_p33 : lw_okq (⟨"BridgeWardensModel", "hintError", "(II)I"⟩, 11) := ⟨⟨by decide +kernel, by decide +kernel⟩, List.mem_of_getElem? (i := 673) (by decide +kernel), List.mem_of_getElem? (i := 830) (by decide +kernel), List.mem_of_getElem? (i := 831) (by decide +kernel)⟩
theorem lw_p34 : lw_okq (⟨"BridgeWardensModel", "hints", "(II)I"⟩, 11) := ⟨⟨by decide +kernel, by decide +kernel⟩, List.mem_of_getElem? (i := 673) (by decide +kernel), List.mem_of_getElem? (i := 834) (by decide +kernel), List.mem_of_getElem? (i := 835) (by decide +kernel)⟩
theorem lw_p35 : lw_okq (⟨"BridgeWardensModel", "pays", "(IIII)V"⟩, 11) := ⟨⟨by decide +kernel, by decide +kernel⟩, List.mem_of_getElem? (i := 673) (by decide +kernel), List.mem_of_getElem? (i := 838) (by decide +kernel), List.mem_of_getElem? (i := 839) (by decide +kernel)⟩
theorem lw_p36 : lw_okq (⟨"BridgeWardensModel", "passError", "(I)I"⟩, 11) := ⟨⟨by decide +kernel, by decide +kernel⟩, List.mem_of_getElem? (i := 673) (by decide +kernel), List.mem_of_getElem? (i := 846) (by decide +kernel), List.mem_of_getElem? (i := 847) (by decide +kernel)⟩
theorem lw_p37 : lw_okq (⟨"BridgeWardensModel", "hours", "(II)I"⟩, 11) := ⟨⟨by decide +kernel, by decide +kernel⟩, List.mem_of_getElem? (i := 673) (by decide +kernel), List.mem_of_getElem? (i := 851) (by decide +kernel), List.mem_of_getElem? (i := 852) (by decide +kernel)⟩
theorem lw_p38 : lw_okq (⟨"BridgeWardensModel", "hour", "(I)I"⟩, 11) := ⟨⟨by decide +kernel, by decide +kernel⟩, List.mem_of_getElem? (i := 673) (by decide +kernel), List.mem_of_getElem? (i := 855) (by decide +kernel), List.mem_of_getElem? (i := 856) (by decide +kernel)⟩
theorem lw_p39 : lw_okq (⟨"BridgeWardensModel", "opens", "(II)Z"⟩, 11) := ⟨⟨by decide +kernel, by decide +kernel⟩, List.mem_of_getElem? (i := 673) (by decide +kernel), List.mem_of_getElem? (i := 859) (by decide +kernel), List.mem_of_getElem? (i := 860) (by decide +kernel)⟩
theorem lw_p40 : lw_okq (⟨"BridgeWardensModel", "areAsNear", "(II)Z"⟩, 11) := ⟨⟨by decide +kernel, by decide +kernel⟩, List.mem_of_getElem? (i := 673) (by decide +kernel), List.mem_of_getElem? (i := 863) (by decide +kernel), List.mem_of_getElem? (i := 864) (by decide +kernel)⟩
theorem lw_p41 : lw_okq (⟨"BridgeWardensModel", "waiter", "(III)I"⟩, 11) := ⟨⟨by decide +kernel, by decide +kernel⟩, List.mem_of_getElem? (i := 673) (by decide +kernel), List.mem_of_getElem? (i := 867) (by decide +kernel), List.mem_of_getElem? (i := 868) (by decide +kernel)⟩
theorem lw_p42 : lw_okq (⟨"BridgeWardensModel", "far", "(II)I"⟩, 11) := ⟨⟨by decide +kernel, by decide +kernel⟩, List.mem_of_getElem? (i := 673) (by decide +kernel), List.mem_of_getElem? (i := 871) (by decide +kernel), List.mem_of_getElem? (i := 872) (by decide +kernel)⟩
theorem lw_p43 : lw_okq (⟨"BridgeWardensModel", "comer", "(II)I"⟩, 11) := ⟨⟨by decide +kernel, by decide +kernel⟩, List.mem_of_getElem? (i := 673) (by decide +kernel), List.mem_of_getElem? (i := 878) (by decide +kernel), List.mem_of_getElem? (i := 879) (by decide +kernel)⟩
theorem lw_p44 : lw_okq (⟨"BridgeWardensModel", "types", "(I)V"⟩, 11) := ⟨⟨by decide +kernel, by decide +kernel⟩, List.mem_of_getElem? (i := 673) (by decide +kernel), List.mem_of_getElem? (i := 886) (by decide +kernel), List.mem_of_getElem? (i := 887) (by decide +kernel)⟩
theorem lw_p45 : lw_okq (⟨"BridgeWardensModel", "typesNumber", "(I)V"⟩, 11) := ⟨⟨by decide +kernel, by decide +kernel⟩, List.mem_of_getElem? (i := 673) (by decide +kernel), List.mem_of_getElem? (i := 890) (by decide +kernel), List.mem_of_getElem? (i := 891) (by decide +kernel)⟩
theorem lw_p46 : lw_okq (⟨"BridgeWardensModel", "waitingSet", "(I)I"⟩, 11) := ⟨⟨by decide +kernel, by decide +kernel⟩, List.mem_of_getElem? (i := 673) (by decide +kernel), List.mem_of_getElem? (i := 919) (by decide +kernel), List.mem_of_getElem? (i := 920) (by decide +kernel)⟩
theorem lw_p47 : lw_okq (⟨"BridgeWardensModel", "ofCarts", "(II)I"⟩, 11) := ⟨⟨by decide +kernel, by decide +kernel⟩, List.mem_of_getElem? (i := 673) (by decide +kernel), List.mem_of_getElem? (i := 923) (by decide +kernel), List.mem_of_getElem? (i := 924) (by decide +kernel)⟩
def lw_privs_3 : List (MethodName × Nat) := [(⟨"BridgeWardensModel", "stopsWaiting", "(II)V"⟩, 11), (⟨"BridgeWardensModel", "hintError", "(II)I"⟩, 11), (⟨"BridgeWardensModel", "hints", "(II)I"⟩, 11), (⟨"BridgeWardensModel", "pays", "(IIII)V"⟩, 11), (⟨"BridgeWardensModel", "passError", "(I)I"⟩, 11), (⟨"BridgeWardensModel", "hours", "(II)I"⟩, 11), (⟨"BridgeWardensModel", "hour", "(I)I"⟩, 11), (⟨"BridgeWardensModel", "opens", "(II)Z"⟩, 11), (⟨"BridgeWardensModel", "areAsNear", "(II)Z"⟩, 11), (⟨"BridgeWardensModel", "waiter", "(III)I"⟩, 11), (⟨"BridgeWardensModel", "far", "(II)I"⟩, 11), (⟨"BridgeWardensModel", "comer", "(II)I"⟩, 11), (⟨"BridgeWardensModel", "types", "(I)V"⟩, 11), (⟨"BridgeWardensModel", "typesNumber", "(I)V"⟩, 11), (⟨"BridgeWardensModel", "waitingSet", "(I)I"⟩, 11), (⟨"BridgeWardensModel", "ofCarts", "(II)I"⟩, 11)]
theorem lw_r3 : ∀ q ∈ lw_privs_3, lw_okq q := List.forall_mem_cons.mpr ⟨lw_p32, List.forall_mem_cons.mpr ⟨lw_p33, List.forall_mem_cons.mpr ⟨lw_p34, List.forall_mem_cons.mpr ⟨lw_p35, List.forall_mem_cons.mpr ⟨lw_p36, List.forall_mem_cons.mpr ⟨lw_p37, List.forall_mem_cons.mpr ⟨lw_p38, List.forall_mem_cons.mpr ⟨lw_p39, List.forall_mem_cons.mpr ⟨lw_p40, List.forall_mem_cons.mpr ⟨lw_p41, List.forall_mem_cons.mpr ⟨lw_p42, List.forall_mem_cons.mpr ⟨lw_p43, List.forall_mem_cons.mpr ⟨lw_p44, List.forall_mem_cons.mpr ⟨lw_p45, List.forall_mem_cons.mpr ⟨lw_p46, List.forall_mem_cons.mpr ⟨lw_p47, fun _ h => absurd h List.not_mem_nil⟩⟩⟩⟩⟩⟩⟩⟩⟩⟩⟩⟩⟩⟩⟩⟩
theorem lw_p48 : lw_okq (⟨"BridgeWardensModel", "inTills", "()I"⟩, 11) := ⟨⟨by decide +kernel, by decide +kernel⟩, List.mem_of_getElem? (i := 673) (by decide +kernel), List.mem_of_getElem? (i := 927) (by decide +kernel), List.mem_of_getElem? (i := 928) (by decide +kernel)⟩
theorem lw_p49 : lw_okq (⟨"BridgeWardensModel", "measures", "(I)V"⟩, 11) := ⟨⟨by decide +kernel, by decide +kernel⟩, List.mem_of_getElem? (i := 673) (by decide +kernel), List.mem_of_getElem? (i := 958) (by decide +kernel), List.mem_of_getElem? (i := 959) (by decide +kernel)⟩
theorem lw_p50 : lw_okq (⟨"BridgeWardensModel", "firstBridge", "(I)I"⟩, 11) := ⟨⟨by decide +kernel, by decide +kernel⟩, List.mem_of_getElem? (i := 673) (by decide +kernel), List.mem_of_getElem? (i := 962) (by decide +kernel), List.mem_of_getElem? (i := 963) (by decide +kernel)⟩
theorem lw_p51 : lw_okq (⟨"BridgeWardensModel", "readsOrder", "()Z"⟩, 11) := ⟨⟨by decide +kernel, by decide +kernel⟩, List.mem_of_getElem? (i := 673) (by decide +kernel), List.mem_of_getElem? (i := 989) (by decide +kernel), List.mem_of_getElem? (i := 990) (by decide +kernel)⟩
theorem lw_p52 : lw_okq (⟨"BridgeWardensModel", "readsOne", "()Z"⟩, 11) := ⟨⟨by decide +kernel, by decide +kernel⟩, List.mem_of_getElem? (i := 673) (by decide +kernel), List.mem_of_getElem? (i := 993) (by decide +kernel), List.mem_of_getElem? (i := 994) (by decide +kernel)⟩
theorem lw_p53 : lw_okq (⟨"BridgeWardensModel", "digit", "()I"⟩, 11) := ⟨⟨by decide +kernel, by decide +kernel⟩, List.mem_of_getElem? (i := 673) (by decide +kernel), List.mem_of_getElem? (i := 997) (by decide +kernel), List.mem_of_getElem? (i := 998) (by decide +kernel)⟩
theorem lw_p54 : lw_okq (⟨"BridgeWardensModel", "isHere", "(II)Z"⟩, 11) := ⟨⟨by decide +kernel, by decide +kernel⟩, List.mem_of_getElem? (i := 673) (by decide +kernel), List.mem_of_getElem? (i := 1001) (by decide +kernel), List.mem_of_getElem? (i := 1002) (by decide +kernel)⟩
theorem lw_p55 : lw_okq (⟨"BridgeWardensModel", "readsTwo", "(Z)Z"⟩, 11) := ⟨⟨by decide +kernel, by decide +kernel⟩, List.mem_of_getElem? (i := 673) (by decide +kernel), List.mem_of_getElem? (i := 1005) (by decide +kernel), List.mem_of_getElem? (i := 1006) (by decide +kernel)⟩
theorem lw_p56 : lw_okq (⟨"BridgeWardensModel", "number", "()I"⟩, 11) := ⟨⟨by decide +kernel, by decide +kernel⟩, List.mem_of_getElem? (i := 673) (by decide +kernel), List.mem_of_getElem? (i := 1009) (by decide +kernel), List.mem_of_getElem? (i := 1010) (by decide +kernel)⟩
theorem lw_p57 : lw_okq (⟨"BridgeWardensModel", "takes", "(I)Z"⟩, 11) := ⟨⟨by decide +kernel, by decide +kernel⟩, List.mem_of_getElem? (i := 673) (by decide +kernel), List.mem_of_getElem? (i := 1014) (by decide +kernel), List.mem_of_getElem? (i := 1015) (by decide +kernel)⟩
theorem lw_p58 : lw_okq (⟨"BridgeWardensModel", "readsThree", "()Z"⟩, 11) := ⟨⟨by decide +kernel, by decide +kernel⟩, List.mem_of_getElem? (i := 673) (by decide +kernel), List.mem_of_getElem? (i := 1018) (by decide +kernel), List.mem_of_getElem? (i := 1019) (by decide +kernel)⟩
theorem lw_p59 : lw_okq (⟨"BridgeWardensModel", "orderError", "()I"⟩, 11) := ⟨⟨by decide +kernel, by decide +kernel⟩, List.mem_of_getElem? (i := 673) (by decide +kernel), List.mem_of_getElem? (i := 1027) (by decide +kernel), List.mem_of_getElem? (i := 1028) (by decide +kernel)⟩
theorem lw_p60 : lw_okq (⟨"BridgeWardensModel", "does", "()I"⟩, 11) := ⟨⟨by decide +kernel, by decide +kernel⟩, List.mem_of_getElem? (i := 673) (by decide +kernel), List.mem_of_getElem? (i := 1031) (by decide +kernel), List.mem_of_getElem? (i := 1032) (by decide +kernel)⟩
def lw_privs_4 : List (MethodName × Nat) := [(⟨"BridgeWardensModel", "inTills", "()I"⟩, 11), (⟨"BridgeWardensModel", "measures", "(I)V"⟩, 11), (⟨"BridgeWardensModel", "firstBridge", "(I)I"⟩, 11), (⟨"BridgeWardensModel", "readsOrder", "()Z"⟩, 11), (⟨"BridgeWardensModel", "readsOne", "()Z"⟩, 11), (⟨"BridgeWardensModel", "digit", "()I"⟩, 11), (⟨"BridgeWardensModel", "isHere", "(II)Z"⟩, 11), (⟨"BridgeWardensModel", "readsTwo", "(Z)Z"⟩, 11), (⟨"BridgeWardensModel", "number", "()I"⟩, 11), (⟨"BridgeWardensModel", "takes", "(I)Z"⟩, 11), (⟨"BridgeWardensModel", "readsThree", "()Z"⟩, 11), (⟨"BridgeWardensModel", "orderError", "()I"⟩, 11), (⟨"BridgeWardensModel", "does", "()I"⟩, 11)]
theorem lw_r4 : ∀ q ∈ lw_privs_4, lw_okq q := List.forall_mem_cons.mpr ⟨lw_p48, List.forall_mem_cons.mpr ⟨lw_p49, List.forall_mem_cons.mpr ⟨lw_p50, List.forall_mem_cons.mpr ⟨lw_p51, List.forall_mem_cons.mpr ⟨lw_p52, List.forall_mem_cons.mpr ⟨lw_p53, List.forall_mem_cons.mpr ⟨lw_p54, List.forall_mem_cons.mpr ⟨lw_p55, List.forall_mem_cons.mpr ⟨lw_p56, List.forall_mem_cons.mpr ⟨lw_p57, List.forall_mem_cons.mpr ⟨lw_p58, List.forall_mem_cons.mpr ⟨lw_p59, List.forall_mem_cons.mpr ⟨lw_p60, fun _ h => absurd h List.not_mem_nil⟩⟩⟩⟩⟩⟩⟩⟩⟩⟩⟩⟩⟩
def lw_privs : List (MethodName × Nat) := lw_privs_1 ++ (lw_privs_2 ++ (lw_privs_3 ++ (lw_privs_4)))
def lw_tbl : List Cond := k2_sels lw_privs ++ tables_1
theorem lw_privs_ok : ∀ q ∈ lw_privs, lw_okq q := by
  show ∀ q ∈ lw_privs_1 ++ (lw_privs_2 ++ (lw_privs_3 ++ (lw_privs_4))), lw_okq q
  exact List.forall_mem_append.mpr ⟨lw_r1, List.forall_mem_append.mpr ⟨lw_r2, List.forall_mem_append.mpr ⟨lw_r3, lw_r4⟩⟩⟩
def RX0 : String := "BridgeWardens$Bridge"
def TX0 : u_T := fun k => match k with
  | 0 => ("BridgeWardens$Bridge", "number", "I", true)
  | 1 => ("BridgeWardens$Bridge", "town", "I", false)
  | 2 => ("BridgeWardens$Bridge", "other", "I", false)
  | 3 => ("BridgeWardens$Bridge", "size", "I", false)
  | 4 => ("BridgeWardens$Bridge", "riddle", "I", false)
  | 5 => ("BridgeWardens$Bridge", "waiting", "I", false)
  | 6 => ("BridgeWardens$Bridge", "till", "I", false)
  | 7 => ("BridgeWardens$Bridge", "crossings", "I", false)
  | _ => ("BridgeWardens$Bridge", "ties", "I", false)
def tyX0 : Nat → FieldType := fun k => match k with
  | 0 => .int
  | 1 => .int
  | 2 => .int
  | 3 => .int
  | 4 => .int
  | 5 => .int
  | 6 => .int
  | 7 => .int
  | _ => .int
abbrev wsX00 : List Cond := u_ws RX0 TX0 9
theorem nmX0 : ∀ a, a < 9 → ∀ b, b < 9 → a ≠ b → (TX0 a).2.1 ≠ (TX0 b).2.1 := by decide +kernel
theorem tyX0_ok : ∀ k, k < 9 → parseFieldDescriptor (TX0 k).2.2.1 = some (tyX0 k) := by decide +kernel
abbrev cX0_init : ByteArray := prog_2_method_1_code
def yX0_init : MethodName := ⟨RX0, "<init>", "(I)V"⟩
abbrev cX0_copyFrom : ByteArray := prog_2_method_2_code
def yX0_copyFrom : MethodName := ⟨RX0, "copyFrom", "(LBridgeWardens$Bridge;)V"⟩
abbrev cX0_part : ByteArray := prog_2_method_3_code
def yX0_part : MethodName := ⟨RX0, "part", "(I)I"⟩
abbrev cX0_isAt : ByteArray := prog_2_method_4_code
def yX0_isAt : MethodName := ⟨RX0, "isAt", "(I)Z"⟩
abbrev cX0_farFrom : ByteArray := prog_2_method_5_code
def yX0_farFrom : MethodName := ⟨RX0, "farFrom", "(I)I"⟩
abbrev cX0_endsSet : ByteArray := prog_2_method_6_code
def yX0_endsSet : MethodName := ⟨RX0, "endsSet", "()I"⟩
abbrev cX0_distance : ByteArray := prog_2_method_7_code
def yX0_distance : MethodName := ⟨RX0, "distance", "(I)I"⟩
abbrev cX0_takeRiddle : ByteArray := prog_2_method_8_code
def yX0_takeRiddle : MethodName := ⟨RX0, "takeRiddle", "(I)V"⟩
def RX1 : String := "BridgeWardens$Cart"
def TX1 : u_T := fun k => match k with
  | 0 => ("BridgeWardens$Cart", "number", "I", true)
  | 1 => ("BridgeWardens$Cart", "town", "I", false)
  | 2 => ("BridgeWardens$Cart", "coins", "I", false)
  | 3 => ("BridgeWardens$Cart", "bridge", "I", false)
  | 4 => ("BridgeWardens$Cart", "guess", "I", false)
  | 5 => ("BridgeWardens$Cart", "waited", "I", false)
  | 6 => ("BridgeWardens$Cart", "crossings", "I", false)
  | 7 => ("BridgeWardens$Cart", "paid", "I", false)
  | 8 => ("BridgeWardens$Cart", "gifts", "I", false)
  | 9 => ("BridgeWardens$Cart", "lowerEnds", "[I", true)
  | _ => ("BridgeWardens$Cart", "upperEnds", "[I", true)
def tyX1 : Nat → FieldType := fun k => match k with
  | 0 => .int
  | 1 => .int
  | 2 => .int
  | 3 => .int
  | 4 => .int
  | 5 => .int
  | 6 => .int
  | 7 => .int
  | 8 => .int
  | 9 => .array .int
  | _ => .array .int
abbrev wsX10 : List Cond := u_ws RX1 TX1 11
theorem nmX1 : ∀ a, a < 11 → ∀ b, b < 11 → a ≠ b → (TX1 a).2.1 ≠ (TX1 b).2.1 := by decide +kernel
theorem tyX1_ok : ∀ k, k < 11 → parseFieldDescriptor (TX1 k).2.2.1 = some (tyX1 k) := by decide +kernel
abbrev cX1_init : ByteArray := prog_3_method_1_code
def yX1_init : MethodName := ⟨RX1, "<init>", "(I)V"⟩
abbrev cX1_copyFrom : ByteArray := prog_3_method_2_code
def yX1_copyFrom : MethodName := ⟨RX1, "copyFrom", "(LBridgeWardens$Cart;)V"⟩
abbrev cX1_part : ByteArray := prog_3_method_3_code
def yX1_part : MethodName := ⟨RX1, "part", "(I)I"⟩
abbrev cX1_isWaiting : ByteArray := prog_3_method_4_code
def yX1_isWaiting : MethodName := ⟨RX1, "isWaiting", "()Z"⟩
abbrev cX1_lowest : ByteArray := prog_3_method_5_code
def yX1_lowest : MethodName := ⟨RX1, "lowest", "(LBridgeWardens$Bridge;)I"⟩
abbrev cX1_highest : ByteArray := prog_3_method_6_code
def yX1_highest : MethodName := ⟨RX1, "highest", "(LBridgeWardens$Bridge;)I"⟩
abbrev cX1_numbersLeft : ByteArray := prog_3_method_7_code
def yX1_numbersLeft : MethodName := ⟨RX1, "numbersLeft", "(LBridgeWardens$Bridge;)I"⟩
abbrev cX1_forget : ByteArray := prog_3_method_8_code
def yX1_forget : MethodName := ⟨RX1, "forget", "(LBridgeWardens$Bridge;)V"⟩
abbrev cX1_halve : ByteArray := prog_3_method_9_code
def yX1_halve : MethodName := ⟨RX1, "halve", "(LBridgeWardens$Bridge;)V"⟩
abbrev cX1_numbersNearer : ByteArray := prog_3_method_10_code
def yX1_numbersNearer : MethodName := ⟨RX1, "numbersNearer", "(LBridgeWardens$Bridge;II)I"⟩
abbrev cX1_pay : ByteArray := prog_3_method_11_code
def yX1_pay : MethodName := ⟨RX1, "pay", "(ILBridgeWardens$Bridge;)V"⟩
abbrev cX1_takeGift : ByteArray := prog_3_method_12_code
def yX1_takeGift : MethodName := ⟨RX1, "takeGift", "(ILBridgeWardens$Bridge;)V"⟩
def RX2 : String := "BridgeWardens$History"
def TX2 : u_T := fun k => match k with
  | 0 => ("BridgeWardens$History", "states", "[LBridgeWardens$World;", true)
  | 1 => ("BridgeWardens$History", "spare", "I", false)
  | _ => ("BridgeWardens$History", "undoable", "I", false)
def tyX2 : Nat → FieldType := fun k => match k with
  | 0 => .array (.object "BridgeWardens$World")
  | 1 => .int
  | _ => .int
abbrev wsX20 : List Cond := u_ws RX2 TX2 3
theorem nmX2 : ∀ a, a < 3 → ∀ b, b < 3 → a ≠ b → (TX2 a).2.1 ≠ (TX2 b).2.1 := by decide +kernel
theorem tyX2_ok : ∀ k, k < 3 → parseFieldDescriptor (TX2 k).2.2.1 = some (tyX2 k) := by decide +kernel
abbrev cX2_init : ByteArray := prog_4_method_1_code
def yX2_init : MethodName := ⟨RX2, "<init>", "()V"⟩
abbrev cX2_note : ByteArray := prog_4_method_2_code
def yX2_note : MethodName := ⟨RX2, "note", "(LBridgeWardens$World;)V"⟩
abbrev cX2_keepNoted : ByteArray := prog_4_method_3_code
def yX2_keepNoted : MethodName := ⟨RX2, "keepNoted", "()V"⟩
abbrev cX2_takeBack : ByteArray := prog_4_method_4_code
def yX2_takeBack : MethodName := ⟨RX2, "takeBack", "(LBridgeWardens$World;)V"⟩
def RX3 : String := "BridgeWardens$OrderReader"
def TX3 : u_T := fun k => match k with
  | 0 => ("BridgeWardens$OrderReader", "pad", "LBridgeWardens$Pad;", true)
  | 1 => ("BridgeWardens$OrderReader", "place", "I", false)
  | 2 => ("BridgeWardens$OrderReader", "kind", "I", false)
  | 3 => ("BridgeWardens$OrderReader", "first", "I", false)
  | 4 => ("BridgeWardens$OrderReader", "second", "I", false)
  | _ => ("BridgeWardens$OrderReader", "third", "I", false)
def tyX3 : Nat → FieldType := fun k => match k with
  | 0 => .object "BridgeWardens$Pad"
  | 1 => .int
  | 2 => .int
  | 3 => .int
  | 4 => .int
  | _ => .int
abbrev wsX30 : List Cond := u_ws RX3 TX3 6
theorem nmX3 : ∀ a, a < 6 → ∀ b, b < 6 → a ≠ b → (TX3 a).2.1 ≠ (TX3 b).2.1 := by decide +kernel
theorem tyX3_ok : ∀ k, k < 6 → parseFieldDescriptor (TX3 k).2.2.1 = some (tyX3 k) := by decide +kernel
abbrev cX3_init : ByteArray := prog_5_method_1_code
def yX3_init : MethodName := ⟨RX3, "<init>", "(LBridgeWardens$Pad;)V"⟩
abbrev cX3_goToStart : ByteArray := prog_5_method_2_code
def yX3_goToStart : MethodName := ⟨RX3, "goToStart", "()V"⟩
abbrev cX3_faultPlace : ByteArray := prog_5_method_3_code
def yX3_faultPlace : MethodName := ⟨RX3, "faultPlace", "()I"⟩
abbrev cX3_readOrder : ByteArray := prog_5_method_4_code
def yX3_readOrder : MethodName := ⟨RX3, "readOrder", "()Z"⟩
abbrev cX3_readSign : ByteArray := prog_5_method_5_code
def yX3_readSign : MethodName := ⟨RX3, "readSign", "(I)Z"⟩
abbrev cX3_isKind : ByteArray := prog_5_method_6_code
def yX3_isKind : MethodName := ⟨RX3, "isKind", "(I)Z"⟩
abbrev cX3_readDigit : ByteArray := prog_5_method_7_code
def yX3_readDigit : MethodName := ⟨RX3, "readDigit", "()Z"⟩
abbrev cX3_readDigitPair : ByteArray := prog_5_method_8_code
def yX3_readDigitPair : MethodName := ⟨RX3, "readDigitPair", "()Z"⟩
abbrev cX3_readSecond : ByteArray := prog_5_method_9_code
def yX3_readSecond : MethodName := ⟨RX3, "readSecond", "()Z"⟩
abbrev cX3_readThird : ByteArray := prog_5_method_10_code
def yX3_readThird : MethodName := ⟨RX3, "readThird", "()Z"⟩
abbrev cX3_readNumber : ByteArray := prog_5_method_11_code
def yX3_readNumber : MethodName := ⟨RX3, "readNumber", "()I"⟩
abbrev cX3_nextDigit : ByteArray := prog_5_method_12_code
def yX3_nextDigit : MethodName := ⟨RX3, "nextDigit", "()I"⟩
def RX4 : String := "BridgeWardens$Pad"
def TX4 : u_T := fun k => match k with
  | 0 => ("BridgeWardens$Pad", "codes", "[I", true)
  | _ => ("BridgeWardens$Pad", "length", "I", false)
def tyX4 : Nat → FieldType := fun k => match k with
  | 0 => .array .int
  | _ => .int
abbrev wsX40 : List Cond := u_ws RX4 TX4 2
theorem nmX4 : ∀ a, a < 2 → ∀ b, b < 2 → a ≠ b → (TX4 a).2.1 ≠ (TX4 b).2.1 := by decide +kernel
theorem tyX4_ok : ∀ k, k < 2 → parseFieldDescriptor (TX4 k).2.2.1 = some (tyX4 k) := by decide +kernel
abbrev cX4_init : ByteArray := prog_6_method_1_code
def yX4_init : MethodName := ⟨RX4, "<init>", "()V"⟩
abbrev cX4_clear : ByteArray := prog_6_method_2_code
def yX4_clear : MethodName := ⟨RX4, "clear", "()V"⟩
abbrev cX4_codeAt : ByteArray := prog_6_method_3_code
def yX4_codeAt : MethodName := ⟨RX4, "codeAt", "(I)I"⟩
abbrev cX4_append : ByteArray := prog_6_method_4_code
def yX4_append : MethodName := ⟨RX4, "append", "(I)V"⟩
abbrev cX4_appendNumber : ByteArray := prog_6_method_5_code
def yX4_appendNumber : MethodName := ⟨RX4, "appendNumber", "(I)V"⟩
def RX5 : String := "BridgeWardens$World"
def TX5 : u_T := fun k => match k with
  | 0 => ("BridgeWardens$World", "settings", "[I", true)
  | 1 => ("BridgeWardens$World", "bridges", "[LBridgeWardens$Bridge;", true)
  | 2 => ("BridgeWardens$World", "carts", "[LBridgeWardens$Cart;", true)
  | 3 => ("BridgeWardens$World", "line", "[I", true)
  | 4 => ("BridgeWardens$World", "lineLength", "I", false)
  | 5 => ("BridgeWardens$World", "bridgeCount", "I", false)
  | 6 => ("BridgeWardens$World", "cartCount", "I", false)
  | 7 => ("BridgeWardens$World", "seed", "I", false)
  | 8 => ("BridgeWardens$World", "hours", "I", false)
  | 9 => ("BridgeWardens$World", "coinsBrought", "I", false)
  | _ => ("BridgeWardens$World", "hints", "I", false)
def tyX5 : Nat → FieldType := fun k => match k with
  | 0 => .array .int
  | 1 => .array (.object "BridgeWardens$Bridge")
  | 2 => .array (.object "BridgeWardens$Cart")
  | 3 => .array .int
  | 4 => .int
  | 5 => .int
  | 6 => .int
  | 7 => .int
  | 8 => .int
  | 9 => .int
  | _ => .int
abbrev wsX50 : List Cond := u_ws RX5 TX5 11
theorem nmX5 : ∀ a, a < 11 → ∀ b, b < 11 → a ≠ b → (TX5 a).2.1 ≠ (TX5 b).2.1 := by decide +kernel
theorem tyX5_ok : ∀ k, k < 11 → parseFieldDescriptor (TX5 k).2.2.1 = some (tyX5 k) := by decide +kernel
abbrev cX5_init : ByteArray := prog_7_method_1_code
def yX5_init : MethodName := ⟨RX5, "<init>", "()V"⟩
abbrev cX5_copyFrom : ByteArray := prog_7_method_2_code
def yX5_copyFrom : MethodName := ⟨RX5, "copyFrom", "(LBridgeWardens$World;)V"⟩
abbrev cX5_bridgeOf : ByteArray := prog_7_method_3_code
def yX5_bridgeOf : MethodName := ⟨RX5, "bridgeOf", "(I)LBridgeWardens$Bridge;"⟩
abbrev cX5_cartOf : ByteArray := prog_7_method_4_code
def yX5_cartOf : MethodName := ⟨RX5, "cartOf", "(I)LBridgeWardens$Cart;"⟩
abbrev cX5_changeSetting : ByteArray := prog_7_method_5_code
def yX5_changeSetting : MethodName := ⟨RX5, "changeSetting", "(II)I"⟩
abbrev cX5_addBridge : ByteArray := prog_7_method_6_code
def yX5_addBridge : MethodName := ⟨RX5, "addBridge", "(III)I"⟩
abbrev cX5_addCart : ByteArray := prog_7_method_7_code
def yX5_addCart : MethodName := ⟨RX5, "addCart", "(II)I"⟩
abbrev cX5_comeToWait : ByteArray := prog_7_method_8_code
def yX5_comeToWait : MethodName := ⟨RX5, "comeToWait", "(III)I"⟩
abbrev cX5_stopWaiting : ByteArray := prog_7_method_9_code
def yX5_stopWaiting : MethodName := ⟨RX5, "stopWaiting", "(I)I"⟩
abbrev cX5_buyHint : ByteArray := prog_7_method_10_code
def yX5_buyHint : MethodName := ⟨RX5, "buyHint", "(II)I"⟩
abbrev cX5_passHours : ByteArray := prog_7_method_11_code
def yX5_passHours : MethodName := ⟨RX5, "passHours", "(I)I"⟩
abbrev cX5_playHour : ByteArray := prog_7_method_12_code
def yX5_playHour : MethodName := ⟨RX5, "playHour", "()I"⟩
abbrev cX5_letOver : ByteArray := prog_7_method_13_code
def yX5_letOver : MethodName := ⟨RX5, "letOver", "(LBridgeWardens$Bridge;)I"⟩
abbrev cX5_comerOver : ByteArray := prog_7_method_14_code
def yX5_comerOver : MethodName := ⟨RX5, "comerOver", "(LBridgeWardens$Bridge;)LBridgeWardens$Cart;"⟩
abbrev cX5_isTied : ByteArray := prog_7_method_15_code
def yX5_isTied : MethodName := ⟨RX5, "isTied", "(LBridgeWardens$Bridge;)Z"⟩
abbrev cX5_payerOfTie : ByteArray := prog_7_method_16_code
def yX5_payerOfTie : MethodName := ⟨RX5, "payerOfTie", "(LBridgeWardens$Cart;LBridgeWardens$Cart;)LBridgeWardens$Cart;"⟩
abbrev cX5_release : ByteArray := prog_7_method_17_code
def yX5_release : MethodName := ⟨RX5, "release", "(LBridgeWardens$Cart;LBridgeWardens$Bridge;)V"⟩
abbrev cX5_drawRiddle : ByteArray := prog_7_method_18_code
def yX5_drawRiddle : MethodName := ⟨RX5, "drawRiddle", "(LBridgeWardens$Bridge;)V"⟩
abbrev cX5_waiterAt : ByteArray := prog_7_method_19_code
def yX5_waiterAt : MethodName := ⟨RX5, "waiterAt", "(LBridgeWardens$Bridge;I)LBridgeWardens$Cart;"⟩
abbrev cX5_reasonToStay : ByteArray := prog_7_method_20_code
def yX5_reasonToStay : MethodName := ⟨RX5, "reasonToStay", "(LBridgeWardens$Cart;)I"⟩
abbrev cX5_total : ByteArray := prog_7_method_21_code
def yX5_total : MethodName := ⟨RX5, "total", "(I)I"⟩
abbrev cX5_waitingSet : ByteArray := prog_7_method_22_code
def yX5_waitingSet : MethodName := ⟨RX5, "waitingSet", "()I"⟩
abbrev cX5_sumOverCarts : ByteArray := prog_7_method_23_code
def yX5_sumOverCarts : MethodName := ⟨RX5, "sumOverCarts", "(I)I"⟩
abbrev cX5_sumOverBridges : ByteArray := prog_7_method_24_code
def yX5_sumOverBridges : MethodName := ⟨RX5, "sumOverBridges", "(I)I"⟩
abbrev cX5_stepsBetween : ByteArray := prog_7_method_25_code
def yX5_stepsBetween : MethodName := ⟨RX5, "stepsBetween", "(II)I"⟩
abbrev cX5_withNeighbours : ByteArray := prog_7_method_26_code
def yX5_withNeighbours : MethodName := ⟨RX5, "withNeighbours", "(I)I"⟩
abbrev cX5_firstBridge : ByteArray := prog_7_method_27_code
def yX5_firstBridge : MethodName := ⟨RX5, "firstBridge", "(III)I"⟩
def RX6 : String := "BridgeWardens"
def TX6 : u_T := fun k => match k with
  | 0 => ("BridgeWardens", "now", "LBridgeWardens$World;", true)
  | 1 => ("BridgeWardens", "trial", "LBridgeWardens$World;", true)
  | 2 => ("BridgeWardens", "history", "LBridgeWardens$History;", true)
  | 3 => ("BridgeWardens", "slots", "[LBridgeWardens$World;", true)
  | 4 => ("BridgeWardens", "saved", "[Z", true)
  | 5 => ("BridgeWardens", "pad", "LBridgeWardens$Pad;", true)
  | _ => ("BridgeWardens", "orders", "LBridgeWardens$OrderReader;", true)
def tyX6 : Nat → FieldType := fun k => match k with
  | 0 => .object "BridgeWardens$World"
  | 1 => .object "BridgeWardens$World"
  | 2 => .object "BridgeWardens$History"
  | 3 => .array (.object "BridgeWardens$World")
  | 4 => .array .boolean
  | 5 => .object "BridgeWardens$Pad"
  | _ => .object "BridgeWardens$OrderReader"
abbrev wsX60 : List Cond := u_ws RX6 TX6 7
theorem nmX6 : ∀ a, a < 7 → ∀ b, b < 7 → a ≠ b → (TX6 a).2.1 ≠ (TX6 b).2.1 := by decide +kernel
theorem tyX6_ok : ∀ k, k < 7 → parseFieldDescriptor (TX6 k).2.2.1 = some (tyX6 k) := by decide +kernel
abbrev cX6_init : ByteArray := prog_1_method_1_code
def yX6_init : MethodName := ⟨RX6, "<init>", "()V"⟩
abbrev cX6_set : ByteArray := prog_1_method_2_code
def yX6_set : MethodName := ⟨RX6, "set", "(II)I"⟩
abbrev cX6_bridge : ByteArray := prog_1_method_3_code
def yX6_bridge : MethodName := ⟨RX6, "bridge", "(III)I"⟩
abbrev cX6_cart : ByteArray := prog_1_method_4_code
def yX6_cart : MethodName := ⟨RX6, "cart", "(II)I"⟩
abbrev cX6_guess : ByteArray := prog_1_method_5_code
def yX6_guess : MethodName := ⟨RX6, "guess", "(III)I"⟩
abbrev cX6_leave : ByteArray := prog_1_method_6_code
def yX6_leave : MethodName := ⟨RX6, "leave", "(I)I"⟩
abbrev cX6_hint : ByteArray := prog_1_method_7_code
def yX6_hint : MethodName := ⟨RX6, "hint", "(II)I"⟩
abbrev cX6_pass : ByteArray := prog_1_method_8_code
def yX6_pass : MethodName := ⟨RX6, "pass", "(I)I"⟩
abbrev cX6_write : ByteArray := prog_1_method_9_code
def yX6_write : MethodName := ⟨RX6, "write", "(I)I"⟩
abbrev cX6_ofBridge : ByteArray := prog_1_method_10_code
def yX6_ofBridge : MethodName := ⟨RX6, "ofBridge", "(II)I"⟩
abbrev cX6_ofCart : ByteArray := prog_1_method_11_code
def yX6_ofCart : MethodName := ⟨RX6, "ofCart", "(II)I"⟩
abbrev cX6_knows : ByteArray := prog_1_method_12_code
def yX6_knows : MethodName := ⟨RX6, "knows", "(III)I"⟩
abbrev cX6_waits : ByteArray := prog_1_method_13_code
def yX6_waits : MethodName := ⟨RX6, "waits", "(II)I"⟩
abbrev cX6_sign : ByteArray := prog_1_method_14_code
def yX6_sign : MethodName := ⟨RX6, "sign", "(I)I"⟩
abbrev cX6_count : ByteArray := prog_1_method_15_code
def yX6_count : MethodName := ⟨RX6, "count", "(I)I"⟩
abbrev cX6_next : ByteArray := prog_1_method_16_code
def yX6_next : MethodName := ⟨RX6, "next", "(I)I"⟩
abbrev cX6_why : ByteArray := prog_1_method_17_code
def yX6_why : MethodName := ⟨RX6, "why", "(I)I"⟩
abbrev cX6_overIn : ByteArray := prog_1_method_18_code
def yX6_overIn : MethodName := ⟨RX6, "overIn", "(I)I"⟩
abbrev cX6_wins : ByteArray := prog_1_method_19_code
def yX6_wins : MethodName := ⟨RX6, "wins", "(IIII)I"⟩
abbrev cX6_bestGuess : ByteArray := prog_1_method_20_code
def yX6_bestGuess : MethodName := ⟨RX6, "bestGuess", "(IIII)I"⟩
abbrev cX6_route : ByteArray := prog_1_method_21_code
def yX6_route : MethodName := ⟨RX6, "route", "(III)I"⟩
abbrev cX6_would : ByteArray := prog_1_method_22_code
def yX6_would : MethodName := ⟨RX6, "would", "(II)I"⟩
abbrev cX6_put : ByteArray := prog_1_method_23_code
def yX6_put : MethodName := ⟨RX6, "put", "(J)I"⟩
abbrev cX6_wipe : ByteArray := prog_1_method_24_code
def yX6_wipe : MethodName := ⟨RX6, "wipe", "()I"⟩
abbrev cX6_fault : ByteArray := prog_1_method_25_code
def yX6_fault : MethodName := ⟨RX6, "fault", "()I"⟩
abbrev cX6_carryOut : ByteArray := prog_1_method_26_code
def yX6_carryOut : MethodName := ⟨RX6, "carryOut", "()I"⟩
abbrev cX6_undo : ByteArray := prog_1_method_27_code
def yX6_undo : MethodName := ⟨RX6, "undo", "()I"⟩
abbrev cX6_save : ByteArray := prog_1_method_28_code
def yX6_save : MethodName := ⟨RX6, "save", "(I)I"⟩
abbrev cX6_restore : ByteArray := prog_1_method_29_code
def yX6_restore : MethodName := ⟨RX6, "restore", "(I)I"⟩
abbrev cX6_isBelow : ByteArray := prog_1_method_30_code
def yX6_isBelow : MethodName := ⟨RX6, "isBelow", "(II)Z"⟩
abbrev cX6_numberOf : ByteArray := prog_1_method_31_code
def yX6_numberOf : MethodName := ⟨RX6, "numberOf", "(LBridgeWardens$Cart;I)I"⟩
abbrev cX6_recorded : ByteArray := prog_1_method_32_code
def yX6_recorded : MethodName := ⟨RX6, "recorded", "(I)I"⟩
abbrev cX6_signsIn : ByteArray := prog_1_method_33_code
def yX6_signsIn : MethodName := ⟨RX6, "signsIn", "(J)I"⟩
abbrev cX6_appendNote : ByteArray := prog_1_method_34_code
def yX6_appendNote : MethodName := ⟨RX6, "appendNote", "(LBridgeWardens$Cart;)V"⟩
abbrev cX6_obey : ByteArray := prog_1_method_35_code
def yX6_obey : MethodName := ⟨RX6, "obey", "()I"⟩
def RX7 : String := "BridgeWardensModel"
def TX7 : u_T := fun k => match k with
  | 0 => ("BridgeWardensModel", "s", "[I", true)
  | 1 => ("BridgeWardensModel", "states", "I", false)
  | 2 => ("BridgeWardensModel", "isSaved", "[Z", true)
  | 3 => ("BridgeWardensModel", "text", "[I", true)
  | 4 => ("BridgeWardensModel", "typed", "I", false)
  | 5 => ("BridgeWardensModel", "spot", "I", false)
  | 6 => ("BridgeWardensModel", "kind", "C", false)
  | 7 => ("BridgeWardensModel", "one", "I", false)
  | 8 => ("BridgeWardensModel", "two", "I", false)
  | 9 => ("BridgeWardensModel", "three", "I", false)
  | _ => ("BridgeWardensModel", "away", "[I", true)
def tyX7 : Nat → FieldType := fun k => match k with
  | 0 => .array .int
  | 1 => .int
  | 2 => .array .boolean
  | 3 => .array .int
  | 4 => .int
  | 5 => .int
  | 6 => .char
  | 7 => .int
  | 8 => .int
  | 9 => .int
  | _ => .array .int
abbrev wsX70 : List Cond := u_ws RX7 TX7 11
theorem nmX7 : ∀ a, a < 11 → ∀ b, b < 11 → a ≠ b → (TX7 a).2.1 ≠ (TX7 b).2.1 := by decide +kernel
theorem tyX7_ok : ∀ k, k < 11 → parseFieldDescriptor (TX7 k).2.2.1 = some (tyX7 k) := by decide +kernel
abbrev cX7_init : ByteArray := prog_9_method_1_code
def yX7_init : MethodName := ⟨RX7, "<init>", "()V"⟩
abbrev cX7_in : ByteArray := prog_9_method_3_code
def yX7_in : MethodName := ⟨RX7, "in", "(JJJ)Z"⟩
abbrev cX7_copies : ByteArray := prog_9_method_4_code
def yX7_copies : MethodName := ⟨RX7, "copies", "(II)V"⟩
abbrev cX7_changes : ByteArray := prog_9_method_5_code
def yX7_changes : MethodName := ⟨RX7, "changes", "()V"⟩
abbrev cX7_bridgeAt : ByteArray := prog_9_method_6_code
def yX7_bridgeAt : MethodName := ⟨RX7, "bridgeAt", "(II)I"⟩
abbrev cX7_cartAt : ByteArray := prog_9_method_7_code
def yX7_cartAt : MethodName := ⟨RX7, "cartAt", "(II)I"⟩
abbrev cX7_rangeAt : ByteArray := prog_9_method_8_code
def yX7_rangeAt : MethodName := ⟨RX7, "rangeAt", "(III)I"⟩
abbrev cX7_isAt : ByteArray := prog_9_method_9_code
def yX7_isAt : MethodName := ⟨RX7, "isAt", "(III)Z"⟩
abbrev cX7_draws : ByteArray := prog_9_method_10_code
def yX7_draws : MethodName := ⟨RX7, "draws", "(II)V"⟩
abbrev cX7_many : ByteArray := prog_9_method_11_code
def yX7_many : MethodName := ⟨RX7, "many", "(II)I"⟩
abbrev cX7_waiter : ByteArray := prog_9_method_12_code
def yX7_waiter : MethodName := ⟨RX7, "waiter", "(III)I"⟩
abbrev cX7_size : ByteArray := prog_9_method_13_code
def yX7_size : MethodName := ⟨RX7, "size", "(I)I"⟩
abbrev cX7_far : ByteArray := prog_9_method_14_code
def yX7_far : MethodName := ⟨RX7, "far", "(II)I"⟩
abbrev cX7_areAsNear : ByteArray := prog_9_method_15_code
def yX7_areAsNear : MethodName := ⟨RX7, "areAsNear", "(II)Z"⟩
abbrev cX7_comer : ByteArray := prog_9_method_16_code
def yX7_comer : MethodName := ⟨RX7, "comer", "(II)I"⟩
abbrev cX7_pays : ByteArray := prog_9_method_17_code
def yX7_pays : MethodName := ⟨RX7, "pays", "(IIII)V"⟩
abbrev cX7_stopsWaiting : ByteArray := prog_9_method_18_code
def yX7_stopsWaiting : MethodName := ⟨RX7, "stopsWaiting", "(II)V"⟩
abbrev cX7_opens : ByteArray := prog_9_method_19_code
def yX7_opens : MethodName := ⟨RX7, "opens", "(II)Z"⟩
abbrev cX7_hour : ByteArray := prog_9_method_20_code
def yX7_hour : MethodName := ⟨RX7, "hour", "(I)I"⟩
abbrev cX7_hours : ByteArray := prog_9_method_21_code
def yX7_hours : MethodName := ⟨RX7, "hours", "(II)I"⟩
abbrev cX7_ofCarts : ByteArray := prog_9_method_22_code
def yX7_ofCarts : MethodName := ⟨RX7, "ofCarts", "(II)I"⟩
abbrev cX7_waitingSet : ByteArray := prog_9_method_23_code
def yX7_waitingSet : MethodName := ⟨RX7, "waitingSet", "(I)I"⟩
abbrev cX7_isTown : ByteArray := prog_9_method_24_code
def yX7_isTown : MethodName := ⟨RX7, "isTown", "(I)Z"⟩
abbrev cX7_isBridge : ByteArray := prog_9_method_25_code
def yX7_isBridge : MethodName := ⟨RX7, "isBridge", "(I)Z"⟩
abbrev cX7_isCart : ByteArray := prog_9_method_26_code
def yX7_isCart : MethodName := ⟨RX7, "isCart", "(I)Z"⟩
abbrev cX7_isNumber : ByteArray := prog_9_method_27_code
def yX7_isNumber : MethodName := ⟨RX7, "isNumber", "(II)Z"⟩
abbrev cX7_bridgeError : ByteArray := prog_9_method_28_code
def yX7_bridgeError : MethodName := ⟨RX7, "bridgeError", "(III)I"⟩
abbrev cX7_cartError : ByteArray := prog_9_method_29_code
def yX7_cartError : MethodName := ⟨RX7, "cartError", "(II)I"⟩
abbrev cX7_guessError : ByteArray := prog_9_method_30_code
def yX7_guessError : MethodName := ⟨RX7, "guessError", "(III)I"⟩
abbrev cX7_leaveError : ByteArray := prog_9_method_31_code
def yX7_leaveError : MethodName := ⟨RX7, "leaveError", "(I)I"⟩
abbrev cX7_hintError : ByteArray := prog_9_method_32_code
def yX7_hintError : MethodName := ⟨RX7, "hintError", "(II)I"⟩
abbrev cX7_passError : ByteArray := prog_9_method_33_code
def yX7_passError : MethodName := ⟨RX7, "passError", "(I)I"⟩
abbrev cX7_builds : ByteArray := prog_9_method_34_code
def yX7_builds : MethodName := ⟨RX7, "builds", "(III)I"⟩
abbrev cX7_comes : ByteArray := prog_9_method_35_code
def yX7_comes : MethodName := ⟨RX7, "comes", "(II)I"⟩
abbrev cX7_guesses : ByteArray := prog_9_method_36_code
def yX7_guesses : MethodName := ⟨RX7, "guesses", "(III)I"⟩
abbrev cX7_leaves : ByteArray := prog_9_method_37_code
def yX7_leaves : MethodName := ⟨RX7, "leaves", "(I)I"⟩
abbrev cX7_hints : ByteArray := prog_9_method_38_code
def yX7_hints : MethodName := ⟨RX7, "hints", "(II)I"⟩
abbrev cX7_isValue : ByteArray := prog_9_method_39_code
def yX7_isValue : MethodName := ⟨RX7, "isValue", "(II)Z"⟩
abbrev cX7_set : ByteArray := prog_9_method_40_code
def yX7_set : MethodName := ⟨RX7, "set", "(II)I"⟩
abbrev cX7_bridge : ByteArray := prog_9_method_41_code
def yX7_bridge : MethodName := ⟨RX7, "bridge", "(III)I"⟩
abbrev cX7_cart : ByteArray := prog_9_method_42_code
def yX7_cart : MethodName := ⟨RX7, "cart", "(II)I"⟩
abbrev cX7_guess : ByteArray := prog_9_method_43_code
def yX7_guess : MethodName := ⟨RX7, "guess", "(III)I"⟩
abbrev cX7_leave : ByteArray := prog_9_method_44_code
def yX7_leave : MethodName := ⟨RX7, "leave", "(I)I"⟩
abbrev cX7_hint : ByteArray := prog_9_method_45_code
def yX7_hint : MethodName := ⟨RX7, "hint", "(II)I"⟩
abbrev cX7_pass : ByteArray := prog_9_method_46_code
def yX7_pass : MethodName := ⟨RX7, "pass", "(I)I"⟩
abbrev cX7_types : ByteArray := prog_9_method_47_code
def yX7_types : MethodName := ⟨RX7, "types", "(I)V"⟩
abbrev cX7_typesNumber : ByteArray := prog_9_method_48_code
def yX7_typesNumber : MethodName := ⟨RX7, "typesNumber", "(I)V"⟩
abbrev cX7_write : ByteArray := prog_9_method_49_code
def yX7_write : MethodName := ⟨RX7, "write", "(I)I"⟩
abbrev cX7_ofBridge : ByteArray := prog_9_method_50_code
def yX7_ofBridge : MethodName := ⟨RX7, "ofBridge", "(II)I"⟩
abbrev cX7_ofCart : ByteArray := prog_9_method_51_code
def yX7_ofCart : MethodName := ⟨RX7, "ofCart", "(II)I"⟩
abbrev cX7_knows : ByteArray := prog_9_method_52_code
def yX7_knows : MethodName := ⟨RX7, "knows", "(III)I"⟩
abbrev cX7_waits : ByteArray := prog_9_method_53_code
def yX7_waits : MethodName := ⟨RX7, "waits", "(II)I"⟩
abbrev cX7_sign : ByteArray := prog_9_method_54_code
def yX7_sign : MethodName := ⟨RX7, "sign", "(I)I"⟩
abbrev cX7_inTills : ByteArray := prog_9_method_55_code
def yX7_inTills : MethodName := ⟨RX7, "inTills", "()I"⟩
abbrev cX7_count : ByteArray := prog_9_method_56_code
def yX7_count : MethodName := ⟨RX7, "count", "(I)I"⟩
abbrev cX7_next : ByteArray := prog_9_method_57_code
def yX7_next : MethodName := ⟨RX7, "next", "(I)I"⟩
abbrev cX7_why : ByteArray := prog_9_method_58_code
def yX7_why : MethodName := ⟨RX7, "why", "(I)I"⟩
abbrev cX7_overIn : ByteArray := prog_9_method_59_code
def yX7_overIn : MethodName := ⟨RX7, "overIn", "(I)I"⟩
abbrev cX7_nearer : ByteArray := prog_9_method_60_code
def yX7_nearer : MethodName := ⟨RX7, "nearer", "(IIII)I"⟩
abbrev cX7_wins : ByteArray := prog_9_method_61_code
def yX7_wins : MethodName := ⟨RX7, "wins", "(IIII)I"⟩
abbrev cX7_bestGuess : ByteArray := prog_9_method_62_code
def yX7_bestGuess : MethodName := ⟨RX7, "bestGuess", "(IIII)I"⟩
abbrev cX7_measures : ByteArray := prog_9_method_63_code
def yX7_measures : MethodName := ⟨RX7, "measures", "(I)V"⟩
abbrev cX7_firstBridge : ByteArray := prog_9_method_64_code
def yX7_firstBridge : MethodName := ⟨RX7, "firstBridge", "(I)I"⟩
abbrev cX7_route : ByteArray := prog_9_method_65_code
def yX7_route : MethodName := ⟨RX7, "route", "(III)I"⟩
abbrev cX7_would : ByteArray := prog_9_method_66_code
def yX7_would : MethodName := ⟨RX7, "would", "(II)I"⟩
abbrev cX7_charactersOf : ByteArray := prog_9_method_67_code
def yX7_charactersOf : MethodName := ⟨RX7, "charactersOf", "(J)I"⟩
abbrev cX7_put : ByteArray := prog_9_method_68_code
def yX7_put : MethodName := ⟨RX7, "put", "(J)I"⟩
abbrev cX7_wipe : ByteArray := prog_9_method_69_code
def yX7_wipe : MethodName := ⟨RX7, "wipe", "()I"⟩
abbrev cX7_isHere : ByteArray := prog_9_method_70_code
def yX7_isHere : MethodName := ⟨RX7, "isHere", "(II)Z"⟩
abbrev cX7_takes : ByteArray := prog_9_method_71_code
def yX7_takes : MethodName := ⟨RX7, "takes", "(I)Z"⟩
abbrev cX7_digit : ByteArray := prog_9_method_72_code
def yX7_digit : MethodName := ⟨RX7, "digit", "()I"⟩
abbrev cX7_number : ByteArray := prog_9_method_73_code
def yX7_number : MethodName := ⟨RX7, "number", "()I"⟩
abbrev cX7_readsOne : ByteArray := prog_9_method_74_code
def yX7_readsOne : MethodName := ⟨RX7, "readsOne", "()Z"⟩
abbrev cX7_readsTwo : ByteArray := prog_9_method_75_code
def yX7_readsTwo : MethodName := ⟨RX7, "readsTwo", "(Z)Z"⟩
abbrev cX7_readsThree : ByteArray := prog_9_method_76_code
def yX7_readsThree : MethodName := ⟨RX7, "readsThree", "()Z"⟩
abbrev cX7_readsOrder : ByteArray := prog_9_method_77_code
def yX7_readsOrder : MethodName := ⟨RX7, "readsOrder", "()Z"⟩
abbrev cX7_fault : ByteArray := prog_9_method_78_code
def yX7_fault : MethodName := ⟨RX7, "fault", "()I"⟩
abbrev cX7_orderError : ByteArray := prog_9_method_79_code
def yX7_orderError : MethodName := ⟨RX7, "orderError", "()I"⟩
abbrev cX7_does : ByteArray := prog_9_method_80_code
def yX7_does : MethodName := ⟨RX7, "does", "()I"⟩
abbrev cX7_carryOut : ByteArray := prog_9_method_81_code
def yX7_carryOut : MethodName := ⟨RX7, "carryOut", "()I"⟩
abbrev cX7_undo : ByteArray := prog_9_method_82_code
def yX7_undo : MethodName := ⟨RX7, "undo", "()I"⟩
abbrev cX7_isSlot : ByteArray := prog_9_method_83_code
def yX7_isSlot : MethodName := ⟨RX7, "isSlot", "(I)Z"⟩
abbrev cX7_save : ByteArray := prog_9_method_84_code
def yX7_save : MethodName := ⟨RX7, "save", "(I)I"⟩
abbrev cX7_restore : ByteArray := prog_9_method_85_code
def yX7_restore : MethodName := ⟨RX7, "restore", "(I)I"⟩
def RJ9 : String := "java/lang/Math"
def RJ10 : String := "java/lang/System"
def RL : String := "BridgeWardensLaw"
abbrev cL_law : ByteArray := code
def yL_law : MethodName := ⟨RL, "law", "([I)Z"⟩
abbrev vwCl : List vw_C := [(RX0, TX0, 9), (RX1, TX1, 11), (RX2, TX2, 3), (RX3, TX3, 6), (RX4, TX4, 2), (RX5, TX5, 11), (RX6, TX6, 7), (RX7, TX7, 11)]
