section
-- ===== PART A: goes FIRST, ahead of the names: the tables' words, and 'selects' of the private methods out of them =====
/-- a private method of a class that the tables say can be made, by its rows of tables_1 -/
def lw_okq (q : MethodName × Nat) : Prop := (q.1.cls ≠ "java/lang/invoke/MethodHandle" ∧ q.1.cls ≠ "java/lang/invoke/VarHandle") ∧ Cond.instantiable q.1.cls q.2 ∈ tables_1 ∧ Cond.privateMethod q.1 ∈ tables_1 ∧ Cond.instanceMethod q.1 ∈ tables_1
theorem lw_p0 : lw_okq (⟨"BridgeWardens", "recorded", "(I)I"⟩, 7) := ⟨⟨by decide +kernel, by decide +kernel⟩, List.mem_of_getElem? (i := 12) (by decide +kernel), List.mem_of_getElem? (i := 286) (by decide +kernel), List.mem_of_getElem? (i := 287) (by decide +kernel)⟩
theorem lw_p1 : lw_okq (⟨"BridgeWardens$World", "drawRiddle", "(LBridgeWardens$Bridge;)V"⟩, 11) := ⟨⟨by decide +kernel, by decide +kernel⟩, List.mem_of_getElem? (i := 20) (by decide +kernel), List.mem_of_getElem? (i := 305) (by decide +kernel), List.mem_of_getElem? (i := 306) (by decide +kernel)⟩
theorem lw_p2 : lw_okq (⟨"BridgeWardens$World", "release", "(LBridgeWardens$Cart;LBridgeWardens$Bridge;)V"⟩, 11) := ⟨⟨by decide +kernel, by decide +kernel⟩, List.mem_of_getElem? (i := 20) (by decide +kernel), List.mem_of_getElem? (i := 358) (by decide +kernel), List.mem_of_getElem? (i := 359) (by decide +kernel)⟩
theorem lw_p3 : lw_okq (⟨"BridgeWardens$World", "letOver", "(LBridgeWardens$Bridge;)I"⟩, 11) := ⟨⟨by decide +kernel, by decide +kernel⟩, List.mem_of_getElem? (i := 20) (by decide +kernel), List.mem_of_getElem? (i := 402) (by decide +kernel), List.mem_of_getElem? (i := 403) (by decide +kernel)⟩
theorem lw_p4 : lw_okq (⟨"BridgeWardens$World", "isTied", "(LBridgeWardens$Bridge;)Z"⟩, 11) := ⟨⟨by decide +kernel, by decide +kernel⟩, List.mem_of_getElem? (i := 20) (by decide +kernel), List.mem_of_getElem? (i := 406) (by decide +kernel), List.mem_of_getElem? (i := 407) (by decide +kernel)⟩
theorem lw_p5 : lw_okq (⟨"BridgeWardens$World", "payerOfTie", "(LBridgeWardens$Cart;LBridgeWardens$Cart;)LBridgeWardens$Cart;"⟩, 11) := ⟨⟨by decide +kernel, by decide +kernel⟩, List.mem_of_getElem? (i := 20) (by decide +kernel), List.mem_of_getElem? (i := 425) (by decide +kernel), List.mem_of_getElem? (i := 426) (by decide +kernel)⟩
theorem lw_p6 : lw_okq (⟨"BridgeWardens", "appendNote", "(LBridgeWardens$Cart;)V"⟩, 7) := ⟨⟨by decide +kernel, by decide +kernel⟩, List.mem_of_getElem? (i := 12) (by decide +kernel), List.mem_of_getElem? (i := 448) (by decide +kernel), List.mem_of_getElem? (i := 449) (by decide +kernel)⟩
theorem lw_p7 : lw_okq (⟨"BridgeWardens$World", "sumOverBridges", "(I)I"⟩, 11) := ⟨⟨by decide +kernel, by decide +kernel⟩, List.mem_of_getElem? (i := 20) (by decide +kernel), List.mem_of_getElem? (i := 515) (by decide +kernel), List.mem_of_getElem? (i := 516) (by decide +kernel)⟩
theorem lw_p8 : lw_okq (⟨"BridgeWardens$World", "withNeighbours", "(I)I"⟩, 11) := ⟨⟨by decide +kernel, by decide +kernel⟩, List.mem_of_getElem? (i := 20) (by decide +kernel), List.mem_of_getElem? (i := 568) (by decide +kernel), List.mem_of_getElem? (i := 569) (by decide +kernel)⟩
theorem lw_p9 : lw_okq (⟨"BridgeWardens$OrderReader", "readDigitPair", "()Z"⟩, 6) := ⟨⟨by decide +kernel, by decide +kernel⟩, List.mem_of_getElem? (i := 203) (by decide +kernel), List.mem_of_getElem? (i := 618) (by decide +kernel), List.mem_of_getElem? (i := 619) (by decide +kernel)⟩
theorem lw_p10 : lw_okq (⟨"BridgeWardens$OrderReader", "readDigit", "()Z"⟩, 6) := ⟨⟨by decide +kernel, by decide +kernel⟩, List.mem_of_getElem? (i := 203) (by decide +kernel), List.mem_of_getElem? (i := 622) (by decide +kernel), List.mem_of_getElem? (i := 623) (by decide +kernel)⟩
theorem lw_p11 : lw_okq (⟨"BridgeWardens$OrderReader", "nextDigit", "()I"⟩, 6) := ⟨⟨by decide +kernel, by decide +kernel⟩, List.mem_of_getElem? (i := 203) (by decide +kernel), List.mem_of_getElem? (i := 626) (by decide +kernel), List.mem_of_getElem? (i := 627) (by decide +kernel)⟩
theorem lw_p12 : lw_okq (⟨"BridgeWardens$OrderReader", "readThird", "()Z"⟩, 6) := ⟨⟨by decide +kernel, by decide +kernel⟩, List.mem_of_getElem? (i := 203) (by decide +kernel), List.mem_of_getElem? (i := 634) (by decide +kernel), List.mem_of_getElem? (i := 635) (by decide +kernel)⟩
theorem lw_p13 : lw_okq (⟨"BridgeWardens$OrderReader", "readNumber", "()I"⟩, 6) := ⟨⟨by decide +kernel, by decide +kernel⟩, List.mem_of_getElem? (i := 203) (by decide +kernel), List.mem_of_getElem? (i := 638) (by decide +kernel), List.mem_of_getElem? (i := 639) (by decide +kernel)⟩
theorem lw_p14 : lw_okq (⟨"BridgeWardens$OrderReader", "readSecond", "()Z"⟩, 6) := ⟨⟨by decide +kernel, by decide +kernel⟩, List.mem_of_getElem? (i := 203) (by decide +kernel), List.mem_of_getElem? (i := 642) (by decide +kernel), List.mem_of_getElem? (i := 643) (by decide +kernel)⟩
theorem lw_p15 : lw_okq (⟨"BridgeWardens", "obey", "()I"⟩, 7) := ⟨⟨by decide +kernel, by decide +kernel⟩, List.mem_of_getElem? (i := 12) (by decide +kernel), List.mem_of_getElem? (i := 652) (by decide +kernel), List.mem_of_getElem? (i := 653) (by decide +kernel)⟩
def lw_privs_1 : List (MethodName × Nat) := [(⟨"BridgeWardens", "recorded", "(I)I"⟩, 7), (⟨"BridgeWardens$World", "drawRiddle", "(LBridgeWardens$Bridge;)V"⟩, 11), (⟨"BridgeWardens$World", "release", "(LBridgeWardens$Cart;LBridgeWardens$Bridge;)V"⟩, 11), (⟨"BridgeWardens$World", "letOver", "(LBridgeWardens$Bridge;)I"⟩, 11), (⟨"BridgeWardens$World", "isTied", "(LBridgeWardens$Bridge;)Z"⟩, 11), (⟨"BridgeWardens$World", "payerOfTie", "(LBridgeWardens$Cart;LBridgeWardens$Cart;)LBridgeWardens$Cart;"⟩, 11), (⟨"BridgeWardens", "appendNote", "(LBridgeWardens$Cart;)V"⟩, 7), (⟨"BridgeWardens$World", "sumOverBridges", "(I)I"⟩, 11), (⟨"BridgeWardens$World", "withNeighbours", "(I)I"⟩, 11), (⟨"BridgeWardens$OrderReader", "readDigitPair", "()Z"⟩, 6), (⟨"BridgeWardens$OrderReader", "readDigit", "()Z"⟩, 6), (⟨"BridgeWardens$OrderReader", "nextDigit", "()I"⟩, 6), (⟨"BridgeWardens$OrderReader", "readThird", "()Z"⟩, 6), (⟨"BridgeWardens$OrderReader", "readNumber", "()I"⟩, 6), (⟨"BridgeWardens$OrderReader", "readSecond", "()Z"⟩, 6), (⟨"BridgeWardens", "obey", "()I"⟩, 7)]
theorem lw_r1 : ∀ q ∈ lw_privs_1, lw_okq q := List.forall_mem_cons.mpr ⟨lw_p0, List.forall_mem_cons.mpr ⟨lw_p1, List.forall_mem_cons.mpr ⟨lw_p2, List.forall_mem_cons.mpr ⟨lw_p3, List.forall_mem_cons.mpr ⟨lw_p4, List.forall_mem_cons.mpr ⟨lw_p5, List.forall_mem_cons.mpr ⟨lw_p6, List.forall_mem_cons.mpr ⟨lw_p7, List.forall_mem_cons.mpr ⟨lw_p8, List.forall_mem_cons.mpr ⟨lw_p9, List.forall_mem_cons.mpr ⟨lw_p10, List.forall_mem_cons.mpr ⟨lw_p11, List.forall_mem_cons.mpr ⟨lw_p12, List.forall_mem_cons.mpr ⟨lw_p13, List.forall_mem_cons.mpr ⟨lw_p14, List.forall_mem_cons.mpr ⟨lw_p15, fun _ h => absurd h List.not_mem_nil⟩⟩⟩⟩⟩⟩⟩⟩⟩⟩⟩⟩⟩⟩⟩⟩
theorem lw_p16 : lw_okq (⟨"BridgeWardensModel", "changes", "()V"⟩, 11) := ⟨⟨by decide +kernel, by decide +kernel⟩, List.mem_of_getElem? (i := 673) (by decide +kernel), List.mem_of_getElem? (i := 725) (by decide +kernel), List.mem_of_getElem? (i := 726) (by decide +kernel)⟩
theorem lw_p17 : lw_okq (⟨"BridgeWardensModel", "copies", "(II)V"⟩, 11) := ⟨⟨by decide +kernel, by decide +kernel⟩, List.mem_of_getElem? (i := 673) (by decide +kernel), List.mem_of_getElem? (i := 729) (by decide +kernel), List.mem_of_getElem? (i := 730) (by decide +kernel)⟩
theorem lw_p18 : lw_okq (⟨"BridgeWardensModel", "bridgeError", "(III)I"⟩, 11) := ⟨⟨by decide +kernel, by decide +kernel⟩, List.mem_of_getElem? (i := 673) (by decide +kernel), List.mem_of_getElem? (i := 737) (by decide +kernel), List.mem_of_getElem? (i := 738) (by decide +kernel)⟩
theorem lw_p19 : lw_okq (⟨"BridgeWardensModel", "builds", "(III)I"⟩, 11) := ⟨⟨by decide +kernel, by decide +kernel⟩, List.mem_of_getElem? (i := 673) (by decide +kernel), List.mem_of_getElem? (i := 747) (by decide +kernel), List.mem_of_getElem? (i := 748) (by decide +kernel)⟩
theorem lw_p20 : lw_okq (⟨"BridgeWardensModel", "draws", "(II)V"⟩, 11) := ⟨⟨by decide +kernel, by decide +kernel⟩, List.mem_of_getElem? (i := 673) (by decide +kernel), List.mem_of_getElem? (i := 754) (by decide +kernel), List.mem_of_getElem? (i := 755) (by decide +kernel)⟩
theorem lw_p21 : lw_okq (⟨"BridgeWardensModel", "cartError", "(II)I"⟩, 11) := ⟨⟨by decide +kernel, by decide +kernel⟩, List.mem_of_getElem? (i := 673) (by decide +kernel), List.mem_of_getElem? (i := 766) (by decide +kernel), List.mem_of_getElem? (i := 767) (by decide +kernel)⟩
theorem lw_p22 : lw_okq (⟨"BridgeWardensModel", "comes", "(II)I"⟩, 11) := ⟨⟨by decide +kernel, by decide +kernel⟩, List.mem_of_getElem? (i := 673) (by decide +kernel), List.mem_of_getElem? (i := 771) (by decide +kernel), List.mem_of_getElem? (i := 772) (by decide +kernel)⟩
theorem lw_p23 : lw_okq (⟨"BridgeWardensModel", "guessError", "(III)I"⟩, 11) := ⟨⟨by decide +kernel, by decide +kernel⟩, List.mem_of_getElem? (i := 673) (by decide +kernel), List.mem_of_getElem? (i := 782) (by decide +kernel), List.mem_of_getElem? (i := 783) (by decide +kernel)⟩
theorem lw_p24 : lw_okq (⟨"BridgeWardensModel", "isCart", "(I)Z"⟩, 11) := ⟨⟨by decide +kernel, by decide +kernel⟩, List.mem_of_getElem? (i := 673) (by decide +kernel), List.mem_of_getElem? (i := 786) (by decide +kernel), List.mem_of_getElem? (i := 787) (by decide +kernel)⟩
theorem lw_p25 : lw_okq (⟨"BridgeWardensModel", "isBridge", "(I)Z"⟩, 11) := ⟨⟨by decide +kernel, by decide +kernel⟩, List.mem_of_getElem? (i := 673) (by decide +kernel), List.mem_of_getElem? (i := 790) (by decide +kernel), List.mem_of_getElem? (i := 791) (by decide +kernel)⟩
theorem lw_p26 : lw_okq (⟨"BridgeWardensModel", "isNumber", "(II)Z"⟩, 11) := ⟨⟨by decide +kernel, by decide +kernel⟩, List.mem_of_getElem? (i := 673) (by decide +kernel), List.mem_of_getElem? (i := 794) (by decide +kernel), List.mem_of_getElem? (i := 795) (by decide +kernel)⟩
theorem lw_p27 : lw_okq (⟨"BridgeWardensModel", "isAt", "(III)Z"⟩, 11) := ⟨⟨by decide +kernel, by decide +kernel⟩, List.mem_of_getElem? (i := 673) (by decide +kernel), List.mem_of_getElem? (i := 798) (by decide +kernel), List.mem_of_getElem? (i := 799) (by decide +kernel)⟩
theorem lw_p28 : lw_okq (⟨"BridgeWardensModel", "guesses", "(III)I"⟩, 11) := ⟨⟨by decide +kernel, by decide +kernel⟩, List.mem_of_getElem? (i := 673) (by decide +kernel), List.mem_of_getElem? (i := 802) (by decide +kernel), List.mem_of_getElem? (i := 803) (by decide +kernel)⟩
theorem lw_p29 : lw_okq (⟨"BridgeWardensModel", "many", "(II)I"⟩, 11) := ⟨⟨by decide +kernel, by decide +kernel⟩, List.mem_of_getElem? (i := 673) (by decide +kernel), List.mem_of_getElem? (i := 806) (by decide +kernel), List.mem_of_getElem? (i := 807) (by decide +kernel)⟩
theorem lw_p30 : lw_okq (⟨"BridgeWardensModel", "leaveError", "(I)I"⟩, 11) := ⟨⟨by decide +kernel, by decide +kernel⟩, List.mem_of_getElem? (i := 673) (by decide +kernel), List.mem_of_getElem? (i := 814) (by decide +kernel), List.mem_of_getElem? (i := 815) (by decide +kernel)⟩
theorem lw_p31 : lw_okq (⟨"BridgeWardensModel", "leaves", "(I)I"⟩, 11) := ⟨⟨by decide +kernel, by decide +kernel⟩, List.mem_of_getElem? (i := 673) (by decide +kernel), List.mem_of_getElem? (i := 818) (by decide +kernel), List.mem_of_getElem? (i := 819) (by decide +kernel)⟩
def lw_privs_2 : List (MethodName × Nat) := [(⟨"BridgeWardensModel", "changes", "()V"⟩, 11), (⟨"BridgeWardensModel", "copies", "(II)V"⟩, 11), (⟨"BridgeWardensModel", "bridgeError", "(III)I"⟩, 11), (⟨"BridgeWardensModel", "builds", "(III)I"⟩, 11), (⟨"BridgeWardensModel", "draws", "(II)V"⟩, 11), (⟨"BridgeWardensModel", "cartError", "(II)I"⟩, 11), (⟨"BridgeWardensModel", "comes", "(II)I"⟩, 11), (⟨"BridgeWardensModel", "guessError", "(III)I"⟩, 11), (⟨"BridgeWardensModel", "isCart", "(I)Z"⟩, 11), (⟨"BridgeWardensModel", "isBridge", "(I)Z"⟩, 11), (⟨"BridgeWardensModel", "isNumber", "(II)Z"⟩, 11), (⟨"BridgeWardensModel", "isAt", "(III)Z"⟩, 11), (⟨"BridgeWardensModel", "guesses", "(III)I"⟩, 11), (⟨"BridgeWardensModel", "many", "(II)I"⟩, 11), (⟨"BridgeWardensModel", "leaveError", "(I)I"⟩, 11), (⟨"BridgeWardensModel", "leaves", "(I)I"⟩, 11)]
theorem lw_r2 : ∀ q ∈ lw_privs_2, lw_okq q := List.forall_mem_cons.mpr ⟨lw_p16, List.forall_mem_cons.mpr ⟨lw_p17, List.forall_mem_cons.mpr ⟨lw_p18, List.forall_mem_cons.mpr ⟨lw_p19, List.forall_mem_cons.mpr ⟨lw_p20, List.forall_mem_cons.mpr ⟨lw_p21, List.forall_mem_cons.mpr ⟨lw_p22, List.forall_mem_cons.mpr ⟨lw_p23, List.forall_mem_cons.mpr ⟨lw_p24, List.forall_mem_cons.mpr ⟨lw_p25, List.forall_mem_cons.mpr ⟨lw_p26, List.forall_mem_cons.mpr ⟨lw_p27, List.forall_mem_cons.mpr ⟨lw_p28, List.forall_mem_cons.mpr ⟨lw_p29, List.forall_mem_cons.mpr ⟨lw_p30, List.forall_mem_cons.mpr ⟨lw_p31, fun _ h => absurd h List.not_mem_nil⟩⟩⟩⟩⟩⟩⟩⟩⟩⟩⟩⟩⟩⟩⟩⟩
theorem lw_p32 : lw_okq (⟨"BridgeWardensModel", "stopsWaiting", "(II)V"⟩, 11) := ⟨⟨by decide +kernel, by decide +kernel⟩, List.mem_of_getElem? (i := 673) (by decide +kernel), List.mem_of_getElem? (i := 822) (by decide +kernel), List.mem_of_getElem? (i := 823) (by decide +kernel)⟩
theorem lw_p33 : lw_okq (⟨"BridgeWardensModel", "hintError", "(II)I"⟩, 11) := ⟨⟨by decide +kernel, by decide +kernel⟩, List.mem_of_getElem? (i := 673) (by decide +kernel), List.mem_of_getElem? (i := 830) (by decide +kernel), List.mem_of_getElem? (i := 831) (by decide +kernel)⟩
theorem lw_p34 : lw_okq (⟨"BridgeWardensModel", "hints", "(II)I"⟩, 11) := ⟨⟨by decide +kernel, by decide +kernel⟩, List.mem_of_getElem? (i := 673) (by decide +kernel), List.mem_of_getElem? (i := 834) (by decide +kernel), List.mem_of_getElem? (i := 835) (by decide +kernel)⟩
theorem lw_p35 : lw_okq (⟨"BridgeWardensModel", "pays", "(IIII)V"⟩, 11) := ⟨⟨by decide +kernel, by decide +kernel⟩, List.mem_of_getElem? (i := 673) (by decide +kernel), List.mem_of_getElem? (i := 838) (by decide +kernel), List.mem_of_getElem? (i := 839) (by decide +kernel)⟩
theorem lw_p36 : lw_okq (⟨"BridgeWardensModel", "passError", "(I)I"⟩, 11) := ⟨⟨by decide +kernel, by decide +kernel⟩, List.mem_of_getElem? (i := 673) (by decide +kernel), List.mem_of_getElem? (i := 846) (by decide +kernel), List.mem_of_getElem? (i := 847) (by decide +kernel)⟩
theorem lw_p37 : lw_okq (⟨"BridgeWardensModel", "hours", "(II)I"⟩, 11) := ⟨⟨by decide +kernel, by decide +kernel⟩, List.mem_of_getElem? (i := 673) (by decide +kernel), List.mem_of_getElem? (i := 851) (by decide +kernel), List.mem_of_getElem? (i := 852) (by decide +kernel)⟩
theorem lw_p38 : lw_okq (⟨"BridgeWardensModel", "hour", "(I)I"⟩, 11) := ⟨⟨by decide +kernel, by decide +kernel⟩, List.mem_of_getElem? (i := 673) (by decide +kernel), List.mem_of_getElem? (i := 855) (by decide +kernel), List.mem_of_getElem? (i := 856) (by decide +kernel)⟩
theorem lw_p39 : lw_okq (⟨"BridgeWardensModel", "opens", "(II)Z"⟩, 11) := ⟨⟨by decide +kernel, by decide +kernel⟩, List.mem_of_getElem? (i := 673) (by decide +kernel), List.mem_of_getElem? (i := 859) (by decide +kernel), List.mem_of_getElem? (i := 860) (by decide +kernel)⟩
theorem lw_p40 : lw_okq (⟨"BridgeWardensModel", "areAsNear", "(II)Z"⟩, 11) := ⟨⟨by decide +kernel, by decide +kernel⟩, List.mem_of_getElem? (i := 673) (by decide +kernel), List.mem_of_getElem? (i := 863) (by decide +kernel), List.mem_of_getElem? (i := 864) (by decide +kernel)⟩
theorem lw_p41 : lw_okq (⟨"BridgeWardensModel", "waiter", "(III)I"⟩, 11) := ⟨⟨by decide +kernel, by decide +kernel⟩, List.mem_of_getElem? (i := 673) (by decide +kernel), List.mem_of_getElem? (i := 867) (by decide +kernel), List.mem_of_getElem? (i := 868) (by decide +kernel)⟩
theorem lw_p42 : lw_okq (⟨"BridgeWardensModel", "far", "(II)I"⟩, 11) := ⟨⟨by decide +kernel, by decide +kernel⟩, List.mem_of_getElem? (i := 673) (by decide +kernel), List.mem_of_getElem? (i := 871) (by decide +kernel), List.mem_of_getElem? (i := 872) (by decide +kernel)⟩
theorem lw_p43 : lw_okq (⟨"BridgeWardensModel", "comer", "(II)I"⟩, 11) := ⟨⟨by decide +kernel, by decide +kernel⟩, List.mem_of_getElem? (i := 673) (by decide +kernel), List.mem_of_getElem? (i := 878) (by decide +kernel), List.mem_of_getElem? (i := 879) (by decide +kernel)⟩
theorem lw_p44 : lw_okq (⟨"BridgeWardensModel", "types", "(I)V"⟩, 11) := ⟨⟨by decide +kernel, by decide +kernel⟩, List.mem_of_getElem? (i := 673) (by decide +kernel), List.mem_of_getElem? (i := 886) (by decide +kernel), List.mem_of_getElem? (i := 887) (by decide +kernel)⟩
theorem lw_p45 : lw_okq (⟨"BridgeWardensModel", "typesNumber", "(I)V"⟩, 11) := ⟨⟨by decide +kernel, by decide +kernel⟩, List.mem_of_getElem? (i := 673) (by decide +kernel), List.mem_of_getElem? (i := 890) (by decide +kernel), List.mem_of_getElem? (i := 891) (by decide +kernel)⟩
theorem lw_p46 : lw_okq (⟨"BridgeWardensModel", "waitingSet", "(I)I"⟩, 11) := ⟨⟨by decide +kernel, by decide +kernel⟩, List.mem_of_getElem? (i := 673) (by decide +kernel), List.mem_of_getElem? (i := 919) (by decide +kernel), List.mem_of_getElem? (i := 920) (by decide +kernel)⟩
theorem lw_p47 : lw_okq (⟨"BridgeWardensModel", "ofCarts", "(II)I"⟩, 11) := ⟨⟨by decide +kernel, by decide +kernel⟩, List.mem_of_getElem? (i := 673) (by decide +kernel), List.mem_of_getElem? (i := 923) (by decide +kernel), List.mem_of_getElem? (i := 924) (by decide +kernel)⟩
def lw_privs_3 : List (MethodName × Nat) := [(⟨"BridgeWardensModel", "stopsWaiting", "(II)V"⟩, 11), (⟨"BridgeWardensModel", "hintError", "(II)I"⟩, 11), (⟨"BridgeWardensModel", "hints", "(II)I"⟩, 11), (⟨"BridgeWardensModel", "pays", "(IIII)V"⟩, 11), (⟨"BridgeWardensModel", "passError", "(I)I"⟩, 11), (⟨"BridgeWardensModel", "hours", "(II)I"⟩, 11), (⟨"BridgeWardensModel", "hour", "(I)I"⟩, 11), (⟨"BridgeWardensModel", "opens", "(II)Z"⟩, 11), (⟨"BridgeWardensModel", "areAsNear", "(II)Z"⟩, 11), (⟨"BridgeWardensModel", "waiter", "(III)I"⟩, 11), (⟨"BridgeWardensModel", "far", "(II)I"⟩, 11), (⟨"BridgeWardensModel", "comer", "(II)I"⟩, 11), (⟨"BridgeWardensModel", "types", "(I)V"⟩, 11), (⟨"BridgeWardensModel", "typesNumber", "(I)V"⟩, 11), (⟨"BridgeWardensModel", "waitingSet", "(I)I"⟩, 11), (⟨"BridgeWardensModel", "ofCarts", "(II)I"⟩, 11)]
theorem lw_r3 : ∀ q ∈ lw_privs_3, lw_okq q := List.forall_mem_cons.mpr ⟨lw_p32, List.forall_mem_cons.mpr ⟨lw_p33, List.forall_mem_cons.mpr ⟨lw_p34, List.forall_mem_cons.mpr ⟨lw_p35, List.forall_mem_cons.mpr ⟨lw_p36, List.forall_mem_cons.mpr ⟨lw_p37, List.forall_mem_cons.mpr ⟨lw_p38, List.forall_mem_cons.mpr ⟨lw_p39, List.forall_mem_cons.mpr ⟨lw_p40, List.forall_mem_cons.mpr ⟨lw_p41, List.forall_mem_cons.mpr ⟨lw_p42, List.forall_mem_cons.mpr ⟨lw_p43, List.forall_mem_cons.mpr ⟨lw_p44, List.forall_mem_cons.mpr ⟨lw_p45, List.forall_mem_cons.mpr ⟨lw_p46, List.forall_mem_cons.mpr ⟨lw_p47, fun _ h => absurd h List.not_mem_nil⟩⟩⟩⟩⟩⟩⟩⟩⟩⟩⟩⟩⟩⟩⟩⟩
theorem lw_p48 : lw_okq (⟨"BridgeWardensModel", "inTills", "()I"⟩, 11) := ⟨⟨by decide +kernel, by decide +kernel⟩, List.mem_of_getElem? (i := 673) (by decide +kernel), List.mem_of_getElem? (i := 927) (by decide +kernel), List.mem_of_getElem? (i := 928) (by decide +kernel)⟩
theorem lw_p49 : lw_okq (⟨"BridgeWardensModel", "measures", "(I)V"⟩, 11) := ⟨⟨by decide +kernel, by decide +kernel⟩, List.mem_of_getElem? (i := 673) (by decide +kernel), List.mem_of_getElem? (i := 958) (by decide +kernel), List.mem_of_getElem? (i := 959) (by decide +kernel)⟩
theorem lw_p50 : lw_okq (⟨"BridgeWardensModel", "firstBridge", "(I)I"⟩, 11) := ⟨⟨by decide +kernel, by decide +kernel⟩, List.mem_of_getElem? (i := 673) (by decide +kernel), List.mem_of_getElem? (i := 962) (by decide +kernel), List.mem_of_getElem? (i := 963) (by decide +kernel)⟩
theorem lw_p51 : lw_okq (⟨"BridgeWardensModel", "readsOrder", "()Z"⟩, 11) := ⟨⟨by decide +kernel, by decide +kernel⟩, List.mem_of_getElem? (i := 673) (by decide +kernel), List.mem_of_getElem? (i := 989) (by decide +kernel), List.mem_of_getElem? (i := 990) (by decide +kernel)⟩
theorem lw_p52 : lw_okq (⟨"BridgeWardensModel", "readsOne", "()Z"⟩, 11) := ⟨⟨by decide +kernel, by decide +kernel⟩, List.mem_of_getElem? (i := 673) (by decide +kernel), List.mem_of_getElem? (i := 993) (by decide +kernel), List.mem_of_getElem? (i := 994) (by decide +kernel)⟩
theorem lw_p53 : lw_okq (⟨"BridgeWardensModel", "digit", "()I"⟩, 11) := ⟨⟨by decide +kernel, by decide +kernel⟩, List.mem_of_getElem? (i := 673) (by decide +kernel), List.mem_of_getElem? (i := 997) (by decide +kernel), List.mem_of_getElem? (i := 998) (by decide +kernel)⟩
theorem lw_p54 : lw_okq (⟨"BridgeWardensModel", "isHere", "(II)Z"⟩, 11) := ⟨⟨by decide +kernel, by decide +kernel⟩, List.mem_of_getElem? (i := 673) (by decide +kernel), List.mem_of_getElem? (i := 1001) (by decide +kernel), List.mem_of_getElem? (i := 1002) (by decide +kernel)⟩
theorem lw_p55 : lw_okq (⟨"BridgeWardensModel", "readsTwo", "(Z)Z"⟩, 11) := ⟨⟨by decide +kernel, by decide +kernel⟩, List.mem_of_getElem? (i := 673) (by decide +kernel), List.mem_of_getElem? (i := 1005) (by decide +kernel), List.mem_of_getElem? (i := 1006) (by decide +kernel)⟩
theorem lw_p56 : lw_okq (⟨"BridgeWardensModel", "number", "()I"⟩, 11) := ⟨⟨by decide +kernel, by decide +kernel⟩, List.mem_of_getElem? (i := 673) (by decide +kernel), List.mem_of_getElem? (i := 1009) (by decide +kernel), List.mem_of_getElem? (i := 1010) (by decide +kernel)⟩
theorem lw_p57 : lw_okq (⟨"BridgeWardensModel", "takes", "(I)Z"⟩, 11) := ⟨⟨by decide +kernel, by decide +kernel⟩, List.mem_of_getElem? (i := 673) (by decide +kernel), List.mem_of_getElem? (i := 1014) (by decide +kernel), List.mem_of_getElem? (i := 1015) (by decide +kernel)⟩
theorem lw_p58 : lw_okq (⟨"BridgeWardensModel", "readsThree", "()Z"⟩, 11) := ⟨⟨by decide +kernel, by decide +kernel⟩, List.mem_of_getElem? (i := 673) (by decide +kernel), List.mem_of_getElem? (i := 1018) (by decide +kernel), List.mem_of_getElem? (i := 1019) (by decide +kernel)⟩
theorem lw_p59 : lw_okq (⟨"BridgeWardensModel", "orderError", "()I"⟩, 11) := ⟨⟨by decide +kernel, by decide +kernel⟩, List.mem_of_getElem? (i := 673) (by decide +kernel), List.mem_of_getElem? (i := 1027) (by decide +kernel), List.mem_of_getElem? (i := 1028) (by decide +kernel)⟩
theorem lw_p60 : lw_okq (⟨"BridgeWardensModel", "does", "()I"⟩, 11) := ⟨⟨by decide +kernel, by decide +kernel⟩, List.mem_of_getElem? (i := 673) (by decide +kernel), List.mem_of_getElem? (i := 1031) (by decide +kernel), List.mem_of_getElem? (i := 1032) (by decide +kernel)⟩
def lw_privs_4 : List (MethodName × Nat) := [(⟨"BridgeWardensModel", "inTills", "()I"⟩, 11), (⟨"BridgeWardensModel", "measures", "(I)V"⟩, 11), (⟨"BridgeWardensModel", "firstBridge", "(I)I"⟩, 11), (⟨"BridgeWardensModel", "readsOrder", "()Z"⟩, 11), (⟨"BridgeWardensModel", "readsOne", "()Z"⟩, 11), (⟨"BridgeWardensModel", "digit", "()I"⟩, 11), (⟨"BridgeWardensModel", "isHere", "(II)Z"⟩, 11), (⟨"BridgeWardensModel", "readsTwo", "(Z)Z"⟩, 11), (⟨"BridgeWardensModel", "number", "()I"⟩, 11), (⟨"BridgeWardensModel", "takes", "(I)Z"⟩, 11), (⟨"BridgeWardensModel", "readsThree", "()Z"⟩, 11), (⟨"BridgeWardensModel", "orderError", "()I"⟩, 11), (⟨"BridgeWardensModel", "does", "()I"⟩, 11)]
theorem lw_r4 : ∀ q ∈ lw_privs_4, lw_okq q := List.forall_mem_cons.mpr ⟨lw_p48, List.forall_mem_cons.mpr ⟨lw_p49, List.forall_mem_cons.mpr ⟨lw_p50, List.forall_mem_cons.mpr ⟨lw_p51, List.forall_mem_cons.mpr ⟨lw_p52, List.forall_mem_cons.mpr ⟨lw_p53, List.forall_mem_cons.mpr ⟨lw_p54, List.forall_mem_cons.mpr ⟨lw_p55, List.forall_mem_cons.mpr ⟨lw_p56, List.forall_mem_cons.mpr ⟨lw_p57, List.forall_mem_cons.mpr ⟨lw_p58, List.forall_mem_cons.mpr ⟨lw_p59, List.forall_mem_cons.mpr ⟨lw_p60, fun _ h => absurd h List.not_mem_nil⟩⟩⟩⟩⟩⟩⟩⟩⟩⟩⟩⟩⟩
def lw_privs : List (MethodName × Nat) := lw_privs_1 ++ (lw_privs_2 ++ (lw_privs_3 ++ (lw_privs_4)))
def lw_tbl : List Cond := k2_sels lw_privs ++ tables_1
theorem lw_privs_ok : ∀ q ∈ lw_privs, lw_okq q := by
  show ∀ q ∈ lw_privs_1 ++ (lw_privs_2 ++ (lw_privs_3 ++ (lw_privs_4))), lw_okq q
  exact List.forall_mem_append.mpr ⟨lw_r1, List.forall_mem_append.mpr ⟨lw_r2, List.forall_mem_append.mpr ⟨lw_r3, lw_r4⟩⟩⟩
def RX0 : String := "BridgeWardens$Bridge"
def TX0 : u_T := fun k => match k with
  | 0 => ("BridgeWardens$Bridge", "number", "I", true)
  | 1 => ("BridgeWardens$Bridge", "town", "I", false)
  | 2 => ("BridgeWardens$Bridge", "other", "I", false)
  | 3 => ("BridgeWardens$Bridge", "size", "I", false)
  | 4 => ("BridgeWardens$Bridge", "riddle", "I", false)
  | 5 => ("BridgeWardens$Bridge", "waiting", "I", false)
  | 6 => ("BridgeWardens$Bridge", "till", "I", false)
  | 7 => ("BridgeWardens$Bridge", "crossings", "I", false)
  | _ => ("BridgeWardens$Bridge", "ties", "I", false)
def tyX0 : Nat → FieldType := fun k => match k with
  | 0 => .int
  | 1 => .int
  | 2 => .int
  | 3 => .int
  | 4 => .int
  | 5 => .int
  | 6 => .int
  | 7 => .int
  | _ => .int
abbrev wsX00 : List Cond := u_ws RX0 TX0 9
theorem nmX0 : ∀ a, a < 9 → ∀ b, b < 9 → a ≠ b → (TX0 a).2.1 ≠ (TX0 b).2.1 := by decide +kernel
theorem tyX0_ok : ∀ k, k < 9 → parseFieldDescriptor (TX0 k).2.2.1 = some (tyX0 k) := by decide +kernel
abbrev cX0_init : ByteArray := prog_2_method_1_code
def yX0_init : MethodName := ⟨RX0, "<init>", "(I)V"⟩
abbrev cX0_copyFrom : ByteArray := prog_2_method_2_code
def yX0_copyFrom : MethodName := ⟨RX0, "copyFrom", "(LBridgeWardens$Bridge;)V"⟩
abbrev cX0_part : ByteArray := prog_2_method_3_code
def yX0_part : MethodName := ⟨RX0, "part", "(I)I"⟩
abbrev cX0_isAt : ByteArray := prog_2_method_4_code
def yX0_isAt : MethodName := ⟨RX0, "isAt", "(I)Z"⟩
abbrev cX0_farFrom : ByteArray := prog_2_method_5_code
def yX0_farFrom : MethodName := ⟨RX0, "farFrom", "(I)I"⟩
abbrev cX0_endsSet : ByteArray := prog_2_method_6_code
def yX0_endsSet : MethodName := ⟨RX0, "endsSet", "()I"⟩
abbrev cX0_distance : ByteArray := prog_2_method_7_code
def yX0_distance : MethodName := ⟨RX0, "distance", "(I)I"⟩
abbrev cX0_takeRiddle : ByteArray := prog_2_method_8_code
def yX0_takeRiddle : MethodName := ⟨RX0, "takeRiddle", "(I)V"⟩
def RX1 : String := "BridgeWardens$Cart"
def TX1 : u_T := fun k => match k with
  | 0 => ("BridgeWardens$Cart", "number", "I", true)
  | 1 => ("BridgeWardens$Cart", "town", "I", false)
  | 2 => ("BridgeWardens$Cart", "coins", "I", false)
  | 3 => ("BridgeWardens$Cart", "bridge", "I", false)
  | 4 => ("BridgeWardens$Cart", "guess", "I", false)
  | 5 => ("BridgeWardens$Cart", "waited", "I", false)
  | 6 => ("BridgeWardens$Cart", "crossings", "I", false)
  | 7 => ("BridgeWardens$Cart", "paid", "I", false)
  | 8 => ("BridgeWardens$Cart", "gifts", "I", false)
  | 9 => ("BridgeWardens$Cart", "lowerEnds", "[I", true)
  | _ => ("BridgeWardens$Cart", "upperEnds", "[I", true)
def tyX1 : Nat → FieldType := fun k => match k with
  | 0 => .int
  | 1 => .int
  | 2 => .int
  | 3 => .int
  | 4 => .int
  | 5 => .int
  | 6 => .int
  | 7 => .int
  | 8 => .int
  | 9 => .array .int
  | _ => .array .int
abbrev wsX10 : List Cond := u_ws RX1 TX1 11
theorem nmX1 : ∀ a, a < 11 → ∀ b, b < 11 → a ≠ b → (TX1 a).2.1 ≠ (TX1 b).2.1 := by decide +kernel
theorem tyX1_ok : ∀ k, k < 11 → parseFieldDescriptor (TX1 k).2.2.1 = some (tyX1 k) := by decide +kernel
abbrev cX1_init : ByteArray := prog_3_method_1_code
def yX1_init : MethodName := ⟨RX1, "<init>", "(I)V"⟩
abbrev cX1_copyFrom : ByteArray := prog_3_method_2_code
def yX1_copyFrom : MethodName := ⟨RX1, "copyFrom", "(LBridgeWardens$Cart;)V"⟩
abbrev cX1_part : ByteArray := prog_3_method_3_code
def yX1_part : MethodName := ⟨RX1, "part", "(I)I"⟩
abbrev cX1_isWaiting : ByteArray := prog_3_method_4_code
def yX1_isWaiting : MethodName := ⟨RX1, "isWaiting", "()Z"⟩
abbrev cX1_lowest : ByteArray := prog_3_method_5_code
def yX1_lowest : MethodName := ⟨RX1, "lowest", "(LBridgeWardens$Bridge;)I"⟩
abbrev cX1_highest : ByteArray := prog_3_method_6_code
def yX1_highest : MethodName := ⟨RX1, "highest", "(LBridgeWardens$Bridge;)I"⟩
abbrev cX1_numbersLeft : ByteArray := prog_3_method_7_code
def yX1_numbersLeft : MethodName := ⟨RX1, "numbersLeft", "(LBridgeWardens$Bridge;)I"⟩
abbrev cX1_forget : ByteArray := prog_3_method_8_code
def yX1_forget : MethodName := ⟨RX1, "forget", "(LBridgeWardens$Bridge;)V"⟩
abbrev cX1_halve : ByteArray := prog_3_method_9_code
def yX1_halve : MethodName := ⟨RX1, "halve", "(LBridgeWardens$Bridge;)V"⟩
abbrev cX1_numbersNearer : ByteArray := prog_3_method_10_code
def yX1_numbersNearer : MethodName := ⟨RX1, "numbersNearer", "(LBridgeWardens$Bridge;II)I"⟩
abbrev cX1_pay : ByteArray := prog_3_method_11_code
def yX1_pay : MethodName := ⟨RX1, "pay", "(ILBridgeWardens$Bridge;)V"⟩
abbrev cX1_takeGift : ByteArray := prog_3_method_12_code
def yX1_takeGift : MethodName := ⟨RX1, "takeGift", "(ILBridgeWardens$Bridge;)V"⟩
def RX2 : String := "BridgeWardens$History"
def TX2 : u_T := fun k => match k with
  | 0 => ("BridgeWardens$History", "states", "[LBridgeWardens$World;", true)
  | 1 => ("BridgeWardens$History", "spare", "I", false)
  | _ => ("BridgeWardens$History", "undoable", "I", false)
def tyX2 : Nat → FieldType := fun k => match k with
  | 0 => .array (.object "BridgeWardens$World")
  | 1 => .int
  | _ => .int
abbrev wsX20 : List Cond := u_ws RX2 TX2 3
theorem nmX2 : ∀ a, a < 3 → ∀ b, b < 3 → a ≠ b → (TX2 a).2.1 ≠ (TX2 b).2.1 := by decide +kernel
theorem tyX2_ok : ∀ k, k < 3 → parseFieldDescriptor (TX2 k).2.2.1 = some (tyX2 k) := by decide +kernel
abbrev cX2_init : ByteArray := prog_4_method_1_code
def yX2_init : MethodName := ⟨RX2, "<init>", "()V"⟩
abbrev cX2_note : ByteArray := prog_4_method_2_code
def yX2_note : MethodName := ⟨RX2, "note", "(LBridgeWardens$World;)V"⟩
abbrev cX2_keepNoted : ByteArray := prog_4_method_3_code
def yX2_keepNoted : MethodName := ⟨RX2, "keepNoted", "()V"⟩
abbrev cX2_takeBack : ByteArray := prog_4_method_4_code
def yX2_takeBack : MethodName := ⟨RX2, "takeBack", "(LBridgeWardens$World;)V"⟩
def RX3 : String := "BridgeWardens$OrderReader"
def TX3 : u_T := fun k => match k with
  | 0 => ("BridgeWardens$OrderReader", "pad", "LBridgeWardens$Pad;", true)
  | 1 => ("BridgeWardens$OrderReader", "place", "I", false)
  | 2 => ("BridgeWardens$OrderReader", "kind", "I", false)
  | 3 => ("BridgeWardens$OrderReader", "first", "I", false)
  | 4 => ("BridgeWardens$OrderReader", "second", "I", false)
  | _ => ("BridgeWardens$OrderReader", "third", "I", false)
def tyX3 : Nat → FieldType := fun k => match k with
  | 0 => .object "BridgeWardens$Pad"
  | 1 => .int
  | 2 => .int
  | 3 => .int
  | 4 => .int
  | _ => .int
abbrev wsX30 : List Cond := u_ws RX3 TX3 6
theorem nmX3 : ∀ a, a < 6 → ∀ b, b < 6 → a ≠ b → (TX3 a).2.1 ≠ (TX3 b).2.1 := by decide +kernel
theorem tyX3_ok : ∀ k, k < 6 → parseFieldDescriptor (TX3 k).2.2.1 = some (tyX3 k) := by decide +kernel
abbrev cX3_init : ByteArray := prog_5_method_1_code
def yX3_init : MethodName := ⟨RX3, "<init>", "(LBridgeWardens$Pad;)V"⟩
abbrev cX3_goToStart : ByteArray := prog_5_method_2_code
def yX3_goToStart : MethodName := ⟨RX3, "goToStart", "()V"⟩
abbrev cX3_faultPlace : ByteArray := prog_5_method_3_code
def yX3_faultPlace : MethodName := ⟨RX3, "faultPlace", "()I"⟩
abbrev cX3_readOrder : ByteArray := prog_5_method_4_code
def yX3_readOrder : MethodName := ⟨RX3, "readOrder", "()Z"⟩
abbrev cX3_readSign : ByteArray := prog_5_method_5_code
def yX3_readSign : MethodName := ⟨RX3, "readSign", "(I)Z"⟩
abbrev cX3_isKind : ByteArray := prog_5_method_6_code
def yX3_isKind : MethodName := ⟨RX3, "isKind", "(I)Z"⟩
abbrev cX3_readDigit : ByteArray := prog_5_method_7_code
def yX3_readDigit : MethodName := ⟨RX3, "readDigit", "()Z"⟩
abbrev cX3_readDigitPair : ByteArray := prog_5_method_8_code
def yX3_readDigitPair : MethodName := ⟨RX3, "readDigitPair", "()Z"⟩
abbrev cX3_readSecond : ByteArray := prog_5_method_9_code
def yX3_readSecond : MethodName := ⟨RX3, "readSecond", "()Z"⟩
abbrev cX3_readThird : ByteArray := prog_5_method_10_code
def yX3_readThird : MethodName := ⟨RX3, "readThird", "()Z"⟩
abbrev cX3_readNumber : ByteArray := prog_5_method_11_code
def yX3_readNumber : MethodName := ⟨RX3, "readNumber", "()I"⟩
abbrev cX3_nextDigit : ByteArray := prog_5_method_12_code
def yX3_nextDigit : MethodName := ⟨RX3, "nextDigit", "()I"⟩
def RX4 : String := "BridgeWardens$Pad"
def TX4 : u_T := fun k => match k with
  | 0 => ("BridgeWardens$Pad", "codes", "[I", true)
  | _ => ("BridgeWardens$Pad", "length", "I", false)
def tyX4 : Nat → FieldType := fun k => match k with
  | 0 => .array .int
  | _ => .int
abbrev wsX40 : List Cond := u_ws RX4 TX4 2
theorem nmX4 : ∀ a, a < 2 → ∀ b, b < 2 → a ≠ b → (TX4 a).2.1 ≠ (TX4 b).2.1 := by decide +kernel
theorem tyX4_ok : ∀ k, k < 2 → parseFieldDescriptor (TX4 k).2.2.1 = some (tyX4 k) := by decide +kernel
abbrev cX4_init : ByteArray := prog_6_method_1_code
def yX4_init : MethodName := ⟨RX4, "<init>", "()V"⟩
abbrev cX4_clear : ByteArray := prog_6_method_2_code
def yX4_clear : MethodName := ⟨RX4, "clear", "()V"⟩
abbrev cX4_codeAt : ByteArray := prog_6_method_3_code
def yX4_codeAt : MethodName := ⟨RX4, "codeAt", "(I)I"⟩
abbrev cX4_append : ByteArray := prog_6_method_4_code
def yX4_append : MethodName := ⟨RX4, "append", "(I)V"⟩
abbrev cX4_appendNumber : ByteArray := prog_6_method_5_code
def yX4_appendNumber : MethodName := ⟨RX4, "appendNumber", "(I)V"⟩
def RX5 : String := "BridgeWardens$World"
def TX5 : u_T := fun k => match k with
  | 0 => ("BridgeWardens$World", "settings", "[I", true)
  | 1 => ("BridgeWardens$World", "bridges", "[LBridgeWardens$Bridge;", true)
  | 2 => ("BridgeWardens$World", "carts", "[LBridgeWardens$Cart;", true)
  | 3 => ("BridgeWardens$World", "line", "[I", true)
  | 4 => ("BridgeWardens$World", "lineLength", "I", false)
  | 5 => ("BridgeWardens$World", "bridgeCount", "I", false)
  | 6 => ("BridgeWardens$World", "cartCount", "I", false)
  | 7 => ("BridgeWardens$World", "seed", "I", false)
  | 8 => ("BridgeWardens$World", "hours", "I", false)
  | 9 => ("BridgeWardens$World", "coinsBrought", "I", false)
  | _ => ("BridgeWardens$World", "hints", "I", false)
def tyX5 : Nat → FieldType := fun k => match k with
  | 0 => .array .int
  | 1 => .array (.object "BridgeWardens$Bridge")
  | 2 => .array (.object "BridgeWardens$Cart")
  | 3 => .array .int
  | 4 => .int
  | 5 => .int
  | 6 => .int
  | 7 => .int
  | 8 => .int
  | 9 => .int
  | _ => .int
abbrev wsX50 : List Cond := u_ws RX5 TX5 11
theorem nmX5 : ∀ a, a < 11 → ∀ b, b < 11 → a ≠ b → (TX5 a).2.1 ≠ (TX5 b).2.1 := by decide +kernel
theorem tyX5_ok : ∀ k, k < 11 → parseFieldDescriptor (TX5 k).2.2.1 = some (tyX5 k) := by decide +kernel
abbrev cX5_init : ByteArray := prog_7_method_1_code
def yX5_init : MethodName := ⟨RX5, "<init>", "()V"⟩
abbrev cX5_copyFrom : ByteArray := prog_7_method_2_code
def yX5_copyFrom : MethodName := ⟨RX5, "copyFrom", "(LBridgeWardens$World;)V"⟩
abbrev cX5_bridgeOf : ByteArray := prog_7_method_3_code
def yX5_bridgeOf : MethodName := ⟨RX5, "bridgeOf", "(I)LBridgeWardens$Bridge;"⟩
abbrev cX5_cartOf : ByteArray := prog_7_method_4_code
def yX5_cartOf : MethodName := ⟨RX5, "cartOf", "(I)LBridgeWardens$Cart;"⟩
abbrev cX5_changeSetting : ByteArray := prog_7_method_5_code
def yX5_changeSetting : MethodName := ⟨RX5, "changeSetting", "(II)I"⟩
abbrev cX5_addBridge : ByteArray := prog_7_method_6_code
def yX5_addBridge : MethodName := ⟨RX5, "addBridge", "(III)I"⟩
abbrev cX5_addCart : ByteArray := prog_7_method_7_code
def yX5_addCart : MethodName := ⟨RX5, "addCart", "(II)I"⟩
abbrev cX5_comeToWait : ByteArray := prog_7_method_8_code
def yX5_comeToWait : MethodName := ⟨RX5, "comeToWait", "(III)I"⟩
abbrev cX5_stopWaiting : ByteArray := prog_7_method_9_code
def yX5_stopWaiting : MethodName := ⟨RX5, "stopWaiting", "(I)I"⟩
abbrev cX5_buyHint : ByteArray := prog_7_method_10_code
def yX5_buyHint : MethodName := ⟨RX5, "buyHint", "(II)I"⟩
abbrev cX5_passHours : ByteArray := prog_7_method_11_code
def yX5_passHours : MethodName := ⟨RX5, "passHours", "(I)I"⟩
abbrev cX5_playHour : ByteArray := prog_7_method_12_code
def yX5_playHour : MethodName := ⟨RX5, "playHour", "()I"⟩
abbrev cX5_letOver : ByteArray := prog_7_method_13_code
def yX5_letOver : MethodName := ⟨RX5, "letOver", "(LBridgeWardens$Bridge;)I"⟩
abbrev cX5_comerOver : ByteArray := prog_7_method_14_code
def yX5_comerOver : MethodName := ⟨RX5, "comerOver", "(LBridgeWardens$Bridge;)LBridgeWardens$Cart;"⟩
abbrev cX5_isTied : ByteArray := prog_7_method_15_code
def yX5_isTied : MethodName := ⟨RX5, "isTied", "(LBridgeWardens$Bridge;)Z"⟩
abbrev cX5_payerOfTie : ByteArray := prog_7_method_16_code
def yX5_payerOfTie : MethodName := ⟨RX5, "payerOfTie", "(LBridgeWardens$Cart;LBridgeWardens$Cart;)LBridgeWardens$Cart;"⟩
abbrev cX5_release : ByteArray := prog_7_method_17_code
def yX5_release : MethodName := ⟨RX5, "release", "(LBridgeWardens$Cart;LBridgeWardens$Bridge;)V"⟩
abbrev cX5_drawRiddle : ByteArray := prog_7_method_18_code
def yX5_drawRiddle : MethodName := ⟨RX5, "drawRiddle", "(LBridgeWardens$Bridge;)V"⟩
abbrev cX5_waiterAt : ByteArray := prog_7_method_19_code
def yX5_waiterAt : MethodName := ⟨RX5, "waiterAt", "(LBridgeWardens$Bridge;I)LBridgeWardens$Cart;"⟩
abbrev cX5_reasonToStay : ByteArray := prog_7_method_20_code
def yX5_reasonToStay : MethodName := ⟨RX5, "reasonToStay", "(LBridgeWardens$Cart;)I"⟩
abbrev cX5_total : ByteArray := prog_7_method_21_code
def yX5_total : MethodName := ⟨RX5, "total", "(I)I"⟩
abbrev cX5_waitingSet : ByteArray := prog_7_method_22_code
def yX5_waitingSet : MethodName := ⟨RX5, "waitingSet", "()I"⟩
abbrev cX5_sumOverCarts : ByteArray := prog_7_method_23_code
def yX5_sumOverCarts : MethodName := ⟨RX5, "sumOverCarts", "(I)I"⟩
abbrev cX5_sumOverBridges : ByteArray := prog_7_method_24_code
def yX5_sumOverBridges : MethodName := ⟨RX5, "sumOverBridges", "(I)I"⟩
abbrev cX5_stepsBetween : ByteArray := prog_7_method_25_code
def yX5_stepsBetween : MethodName := ⟨RX5, "stepsBetween", "(II)I"⟩
abbrev cX5_withNeighbours : ByteArray := prog_7_method_26_code
def yX5_withNeighbours : MethodName := ⟨RX5, "withNeighbours", "(I)I"⟩
abbrev cX5_firstBridge : ByteArray := prog_7_method_27_code
def yX5_firstBridge : MethodName := ⟨RX5, "firstBridge", "(III)I"⟩
def RX6 : String := "BridgeWardens"
def TX6 : u_T := fun k => match k with
  | 0 => ("BridgeWardens", "now", "LBridgeWardens$World;", true)
  | 1 => ("BridgeWardens", "trial", "LBridgeWardens$World;", true)
  | 2 => ("BridgeWardens", "history", "LBridgeWardens$History;", true)
  | 3 => ("BridgeWardens", "slots", "[LBridgeWardens$World;", true)
  | 4 => ("BridgeWardens", "saved", "[Z", true)
  | 5 => ("BridgeWardens", "pad", "LBridgeWardens$Pad;", true)
  | _ => ("BridgeWardens", "orders", "LBridgeWardens$OrderReader;", true)
def tyX6 : Nat → FieldType := fun k => match k with
  | 0 => .object "BridgeWardens$World"
  | 1 => .object "BridgeWardens$World"
  | 2 => .object "BridgeWardens$History"
  | 3 => .array (.object "BridgeWardens$World")
  | 4 => .array .boolean
  | 5 => .object "BridgeWardens$Pad"
  | _ => .object "BridgeWardens$OrderReader"
abbrev wsX60 : List Cond := u_ws RX6 TX6 7
theorem nmX6 : ∀ a, a < 7 → ∀ b, b < 7 → a ≠ b → (TX6 a).2.1 ≠ (TX6 b).2.1 := by decide +kernel
theorem tyX6_ok : ∀ k, k < 7 → parseFieldDescriptor (TX6 k).2.2.1 = some (tyX6 k) := by decide +kernel
abbrev cX6_init : ByteArray := prog_1_method_1_code
def yX6_init : MethodName := ⟨RX6, "<init>", "()V"⟩
abbrev cX6_set : ByteArray := prog_1_method_2_code
def yX6_set : MethodName := ⟨RX6, "set", "(II)I"⟩
abbrev cX6_bridge : ByteArray := prog_1_method_3_code
def yX6_bridge : MethodName := ⟨RX6, "bridge", "(III)I"⟩
abbrev cX6_cart : ByteArray := prog_1_method_4_code
def yX6_cart : MethodName := ⟨RX6, "cart", "(II)I"⟩
abbrev cX6_guess : ByteArray := prog_1_method_5_code
def yX6_guess : MethodName := ⟨RX6, "guess", "(III)I"⟩
abbrev cX6_leave : ByteArray := prog_1_method_6_code
def yX6_leave : MethodName := ⟨RX6, "leave", "(I)I"⟩
abbrev cX6_hint : ByteArray := prog_1_method_7_code
def yX6_hint : MethodName := ⟨RX6, "hint", "(II)I"⟩
abbrev cX6_pass : ByteArray := prog_1_method_8_code
def yX6_pass : MethodName := ⟨RX6, "pass", "(I)I"⟩
abbrev cX6_write : ByteArray := prog_1_method_9_code
def yX6_write : MethodName := ⟨RX6, "write", "(I)I"⟩
abbrev cX6_ofBridge : ByteArray := prog_1_method_10_code
def yX6_ofBridge : MethodName := ⟨RX6, "ofBridge", "(II)I"⟩
abbrev cX6_ofCart : ByteArray := prog_1_method_11_code
def yX6_ofCart : MethodName := ⟨RX6, "ofCart", "(II)I"⟩
abbrev cX6_knows : ByteArray := prog_1_method_12_code
def yX6_knows : MethodName := ⟨RX6, "knows", "(III)I"⟩
abbrev cX6_waits : ByteArray := prog_1_method_13_code
def yX6_waits : MethodName := ⟨RX6, "waits", "(II)I"⟩
abbrev cX6_sign : ByteArray := prog_1_method_14_code
def yX6_sign : MethodName := ⟨RX6, "sign", "(I)I"⟩
abbrev cX6_count : ByteArray := prog_1_method_15_code
def yX6_count : MethodName := ⟨RX6, "count", "(I)I"⟩
abbrev cX6_next : ByteArray := prog_1_method_16_code
def yX6_next : MethodName := ⟨RX6, "next", "(I)I"⟩
abbrev cX6_why : ByteArray := prog_1_method_17_code
def yX6_why : MethodName := ⟨RX6, "why", "(I)I"⟩
abbrev cX6_overIn : ByteArray := prog_1_method_18_code
def yX6_overIn : MethodName := ⟨RX6, "overIn", "(I)I"⟩
abbrev cX6_wins : ByteArray := prog_1_method_19_code
def yX6_wins : MethodName := ⟨RX6, "wins", "(IIII)I"⟩
abbrev cX6_bestGuess : ByteArray := prog_1_method_20_code
def yX6_bestGuess : MethodName := ⟨RX6, "bestGuess", "(IIII)I"⟩
abbrev cX6_route : ByteArray := prog_1_method_21_code
def yX6_route : MethodName := ⟨RX6, "route", "(III)I"⟩
abbrev cX6_would : ByteArray := prog_1_method_22_code
def yX6_would : MethodName := ⟨RX6, "would", "(II)I"⟩
abbrev cX6_put : ByteArray := prog_1_method_23_code
def yX6_put : MethodName := ⟨RX6, "put", "(J)I"⟩
abbrev cX6_wipe : ByteArray := prog_1_method_24_code
def yX6_wipe : MethodName := ⟨RX6, "wipe", "()I"⟩
abbrev cX6_fault : ByteArray := prog_1_method_25_code
def yX6_fault : MethodName := ⟨RX6, "fault", "()I"⟩
abbrev cX6_carryOut : ByteArray := prog_1_method_26_code
def yX6_carryOut : MethodName := ⟨RX6, "carryOut", "()I"⟩
abbrev cX6_undo : ByteArray := prog_1_method_27_code
def yX6_undo : MethodName := ⟨RX6, "undo", "()I"⟩
abbrev cX6_save : ByteArray := prog_1_method_28_code
def yX6_save : MethodName := ⟨RX6, "save", "(I)I"⟩
abbrev cX6_restore : ByteArray := prog_1_method_29_code
def yX6_restore : MethodName := ⟨RX6, "restore", "(I)I"⟩
abbrev cX6_isBelow : ByteArray := prog_1_method_30_code
def yX6_isBelow : MethodName := ⟨RX6, "isBelow", "(II)Z"⟩
abbrev cX6_numberOf : ByteArray := prog_1_method_31_code
def yX6_numberOf : MethodName := ⟨RX6, "numberOf", "(LBridgeWardens$Cart;I)I"⟩
abbrev cX6_recorded : ByteArray := prog_1_method_32_code
def yX6_recorded : MethodName := ⟨RX6, "recorded", "(I)I"⟩
abbrev cX6_signsIn : ByteArray := prog_1_method_33_code
def yX6_signsIn : MethodName := ⟨RX6, "signsIn", "(J)I"⟩
abbrev cX6_appendNote : ByteArray := prog_1_method_34_code
def yX6_appendNote : MethodName := ⟨RX6, "appendNote", "(LBridgeWardens$Cart;)V"⟩
abbrev cX6_obey : ByteArray := prog_1_method_35_code
def yX6_obey : MethodName := ⟨RX6, "obey", "()I"⟩
def RX7 : String := "BridgeWardensModel"
def TX7 : u_T := fun k => match k with
  | 0 => ("BridgeWardensModel", "s", "[I", true)
  | 1 => ("BridgeWardensModel", "states", "I", false)
  | 2 => ("BridgeWardensModel", "isSaved", "[Z", true)
  | 3 => ("BridgeWardensModel", "text", "[I", true)
  | 4 => ("BridgeWardensModel", "typed", "I", false)
  | 5 => ("BridgeWardensModel", "spot", "I", false)
  | 6 => ("BridgeWardensModel", "kind", "C", false)
  | 7 => ("BridgeWardensModel", "one", "I", false)
  | 8 => ("BridgeWardensModel", "two", "I", false)
  | 9 => ("BridgeWardensModel", "three", "I", false)
  | _ => ("BridgeWardensModel", "away", "[I", true)
def tyX7 : Nat → FieldType := fun k => match k with
  | 0 => .array .int
  | 1 => .int
  | 2 => .array .boolean
  | 3 => .array .int
  | 4 => .int
  | 5 => .int
  | 6 => .char
  | 7 => .int
  | 8 => .int
  | 9 => .int
  | _ => .array .int
abbrev wsX70 : List Cond := u_ws RX7 TX7 11
theorem nmX7 : ∀ a, a < 11 → ∀ b, b < 11 → a ≠ b → (TX7 a).2.1 ≠ (TX7 b).2.1 := by decide +kernel
theorem tyX7_ok : ∀ k, k < 11 → parseFieldDescriptor (TX7 k).2.2.1 = some (tyX7 k) := by decide +kernel
abbrev cX7_init : ByteArray := prog_9_method_1_code
def yX7_init : MethodName := ⟨RX7, "<init>", "()V"⟩
abbrev cX7_in : ByteArray := prog_9_method_3_code
def yX7_in : MethodName := ⟨RX7, "in", "(JJJ)Z"⟩
abbrev cX7_copies : ByteArray := prog_9_method_4_code
def yX7_copies : MethodName := ⟨RX7, "copies", "(II)V"⟩
abbrev cX7_changes : ByteArray := prog_9_method_5_code
def yX7_changes : MethodName := ⟨RX7, "changes", "()V"⟩
abbrev cX7_bridgeAt : ByteArray := prog_9_method_6_code
def yX7_bridgeAt : MethodName := ⟨RX7, "bridgeAt", "(II)I"⟩
abbrev cX7_cartAt : ByteArray := prog_9_method_7_code
def yX7_cartAt : MethodName := ⟨RX7, "cartAt", "(II)I"⟩
abbrev cX7_rangeAt : ByteArray := prog_9_method_8_code
def yX7_rangeAt : MethodName := ⟨RX7, "rangeAt", "(III)I"⟩
abbrev cX7_isAt : ByteArray := prog_9_method_9_code
def yX7_isAt : MethodName := ⟨RX7, "isAt", "(III)Z"⟩
abbrev cX7_draws : ByteArray := prog_9_method_10_code
def yX7_draws : MethodName := ⟨RX7, "draws", "(II)V"⟩
abbrev cX7_many : ByteArray := prog_9_method_11_code
def yX7_many : MethodName := ⟨RX7, "many", "(II)I"⟩
abbrev cX7_waiter : ByteArray := prog_9_method_12_code
def yX7_waiter : MethodName := ⟨RX7, "waiter", "(III)I"⟩
abbrev cX7_size : ByteArray := prog_9_method_13_code
def yX7_size : MethodName := ⟨RX7, "size", "(I)I"⟩
abbrev cX7_far : ByteArray := prog_9_method_14_code
def yX7_far : MethodName := ⟨RX7, "far", "(II)I"⟩
abbrev cX7_areAsNear : ByteArray := prog_9_method_15_code
def yX7_areAsNear : MethodName := ⟨RX7, "areAsNear", "(II)Z"⟩
abbrev cX7_comer : ByteArray := prog_9_method_16_code
def yX7_comer : MethodName := ⟨RX7, "comer", "(II)I"⟩
abbrev cX7_pays : ByteArray := prog_9_method_17_code
def yX7_pays : MethodName := ⟨RX7, "pays", "(IIII)V"⟩
abbrev cX7_stopsWaiting : ByteArray := prog_9_method_18_code
def yX7_stopsWaiting : MethodName := ⟨RX7, "stopsWaiting", "(II)V"⟩
abbrev cX7_opens : ByteArray := prog_9_method_19_code
def yX7_opens : MethodName := ⟨RX7, "opens", "(II)Z"⟩
abbrev cX7_hour : ByteArray := prog_9_method_20_code
def yX7_hour : MethodName := ⟨RX7, "hour", "(I)I"⟩
abbrev cX7_hours : ByteArray := prog_9_method_21_code
def yX7_hours : MethodName := ⟨RX7, "hours", "(II)I"⟩
abbrev cX7_ofCarts : ByteArray := prog_9_method_22_code
def yX7_ofCarts : MethodName := ⟨RX7, "ofCarts", "(II)I"⟩
abbrev cX7_waitingSet : ByteArray := prog_9_method_23_code
def yX7_waitingSet : MethodName := ⟨RX7, "waitingSet", "(I)I"⟩
abbrev cX7_isTown : ByteArray := prog_9_method_24_code
def yX7_isTown : MethodName := ⟨RX7, "isTown", "(I)Z"⟩
abbrev cX7_isBridge : ByteArray := prog_9_method_25_code
def yX7_isBridge : MethodName := ⟨RX7, "isBridge", "(I)Z"⟩
abbrev cX7_isCart : ByteArray := prog_9_method_26_code
def yX7_isCart : MethodName := ⟨RX7, "isCart", "(I)Z"⟩
abbrev cX7_isNumber : ByteArray := prog_9_method_27_code
def yX7_isNumber : MethodName := ⟨RX7, "isNumber", "(II)Z"⟩
abbrev cX7_bridgeError : ByteArray := prog_9_method_28_code
def yX7_bridgeError : MethodName := ⟨RX7, "bridgeError", "(III)I"⟩
abbrev cX7_cartError : ByteArray := prog_9_method_29_code
def yX7_cartError : MethodName := ⟨RX7, "cartError", "(II)I"⟩
abbrev cX7_guessError : ByteArray := prog_9_method_30_code
def yX7_guessError : MethodName := ⟨RX7, "guessError", "(III)I"⟩
abbrev cX7_leaveError : ByteArray := prog_9_method_31_code
def yX7_leaveError : MethodName := ⟨RX7, "leaveError", "(I)I"⟩
abbrev cX7_hintError : ByteArray := prog_9_method_32_code
def yX7_hintError : MethodName := ⟨RX7, "hintError", "(II)I"⟩
abbrev cX7_passError : ByteArray := prog_9_method_33_code
def yX7_passError : MethodName := ⟨RX7, "passError", "(I)I"⟩
abbrev cX7_builds : ByteArray := prog_9_method_34_code
def yX7_builds : MethodName := ⟨RX7, "builds", "(III)I"⟩
abbrev cX7_comes : ByteArray := prog_9_method_35_code
def yX7_comes : MethodName := ⟨RX7, "comes", "(II)I"⟩
abbrev cX7_guesses : ByteArray := prog_9_method_36_code
def yX7_guesses : MethodName := ⟨RX7, "guesses", "(III)I"⟩
abbrev cX7_leaves : ByteArray := prog_9_method_37_code
def yX7_leaves : MethodName := ⟨RX7, "leaves", "(I)I"⟩
abbrev cX7_hints : ByteArray := prog_9_method_38_code
def yX7_hints : MethodName := ⟨RX7, "hints", "(II)I"⟩
abbrev cX7_isValue : ByteArray := prog_9_method_39_code
def yX7_isValue : MethodName := ⟨RX7, "isValue", "(II)Z"⟩
abbrev cX7_set : ByteArray := prog_9_method_40_code
def yX7_set : MethodName := ⟨RX7, "set", "(II)I"⟩
abbrev cX7_bridge : ByteArray := prog_9_method_41_code
def yX7_bridge : MethodName := ⟨RX7, "bridge", "(III)I"⟩
abbrev cX7_cart : ByteArray := prog_9_method_42_code
def yX7_cart : MethodName := ⟨RX7, "cart", "(II)I"⟩
abbrev cX7_guess : ByteArray := prog_9_method_43_code
def yX7_guess : MethodName := ⟨RX7, "guess", "(III)I"⟩
abbrev cX7_leave : ByteArray := prog_9_method_44_code
def yX7_leave : MethodName := ⟨RX7, "leave", "(I)I"⟩
abbrev cX7_hint : ByteArray := prog_9_method_45_code
def yX7_hint : MethodName := ⟨RX7, "hint", "(II)I"⟩
abbrev cX7_pass : ByteArray := prog_9_method_46_code
def yX7_pass : MethodName := ⟨RX7, "pass", "(I)I"⟩
abbrev cX7_types : ByteArray := prog_9_method_47_code
def yX7_types : MethodName := ⟨RX7, "types", "(I)V"⟩
abbrev cX7_typesNumber : ByteArray := prog_9_method_48_code
def yX7_typesNumber : MethodName := ⟨RX7, "typesNumber", "(I)V"⟩
abbrev cX7_write : ByteArray := prog_9_method_49_code
def yX7_write : MethodName := ⟨RX7, "write", "(I)I"⟩
abbrev cX7_ofBridge : ByteArray := prog_9_method_50_code
def yX7_ofBridge : MethodName := ⟨RX7, "ofBridge", "(II)I"⟩
abbrev cX7_ofCart : ByteArray := prog_9_method_51_code
def yX7_ofCart : MethodName := ⟨RX7, "ofCart", "(II)I"⟩
abbrev cX7_knows : ByteArray := prog_9_method_52_code
def yX7_knows : MethodName := ⟨RX7, "knows", "(III)I"⟩
abbrev cX7_waits : ByteArray := prog_9_method_53_code
def yX7_waits : MethodName := ⟨RX7, "waits", "(II)I"⟩
abbrev cX7_sign : ByteArray := prog_9_method_54_code
def yX7_sign : MethodName := ⟨RX7, "sign", "(I)I"⟩
abbrev cX7_inTills : ByteArray := prog_9_method_55_code
def yX7_inTills : MethodName := ⟨RX7, "inTills", "()I"⟩
abbrev cX7_count : ByteArray := prog_9_method_56_code
def yX7_count : MethodName := ⟨RX7, "count", "(I)I"⟩
abbrev cX7_next : ByteArray := prog_9_method_57_code
def yX7_next : MethodName := ⟨RX7, "next", "(I)I"⟩
abbrev cX7_why : ByteArray := prog_9_method_58_code
def yX7_why : MethodName := ⟨RX7, "why", "(I)I"⟩
abbrev cX7_overIn : ByteArray := prog_9_method_59_code
def yX7_overIn : MethodName := ⟨RX7, "overIn", "(I)I"⟩
abbrev cX7_nearer : ByteArray := prog_9_method_60_code
def yX7_nearer : MethodName := ⟨RX7, "nearer", "(IIII)I"⟩
abbrev cX7_wins : ByteArray := prog_9_method_61_code
def yX7_wins : MethodName := ⟨RX7, "wins", "(IIII)I"⟩
abbrev cX7_bestGuess : ByteArray := prog_9_method_62_code
def yX7_bestGuess : MethodName := ⟨RX7, "bestGuess", "(IIII)I"⟩
abbrev cX7_measures : ByteArray := prog_9_method_63_code
def yX7_measures : MethodName := ⟨RX7, "measures", "(I)V"⟩
abbrev cX7_firstBridge : ByteArray := prog_9_method_64_code
def yX7_firstBridge : MethodName := ⟨RX7, "firstBridge", "(I)I"⟩
abbrev cX7_route : ByteArray := prog_9_method_65_code
def yX7_route : MethodName := ⟨RX7, "route", "(III)I"⟩
abbrev cX7_would : ByteArray := prog_9_method_66_code
def yX7_would : MethodName := ⟨RX7, "would", "(II)I"⟩
abbrev cX7_charactersOf : ByteArray := prog_9_method_67_code
def yX7_charactersOf : MethodName := ⟨RX7, "charactersOf", "(J)I"⟩
abbrev cX7_put : ByteArray := prog_9_method_68_code
def yX7_put : MethodName := ⟨RX7, "put", "(J)I"⟩
abbrev cX7_wipe : ByteArray := prog_9_method_69_code
def yX7_wipe : MethodName := ⟨RX7, "wipe", "()I"⟩
abbrev cX7_isHere : ByteArray := prog_9_method_70_code
def yX7_isHere : MethodName := ⟨RX7, "isHere", "(II)Z"⟩
abbrev cX7_takes : ByteArray := prog_9_method_71_code
def yX7_takes : MethodName := ⟨RX7, "takes", "(I)Z"⟩
abbrev cX7_digit : ByteArray := prog_9_method_72_code
def yX7_digit : MethodName := ⟨RX7, "digit", "()I"⟩
abbrev cX7_number : ByteArray := prog_9_method_73_code
def yX7_number : MethodName := ⟨RX7, "number", "()I"⟩
abbrev cX7_readsOne : ByteArray := prog_9_method_74_code
def yX7_readsOne : MethodName := ⟨RX7, "readsOne", "()Z"⟩
abbrev cX7_readsTwo : ByteArray := prog_9_method_75_code
def yX7_readsTwo : MethodName := ⟨RX7, "readsTwo", "(Z)Z"⟩
abbrev cX7_readsThree : ByteArray := prog_9_method_76_code
def yX7_readsThree : MethodName := ⟨RX7, "readsThree", "()Z"⟩
abbrev cX7_readsOrder : ByteArray := prog_9_method_77_code
def yX7_readsOrder : MethodName := ⟨RX7, "readsOrder", "()Z"⟩
abbrev cX7_fault : ByteArray := prog_9_method_78_code
def yX7_fault : MethodName := ⟨RX7, "fault", "()I"⟩
abbrev cX7_orderError : ByteArray := prog_9_method_79_code
def yX7_orderError : MethodName := ⟨RX7, "orderError", "()I"⟩
abbrev cX7_does : ByteArray := prog_9_method_80_code
def yX7_does : MethodName := ⟨RX7, "does", "()I"⟩
abbrev cX7_carryOut : ByteArray := prog_9_method_81_code
def yX7_carryOut : MethodName := ⟨RX7, "carryOut", "()I"⟩
abbrev cX7_undo : ByteArray := prog_9_method_82_code
def yX7_undo : MethodName := ⟨RX7, "undo", "()I"⟩
abbrev cX7_isSlot : ByteArray := prog_9_method_83_code
def yX7_isSlot : MethodName := ⟨RX7, "isSlot", "(I)Z"⟩
abbrev cX7_save : ByteArray := prog_9_method_84_code
def yX7_save : MethodName := ⟨RX7, "save", "(I)I"⟩
abbrev cX7_restore : ByteArray := prog_9_method_85_code
def yX7_restore : MethodName := ⟨RX7, "restore", "(I)I"⟩
def RJ9 : String := "java/lang/Math"
def RJ10 : String := "java/lang/System"
def RL : String := "BridgeWardensLaw"
abbrev cL_law : ByteArray := code
def yL_law : MethodName := ⟨RL, "law", "([I)Z"⟩
abbrev vwCl : List vw_C := [(RX0, TX0, 9), (RX1, TX1, 11), (RX2, TX2, 3), (RX3, TX3, 6), (RX4, TX4, 2), (RX5, TX5, 11), (RX6, TX6, 7), (RX7, TX7, 11)]
end
section
theorem dX0_init_0 : decode cX0_init 0 = .ok (.aload_n 0, 1) := by decide +kernel
theorem dX0_init_1 : decode cX0_init 1 = .ok (.invokespecial 3, 3) := by decide +kernel
theorem dX0_init_4 : decode cX0_init 4 = .ok (.aload_n 0, 1) := by decide +kernel
theorem dX0_init_5 : decode cX0_init 5 = .ok (.iload_n 1, 1) := by decide +kernel
theorem dX0_init_6 : decode cX0_init 6 = .ok (.putfield 9, 3) := by decide +kernel
theorem dX0_init_9 : decode cX0_init 9 = .ok (.return_, 1) := by decide +kernel
theorem dX0_copyFrom_0 : decode cX0_copyFrom 0 = .ok (.aload_n 0, 1) := by decide +kernel
theorem dX0_copyFrom_1 : decode cX0_copyFrom 1 = .ok (.aload_n 1, 1) := by decide +kernel
theorem dX0_copyFrom_2 : decode cX0_copyFrom 2 = .ok (.getfield 15, 3) := by decide +kernel
theorem dX0_copyFrom_5 : decode cX0_copyFrom 5 = .ok (.putfield 15, 3) := by decide +kernel
theorem dX0_copyFrom_8 : decode cX0_copyFrom 8 = .ok (.aload_n 0, 1) := by decide +kernel
theorem dX0_copyFrom_9 : decode cX0_copyFrom 9 = .ok (.aload_n 1, 1) := by decide +kernel
theorem dX0_copyFrom_10 : decode cX0_copyFrom 10 = .ok (.getfield 18, 3) := by decide +kernel
theorem dX0_copyFrom_13 : decode cX0_copyFrom 13 = .ok (.putfield 18, 3) := by decide +kernel
theorem dX0_copyFrom_16 : decode cX0_copyFrom 16 = .ok (.aload_n 0, 1) := by decide +kernel
theorem dX0_copyFrom_17 : decode cX0_copyFrom 17 = .ok (.aload_n 1, 1) := by decide +kernel
theorem dX0_copyFrom_18 : decode cX0_copyFrom 18 = .ok (.getfield 21, 3) := by decide +kernel
theorem dX0_copyFrom_21 : decode cX0_copyFrom 21 = .ok (.putfield 21, 3) := by decide +kernel
theorem dX0_copyFrom_24 : decode cX0_copyFrom 24 = .ok (.aload_n 0, 1) := by decide +kernel
theorem dX0_copyFrom_25 : decode cX0_copyFrom 25 = .ok (.aload_n 1, 1) := by decide +kernel
theorem dX0_copyFrom_26 : decode cX0_copyFrom 26 = .ok (.getfield 24, 3) := by decide +kernel
theorem dX0_copyFrom_29 : decode cX0_copyFrom 29 = .ok (.putfield 24, 3) := by decide +kernel
theorem dX0_copyFrom_32 : decode cX0_copyFrom 32 = .ok (.aload_n 0, 1) := by decide +kernel
theorem dX0_copyFrom_33 : decode cX0_copyFrom 33 = .ok (.aload_n 1, 1) := by decide +kernel
theorem dX0_copyFrom_34 : decode cX0_copyFrom 34 = .ok (.getfield 27, 3) := by decide +kernel
theorem dX0_copyFrom_37 : decode cX0_copyFrom 37 = .ok (.putfield 27, 3) := by decide +kernel
theorem dX0_copyFrom_40 : decode cX0_copyFrom 40 = .ok (.aload_n 0, 1) := by decide +kernel
theorem dX0_copyFrom_41 : decode cX0_copyFrom 41 = .ok (.aload_n 1, 1) := by decide +kernel
theorem dX0_copyFrom_42 : decode cX0_copyFrom 42 = .ok (.getfield 30, 3) := by decide +kernel
theorem dX0_copyFrom_45 : decode cX0_copyFrom 45 = .ok (.putfield 30, 3) := by decide +kernel
theorem dX0_copyFrom_48 : decode cX0_copyFrom 48 = .ok (.aload_n 0, 1) := by decide +kernel
theorem dX0_copyFrom_49 : decode cX0_copyFrom 49 = .ok (.aload_n 1, 1) := by decide +kernel
theorem dX0_copyFrom_50 : decode cX0_copyFrom 50 = .ok (.getfield 33, 3) := by decide +kernel
theorem dX0_copyFrom_53 : decode cX0_copyFrom 53 = .ok (.putfield 33, 3) := by decide +kernel
theorem dX0_copyFrom_56 : decode cX0_copyFrom 56 = .ok (.aload_n 0, 1) := by decide +kernel
theorem dX0_copyFrom_57 : decode cX0_copyFrom 57 = .ok (.aload_n 1, 1) := by decide +kernel
theorem dX0_copyFrom_58 : decode cX0_copyFrom 58 = .ok (.getfield 36, 3) := by decide +kernel
theorem dX0_copyFrom_61 : decode cX0_copyFrom 61 = .ok (.putfield 36, 3) := by decide +kernel
theorem dX0_copyFrom_64 : decode cX0_copyFrom 64 = .ok (.return_, 1) := by decide +kernel
theorem dX0_part_0 : decode cX0_part 0 = .ok (.iload_n 1, 1) := by decide +kernel
theorem dX0_part_1 : decode cX0_part 1 = .ok (.tableswitch 78 0 6 #[43, 48, 53, 58, 63, 68, 73], 43) := by decide +kernel
theorem dX0_part_44 : decode cX0_part 44 = .ok (.aload_n 0, 1) := by decide +kernel
theorem dX0_part_45 : decode cX0_part 45 = .ok (.getfield 15, 3) := by decide +kernel
theorem dX0_part_48 : decode cX0_part 48 = .ok (.ireturn, 1) := by decide +kernel
theorem dX0_part_49 : decode cX0_part 49 = .ok (.aload_n 0, 1) := by decide +kernel
theorem dX0_part_50 : decode cX0_part 50 = .ok (.getfield 18, 3) := by decide +kernel
theorem dX0_part_53 : decode cX0_part 53 = .ok (.ireturn, 1) := by decide +kernel
theorem dX0_part_54 : decode cX0_part 54 = .ok (.aload_n 0, 1) := by decide +kernel
theorem dX0_part_55 : decode cX0_part 55 = .ok (.getfield 21, 3) := by decide +kernel
theorem dX0_part_58 : decode cX0_part 58 = .ok (.ireturn, 1) := by decide +kernel
theorem dX0_part_59 : decode cX0_part 59 = .ok (.aload_n 0, 1) := by decide +kernel
theorem dX0_part_60 : decode cX0_part 60 = .ok (.getfield 24, 3) := by decide +kernel
theorem dX0_part_63 : decode cX0_part 63 = .ok (.ireturn, 1) := by decide +kernel
theorem dX0_part_64 : decode cX0_part 64 = .ok (.aload_n 0, 1) := by decide +kernel
theorem dX0_part_65 : decode cX0_part 65 = .ok (.getfield 27, 3) := by decide +kernel
theorem dX0_part_68 : decode cX0_part 68 = .ok (.ireturn, 1) := by decide +kernel
theorem dX0_part_69 : decode cX0_part 69 = .ok (.aload_n 0, 1) := by decide +kernel
theorem dX0_part_70 : decode cX0_part 70 = .ok (.getfield 30, 3) := by decide +kernel
theorem dX0_part_73 : decode cX0_part 73 = .ok (.ireturn, 1) := by decide +kernel
theorem dX0_part_74 : decode cX0_part 74 = .ok (.aload_n 0, 1) := by decide +kernel
theorem dX0_part_75 : decode cX0_part 75 = .ok (.getfield 33, 3) := by decide +kernel
theorem dX0_part_78 : decode cX0_part 78 = .ok (.ireturn, 1) := by decide +kernel
theorem dX0_part_79 : decode cX0_part 79 = .ok (.aload_n 0, 1) := by decide +kernel
theorem dX0_part_80 : decode cX0_part 80 = .ok (.getfield 36, 3) := by decide +kernel
theorem dX0_part_83 : decode cX0_part 83 = .ok (.ireturn, 1) := by decide +kernel
theorem dX0_isAt_0 : decode cX0_isAt 0 = .ok (.aload_n 0, 1) := by decide +kernel
theorem dX0_isAt_1 : decode cX0_isAt 1 = .ok (.getfield 15, 3) := by decide +kernel
theorem dX0_isAt_4 : decode cX0_isAt 4 = .ok (.iload_n 1, 1) := by decide +kernel
theorem dX0_isAt_5 : decode cX0_isAt 5 = .ok (.if_icmp .eq 11, 3) := by decide +kernel
theorem dX0_isAt_8 : decode cX0_isAt 8 = .ok (.aload_n 0, 1) := by decide +kernel
theorem dX0_isAt_9 : decode cX0_isAt 9 = .ok (.getfield 18, 3) := by decide +kernel
theorem dX0_isAt_12 : decode cX0_isAt 12 = .ok (.iload_n 1, 1) := by decide +kernel
theorem dX0_isAt_13 : decode cX0_isAt 13 = .ok (.if_icmp .ne 7, 3) := by decide +kernel
theorem dX0_isAt_16 : decode cX0_isAt 16 = .ok (.iconst 1, 1) := by decide +kernel
theorem dX0_isAt_17 : decode cX0_isAt 17 = .ok (.goto 4, 3) := by decide +kernel
theorem dX0_isAt_20 : decode cX0_isAt 20 = .ok (.iconst 0, 1) := by decide +kernel
theorem dX0_isAt_21 : decode cX0_isAt 21 = .ok (.ireturn, 1) := by decide +kernel
theorem dX0_farFrom_0 : decode cX0_farFrom 0 = .ok (.aload_n 0, 1) := by decide +kernel
theorem dX0_farFrom_1 : decode cX0_farFrom 1 = .ok (.getfield 15, 3) := by decide +kernel
theorem dX0_farFrom_4 : decode cX0_farFrom 4 = .ok (.iload_n 1, 1) := by decide +kernel
theorem dX0_farFrom_5 : decode cX0_farFrom 5 = .ok (.if_icmp .ne 10, 3) := by decide +kernel
theorem dX0_farFrom_8 : decode cX0_farFrom 8 = .ok (.aload_n 0, 1) := by decide +kernel
theorem dX0_farFrom_9 : decode cX0_farFrom 9 = .ok (.getfield 18, 3) := by decide +kernel
theorem dX0_farFrom_12 : decode cX0_farFrom 12 = .ok (.goto 7, 3) := by decide +kernel
theorem dX0_farFrom_15 : decode cX0_farFrom 15 = .ok (.aload_n 0, 1) := by decide +kernel
theorem dX0_farFrom_16 : decode cX0_farFrom 16 = .ok (.getfield 15, 3) := by decide +kernel
theorem dX0_farFrom_19 : decode cX0_farFrom 19 = .ok (.ireturn, 1) := by decide +kernel
theorem dX0_endsSet_0 : decode cX0_endsSet 0 = .ok (.iconst 1, 1) := by decide +kernel
theorem dX0_endsSet_1 : decode cX0_endsSet 1 = .ok (.aload_n 0, 1) := by decide +kernel
theorem dX0_endsSet_2 : decode cX0_endsSet 2 = .ok (.getfield 15, 3) := by decide +kernel
theorem dX0_endsSet_5 : decode cX0_endsSet 5 = .ok (.ishl, 1) := by decide +kernel
theorem dX0_endsSet_6 : decode cX0_endsSet 6 = .ok (.iconst 1, 1) := by decide +kernel
theorem dX0_endsSet_7 : decode cX0_endsSet 7 = .ok (.aload_n 0, 1) := by decide +kernel
theorem dX0_endsSet_8 : decode cX0_endsSet 8 = .ok (.getfield 18, 3) := by decide +kernel
theorem dX0_endsSet_11 : decode cX0_endsSet 11 = .ok (.ishl, 1) := by decide +kernel
theorem dX0_endsSet_12 : decode cX0_endsSet 12 = .ok (.ior, 1) := by decide +kernel
theorem dX0_endsSet_13 : decode cX0_endsSet 13 = .ok (.ireturn, 1) := by decide +kernel
theorem dX0_distance_0 : decode cX0_distance 0 = .ok (.iload_n 1, 1) := by decide +kernel
theorem dX0_distance_1 : decode cX0_distance 1 = .ok (.aload_n 0, 1) := by decide +kernel
theorem dX0_distance_2 : decode cX0_distance 2 = .ok (.getfield 24, 3) := by decide +kernel
theorem dX0_distance_5 : decode cX0_distance 5 = .ok (.isub, 1) := by decide +kernel
theorem dX0_distance_6 : decode cX0_distance 6 = .ok (.invokestatic 39, 3) := by decide +kernel
theorem dX0_distance_9 : decode cX0_distance 9 = .ok (.ireturn, 1) := by decide +kernel
theorem dX0_takeRiddle_0 : decode cX0_takeRiddle 0 = .ok (.aload_n 0, 1) := by decide +kernel
theorem dX0_takeRiddle_1 : decode cX0_takeRiddle 1 = .ok (.aload_n 0, 1) := by decide +kernel
theorem dX0_takeRiddle_2 : decode cX0_takeRiddle 2 = .ok (.getfield 21, 3) := by decide +kernel
theorem dX0_takeRiddle_5 : decode cX0_takeRiddle 5 = .ok (.ifCond .le 12, 3) := by decide +kernel
theorem dX0_takeRiddle_8 : decode cX0_takeRiddle 8 = .ok (.iload_n 1, 1) := by decide +kernel
theorem dX0_takeRiddle_9 : decode cX0_takeRiddle 9 = .ok (.aload_n 0, 1) := by decide +kernel
theorem dX0_takeRiddle_10 : decode cX0_takeRiddle 10 = .ok (.getfield 21, 3) := by decide +kernel
theorem dX0_takeRiddle_13 : decode cX0_takeRiddle 13 = .ok (.irem, 1) := by decide +kernel
theorem dX0_takeRiddle_14 : decode cX0_takeRiddle 14 = .ok (.goto 4, 3) := by decide +kernel
theorem dX0_takeRiddle_17 : decode cX0_takeRiddle 17 = .ok (.iconst 0, 1) := by decide +kernel
theorem dX0_takeRiddle_18 : decode cX0_takeRiddle 18 = .ok (.putfield 24, 3) := by decide +kernel
theorem dX0_takeRiddle_21 : decode cX0_takeRiddle 21 = .ok (.return_, 1) := by decide +kernel
theorem dX1_init_0 : decode cX1_init 0 = .ok (.aload_n 0, 1) := by decide +kernel
theorem dX1_init_1 : decode cX1_init 1 = .ok (.invokespecial 3, 3) := by decide +kernel
theorem dX1_init_4 : decode cX1_init 4 = .ok (.aload_n 0, 1) := by decide +kernel
theorem dX1_init_5 : decode cX1_init 5 = .ok (.bipush (-6), 2) := by decide +kernel
theorem dX1_init_7 : decode cX1_init 7 = .ok (.putfield 9, 3) := by decide +kernel
theorem dX1_init_10 : decode cX1_init 10 = .ok (.aload_n 0, 1) := by decide +kernel
theorem dX1_init_11 : decode cX1_init 11 = .ok (.bipush (-6), 2) := by decide +kernel
theorem dX1_init_13 : decode cX1_init 13 = .ok (.putfield 15, 3) := by decide +kernel
theorem dX1_init_16 : decode cX1_init 16 = .ok (.aload_n 0, 1) := by decide +kernel
theorem dX1_init_17 : decode cX1_init 17 = .ok (.bipush 12, 2) := by decide +kernel
theorem dX1_init_19 : decode cX1_init 19 = .ok (.newarray .int, 2) := by decide +kernel
theorem dX1_init_21 : decode cX1_init 21 = .ok (.putfield 18, 3) := by decide +kernel
theorem dX1_init_24 : decode cX1_init 24 = .ok (.aload_n 0, 1) := by decide +kernel
theorem dX1_init_25 : decode cX1_init 25 = .ok (.bipush 12, 2) := by decide +kernel
theorem dX1_init_27 : decode cX1_init 27 = .ok (.newarray .int, 2) := by decide +kernel
theorem dX1_init_29 : decode cX1_init 29 = .ok (.putfield 22, 3) := by decide +kernel
theorem dX1_init_32 : decode cX1_init 32 = .ok (.aload_n 0, 1) := by decide +kernel
theorem dX1_init_33 : decode cX1_init 33 = .ok (.iload_n 1, 1) := by decide +kernel
theorem dX1_init_34 : decode cX1_init 34 = .ok (.putfield 25, 3) := by decide +kernel
theorem dX1_init_37 : decode cX1_init 37 = .ok (.return_, 1) := by decide +kernel
theorem dX1_copyFrom_0 : decode cX1_copyFrom 0 = .ok (.aload_n 0, 1) := by decide +kernel
theorem dX1_copyFrom_1 : decode cX1_copyFrom 1 = .ok (.aload_n 1, 1) := by decide +kernel
theorem dX1_copyFrom_2 : decode cX1_copyFrom 2 = .ok (.getfield 28, 3) := by decide +kernel
theorem dX1_copyFrom_5 : decode cX1_copyFrom 5 = .ok (.putfield 28, 3) := by decide +kernel
theorem dX1_copyFrom_8 : decode cX1_copyFrom 8 = .ok (.aload_n 0, 1) := by decide +kernel
theorem dX1_copyFrom_9 : decode cX1_copyFrom 9 = .ok (.aload_n 1, 1) := by decide +kernel
theorem dX1_copyFrom_10 : decode cX1_copyFrom 10 = .ok (.getfield 31, 3) := by decide +kernel
theorem dX1_copyFrom_13 : decode cX1_copyFrom 13 = .ok (.putfield 31, 3) := by decide +kernel
theorem dX1_copyFrom_16 : decode cX1_copyFrom 16 = .ok (.aload_n 0, 1) := by decide +kernel
theorem dX1_copyFrom_17 : decode cX1_copyFrom 17 = .ok (.aload_n 1, 1) := by decide +kernel
theorem dX1_copyFrom_18 : decode cX1_copyFrom 18 = .ok (.getfield 9, 3) := by decide +kernel
theorem dX1_copyFrom_21 : decode cX1_copyFrom 21 = .ok (.putfield 9, 3) := by decide +kernel
theorem dX1_copyFrom_24 : decode cX1_copyFrom 24 = .ok (.aload_n 0, 1) := by decide +kernel
theorem dX1_copyFrom_25 : decode cX1_copyFrom 25 = .ok (.aload_n 1, 1) := by decide +kernel
theorem dX1_copyFrom_26 : decode cX1_copyFrom 26 = .ok (.getfield 15, 3) := by decide +kernel
theorem dX1_copyFrom_29 : decode cX1_copyFrom 29 = .ok (.putfield 15, 3) := by decide +kernel
theorem dX1_copyFrom_32 : decode cX1_copyFrom 32 = .ok (.aload_n 0, 1) := by decide +kernel
theorem dX1_copyFrom_33 : decode cX1_copyFrom 33 = .ok (.aload_n 1, 1) := by decide +kernel
theorem dX1_copyFrom_34 : decode cX1_copyFrom 34 = .ok (.getfield 34, 3) := by decide +kernel
theorem dX1_copyFrom_37 : decode cX1_copyFrom 37 = .ok (.putfield 34, 3) := by decide +kernel
theorem dX1_copyFrom_40 : decode cX1_copyFrom 40 = .ok (.aload_n 0, 1) := by decide +kernel
theorem dX1_copyFrom_41 : decode cX1_copyFrom 41 = .ok (.aload_n 1, 1) := by decide +kernel
theorem dX1_copyFrom_42 : decode cX1_copyFrom 42 = .ok (.getfield 37, 3) := by decide +kernel
theorem dX1_copyFrom_45 : decode cX1_copyFrom 45 = .ok (.putfield 37, 3) := by decide +kernel
theorem dX1_copyFrom_48 : decode cX1_copyFrom 48 = .ok (.aload_n 0, 1) := by decide +kernel
theorem dX1_copyFrom_49 : decode cX1_copyFrom 49 = .ok (.aload_n 1, 1) := by decide +kernel
theorem dX1_copyFrom_50 : decode cX1_copyFrom 50 = .ok (.getfield 40, 3) := by decide +kernel
theorem dX1_copyFrom_53 : decode cX1_copyFrom 53 = .ok (.putfield 40, 3) := by decide +kernel
theorem dX1_copyFrom_56 : decode cX1_copyFrom 56 = .ok (.aload_n 0, 1) := by decide +kernel
theorem dX1_copyFrom_57 : decode cX1_copyFrom 57 = .ok (.aload_n 1, 1) := by decide +kernel
theorem dX1_copyFrom_58 : decode cX1_copyFrom 58 = .ok (.getfield 43, 3) := by decide +kernel
theorem dX1_copyFrom_61 : decode cX1_copyFrom 61 = .ok (.putfield 43, 3) := by decide +kernel
theorem dX1_copyFrom_64 : decode cX1_copyFrom 64 = .ok (.aload_n 1, 1) := by decide +kernel
theorem dX1_copyFrom_65 : decode cX1_copyFrom 65 = .ok (.getfield 18, 3) := by decide +kernel
theorem dX1_copyFrom_68 : decode cX1_copyFrom 68 = .ok (.iconst 0, 1) := by decide +kernel
theorem dX1_copyFrom_69 : decode cX1_copyFrom 69 = .ok (.aload_n 0, 1) := by decide +kernel
theorem dX1_copyFrom_70 : decode cX1_copyFrom 70 = .ok (.getfield 18, 3) := by decide +kernel
theorem dX1_copyFrom_73 : decode cX1_copyFrom 73 = .ok (.iconst 0, 1) := by decide +kernel
theorem dX1_copyFrom_74 : decode cX1_copyFrom 74 = .ok (.bipush 12, 2) := by decide +kernel
theorem dX1_copyFrom_76 : decode cX1_copyFrom 76 = .ok (.invokestatic 46, 3) := by decide +kernel
theorem dX1_copyFrom_79 : decode cX1_copyFrom 79 = .ok (.aload_n 1, 1) := by decide +kernel
theorem dX1_copyFrom_80 : decode cX1_copyFrom 80 = .ok (.getfield 22, 3) := by decide +kernel
theorem dX1_copyFrom_83 : decode cX1_copyFrom 83 = .ok (.iconst 0, 1) := by decide +kernel
theorem dX1_copyFrom_84 : decode cX1_copyFrom 84 = .ok (.aload_n 0, 1) := by decide +kernel
theorem dX1_copyFrom_85 : decode cX1_copyFrom 85 = .ok (.getfield 22, 3) := by decide +kernel
theorem dX1_copyFrom_88 : decode cX1_copyFrom 88 = .ok (.iconst 0, 1) := by decide +kernel
theorem dX1_copyFrom_89 : decode cX1_copyFrom 89 = .ok (.bipush 12, 2) := by decide +kernel
theorem dX1_copyFrom_91 : decode cX1_copyFrom 91 = .ok (.invokestatic 46, 3) := by decide +kernel
theorem dX1_copyFrom_94 : decode cX1_copyFrom 94 = .ok (.return_, 1) := by decide +kernel
theorem dX1_part_0 : decode cX1_part 0 = .ok (.iload_n 1, 1) := by decide +kernel
theorem dX1_part_1 : decode cX1_part 1 = .ok (.tableswitch 78 0 6 #[43, 48, 53, 58, 63, 68, 73], 43) := by decide +kernel
theorem dX1_part_44 : decode cX1_part 44 = .ok (.aload_n 0, 1) := by decide +kernel
theorem dX1_part_45 : decode cX1_part 45 = .ok (.getfield 28, 3) := by decide +kernel
theorem dX1_part_48 : decode cX1_part 48 = .ok (.ireturn, 1) := by decide +kernel
theorem dX1_part_49 : decode cX1_part 49 = .ok (.aload_n 0, 1) := by decide +kernel
theorem dX1_part_50 : decode cX1_part 50 = .ok (.getfield 31, 3) := by decide +kernel
theorem dX1_part_53 : decode cX1_part 53 = .ok (.ireturn, 1) := by decide +kernel
theorem dX1_part_54 : decode cX1_part 54 = .ok (.aload_n 0, 1) := by decide +kernel
theorem dX1_part_55 : decode cX1_part 55 = .ok (.getfield 9, 3) := by decide +kernel
theorem dX1_part_58 : decode cX1_part 58 = .ok (.ireturn, 1) := by decide +kernel
theorem dX1_part_59 : decode cX1_part 59 = .ok (.aload_n 0, 1) := by decide +kernel
theorem dX1_part_60 : decode cX1_part 60 = .ok (.getfield 15, 3) := by decide +kernel
theorem dX1_part_63 : decode cX1_part 63 = .ok (.ireturn, 1) := by decide +kernel
theorem dX1_part_64 : decode cX1_part 64 = .ok (.aload_n 0, 1) := by decide +kernel
theorem dX1_part_65 : decode cX1_part 65 = .ok (.getfield 34, 3) := by decide +kernel
theorem dX1_part_68 : decode cX1_part 68 = .ok (.ireturn, 1) := by decide +kernel
theorem dX1_part_69 : decode cX1_part 69 = .ok (.aload_n 0, 1) := by decide +kernel
theorem dX1_part_70 : decode cX1_part 70 = .ok (.getfield 37, 3) := by decide +kernel
theorem dX1_part_73 : decode cX1_part 73 = .ok (.ireturn, 1) := by decide +kernel
theorem dX1_part_74 : decode cX1_part 74 = .ok (.aload_n 0, 1) := by decide +kernel
theorem dX1_part_75 : decode cX1_part 75 = .ok (.getfield 40, 3) := by decide +kernel
theorem dX1_part_78 : decode cX1_part 78 = .ok (.ireturn, 1) := by decide +kernel
theorem dX1_part_79 : decode cX1_part 79 = .ok (.aload_n 0, 1) := by decide +kernel
theorem dX1_part_80 : decode cX1_part 80 = .ok (.getfield 43, 3) := by decide +kernel
theorem dX1_part_83 : decode cX1_part 83 = .ok (.ireturn, 1) := by decide +kernel
theorem dX1_isWaiting_0 : decode cX1_isWaiting 0 = .ok (.aload_n 0, 1) := by decide +kernel
theorem dX1_isWaiting_1 : decode cX1_isWaiting 1 = .ok (.getfield 9, 3) := by decide +kernel
theorem dX1_isWaiting_4 : decode cX1_isWaiting 4 = .ok (.bipush (-6), 2) := by decide +kernel
theorem dX1_isWaiting_6 : decode cX1_isWaiting 6 = .ok (.if_icmp .eq 7, 3) := by decide +kernel
theorem dX1_isWaiting_9 : decode cX1_isWaiting 9 = .ok (.iconst 1, 1) := by decide +kernel
theorem dX1_isWaiting_10 : decode cX1_isWaiting 10 = .ok (.goto 4, 3) := by decide +kernel
theorem dX1_isWaiting_13 : decode cX1_isWaiting 13 = .ok (.iconst 0, 1) := by decide +kernel
theorem dX1_isWaiting_14 : decode cX1_isWaiting 14 = .ok (.ireturn, 1) := by decide +kernel
theorem dX1_lowest_0 : decode cX1_lowest 0 = .ok (.aload_n 0, 1) := by decide +kernel
theorem dX1_lowest_1 : decode cX1_lowest 1 = .ok (.getfield 18, 3) := by decide +kernel
theorem dX1_lowest_4 : decode cX1_lowest 4 = .ok (.aload_n 1, 1) := by decide +kernel
theorem dX1_lowest_5 : decode cX1_lowest 5 = .ok (.getfield 52, 3) := by decide +kernel
theorem dX1_lowest_8 : decode cX1_lowest 8 = .ok (.iaload, 1) := by decide +kernel
theorem dX1_lowest_9 : decode cX1_lowest 9 = .ok (.ireturn, 1) := by decide +kernel
theorem dX1_highest_0 : decode cX1_highest 0 = .ok (.aload_n 0, 1) := by decide +kernel
theorem dX1_highest_1 : decode cX1_highest 1 = .ok (.getfield 22, 3) := by decide +kernel
theorem dX1_highest_4 : decode cX1_highest 4 = .ok (.aload_n 1, 1) := by decide +kernel
theorem dX1_highest_5 : decode cX1_highest 5 = .ok (.getfield 52, 3) := by decide +kernel
theorem dX1_highest_8 : decode cX1_highest 8 = .ok (.iaload, 1) := by decide +kernel
theorem dX1_highest_9 : decode cX1_highest 9 = .ok (.ireturn, 1) := by decide +kernel
theorem dX1_numbersLeft_0 : decode cX1_numbersLeft 0 = .ok (.aload_n 0, 1) := by decide +kernel
theorem dX1_numbersLeft_1 : decode cX1_numbersLeft 1 = .ok (.aload_n 1, 1) := by decide +kernel
theorem dX1_numbersLeft_2 : decode cX1_numbersLeft 2 = .ok (.invokevirtual 55, 3) := by decide +kernel
theorem dX1_numbersLeft_5 : decode cX1_numbersLeft 5 = .ok (.aload_n 0, 1) := by decide +kernel
theorem dX1_numbersLeft_6 : decode cX1_numbersLeft 6 = .ok (.aload_n 1, 1) := by decide +kernel
theorem dX1_numbersLeft_7 : decode cX1_numbersLeft 7 = .ok (.invokevirtual 59, 3) := by decide +kernel
theorem dX1_numbersLeft_10 : decode cX1_numbersLeft 10 = .ok (.isub, 1) := by decide +kernel
theorem dX1_numbersLeft_11 : decode cX1_numbersLeft 11 = .ok (.iconst 1, 1) := by decide +kernel
theorem dX1_numbersLeft_12 : decode cX1_numbersLeft 12 = .ok (.iadd, 1) := by decide +kernel
theorem dX1_numbersLeft_13 : decode cX1_numbersLeft 13 = .ok (.ireturn, 1) := by decide +kernel
theorem dX1_forget_0 : decode cX1_forget 0 = .ok (.aload_n 0, 1) := by decide +kernel
theorem dX1_forget_1 : decode cX1_forget 1 = .ok (.getfield 18, 3) := by decide +kernel
theorem dX1_forget_4 : decode cX1_forget 4 = .ok (.aload_n 1, 1) := by decide +kernel
theorem dX1_forget_5 : decode cX1_forget 5 = .ok (.getfield 52, 3) := by decide +kernel
theorem dX1_forget_8 : decode cX1_forget 8 = .ok (.iconst 0, 1) := by decide +kernel
theorem dX1_forget_9 : decode cX1_forget 9 = .ok (.iastore, 1) := by decide +kernel
theorem dX1_forget_10 : decode cX1_forget 10 = .ok (.aload_n 0, 1) := by decide +kernel
theorem dX1_forget_11 : decode cX1_forget 11 = .ok (.getfield 22, 3) := by decide +kernel
theorem dX1_forget_14 : decode cX1_forget 14 = .ok (.aload_n 1, 1) := by decide +kernel
theorem dX1_forget_15 : decode cX1_forget 15 = .ok (.getfield 52, 3) := by decide +kernel
theorem dX1_forget_18 : decode cX1_forget 18 = .ok (.aload_n 1, 1) := by decide +kernel
theorem dX1_forget_19 : decode cX1_forget 19 = .ok (.getfield 62, 3) := by decide +kernel
theorem dX1_forget_22 : decode cX1_forget 22 = .ok (.iconst 1, 1) := by decide +kernel
theorem dX1_forget_23 : decode cX1_forget 23 = .ok (.isub, 1) := by decide +kernel
theorem dX1_forget_24 : decode cX1_forget 24 = .ok (.iastore, 1) := by decide +kernel
theorem dX1_forget_25 : decode cX1_forget 25 = .ok (.return_, 1) := by decide +kernel
theorem dX1_halve_0 : decode cX1_halve 0 = .ok (.aload_n 0, 1) := by decide +kernel
theorem dX1_halve_1 : decode cX1_halve 1 = .ok (.aload_n 1, 1) := by decide +kernel
theorem dX1_halve_2 : decode cX1_halve 2 = .ok (.invokevirtual 59, 3) := by decide +kernel
theorem dX1_halve_5 : decode cX1_halve 5 = .ok (.aload_n 0, 1) := by decide +kernel
theorem dX1_halve_6 : decode cX1_halve 6 = .ok (.aload_n 1, 1) := by decide +kernel
theorem dX1_halve_7 : decode cX1_halve 7 = .ok (.invokevirtual 55, 3) := by decide +kernel
theorem dX1_halve_10 : decode cX1_halve 10 = .ok (.iadd, 1) := by decide +kernel
theorem dX1_halve_11 : decode cX1_halve 11 = .ok (.iconst 2, 1) := by decide +kernel
theorem dX1_halve_12 : decode cX1_halve 12 = .ok (.idiv, 1) := by decide +kernel
theorem dX1_halve_13 : decode cX1_halve 13 = .ok (.istore_n 2, 1) := by decide +kernel
theorem dX1_halve_14 : decode cX1_halve 14 = .ok (.aload_n 1, 1) := by decide +kernel
theorem dX1_halve_15 : decode cX1_halve 15 = .ok (.getfield 65, 3) := by decide +kernel
theorem dX1_halve_18 : decode cX1_halve 18 = .ok (.iload_n 2, 1) := by decide +kernel
theorem dX1_halve_19 : decode cX1_halve 19 = .ok (.if_icmp .gt 16, 3) := by decide +kernel
theorem dX1_halve_22 : decode cX1_halve 22 = .ok (.aload_n 0, 1) := by decide +kernel
theorem dX1_halve_23 : decode cX1_halve 23 = .ok (.getfield 22, 3) := by decide +kernel
theorem dX1_halve_26 : decode cX1_halve 26 = .ok (.aload_n 1, 1) := by decide +kernel
theorem dX1_halve_27 : decode cX1_halve 27 = .ok (.getfield 52, 3) := by decide +kernel
theorem dX1_halve_30 : decode cX1_halve 30 = .ok (.iload_n 2, 1) := by decide +kernel
theorem dX1_halve_31 : decode cX1_halve 31 = .ok (.iastore, 1) := by decide +kernel
theorem dX1_halve_32 : decode cX1_halve 32 = .ok (.goto 15, 3) := by decide +kernel
theorem dX1_halve_35 : decode cX1_halve 35 = .ok (.aload_n 0, 1) := by decide +kernel
theorem dX1_halve_36 : decode cX1_halve 36 = .ok (.getfield 18, 3) := by decide +kernel
theorem dX1_halve_39 : decode cX1_halve 39 = .ok (.aload_n 1, 1) := by decide +kernel
theorem dX1_halve_40 : decode cX1_halve 40 = .ok (.getfield 52, 3) := by decide +kernel
theorem dX1_halve_43 : decode cX1_halve 43 = .ok (.iload_n 2, 1) := by decide +kernel
theorem dX1_halve_44 : decode cX1_halve 44 = .ok (.iconst 1, 1) := by decide +kernel
theorem dX1_halve_45 : decode cX1_halve 45 = .ok (.iadd, 1) := by decide +kernel
theorem dX1_halve_46 : decode cX1_halve 46 = .ok (.iastore, 1) := by decide +kernel
theorem dX1_halve_47 : decode cX1_halve 47 = .ok (.return_, 1) := by decide +kernel
theorem dX1_numbersNearer_0 : decode cX1_numbersNearer 0 = .ok (.iload_n 2, 1) := by decide +kernel
theorem dX1_numbersNearer_1 : decode cX1_numbersNearer 1 = .ok (.iload_n 3, 1) := by decide +kernel
theorem dX1_numbersNearer_2 : decode cX1_numbersNearer 2 = .ok (.iadd, 1) := by decide +kernel
theorem dX1_numbersNearer_3 : decode cX1_numbersNearer 3 = .ok (.istore 4, 2) := by decide +kernel
theorem dX1_numbersNearer_5 : decode cX1_numbersNearer 5 = .ok (.iload_n 2, 1) := by decide +kernel
theorem dX1_numbersNearer_6 : decode cX1_numbersNearer 6 = .ok (.iload_n 3, 1) := by decide +kernel
theorem dX1_numbersNearer_7 : decode cX1_numbersNearer 7 = .ok (.if_icmp .ge 30, 3) := by decide +kernel
theorem dX1_numbersNearer_10 : decode cX1_numbersNearer 10 = .ok (.iconst 0, 1) := by decide +kernel
theorem dX1_numbersNearer_11 : decode cX1_numbersNearer 11 = .ok (.aload_n 0, 1) := by decide +kernel
theorem dX1_numbersNearer_12 : decode cX1_numbersNearer 12 = .ok (.aload_n 1, 1) := by decide +kernel
theorem dX1_numbersNearer_13 : decode cX1_numbersNearer 13 = .ok (.invokevirtual 55, 3) := by decide +kernel
theorem dX1_numbersNearer_16 : decode cX1_numbersNearer 16 = .ok (.iload 4, 2) := by decide +kernel
theorem dX1_numbersNearer_18 : decode cX1_numbersNearer 18 = .ok (.iconst 1, 1) := by decide +kernel
theorem dX1_numbersNearer_19 : decode cX1_numbersNearer 19 = .ok (.isub, 1) := by decide +kernel
theorem dX1_numbersNearer_20 : decode cX1_numbersNearer 20 = .ok (.iconst 2, 1) := by decide +kernel
theorem dX1_numbersNearer_21 : decode cX1_numbersNearer 21 = .ok (.idiv, 1) := by decide +kernel
theorem dX1_numbersNearer_22 : decode cX1_numbersNearer 22 = .ok (.invokestatic 68, 3) := by decide +kernel
theorem dX1_numbersNearer_25 : decode cX1_numbersNearer 25 = .ok (.aload_n 0, 1) := by decide +kernel
theorem dX1_numbersNearer_26 : decode cX1_numbersNearer 26 = .ok (.aload_n 1, 1) := by decide +kernel
theorem dX1_numbersNearer_27 : decode cX1_numbersNearer 27 = .ok (.invokevirtual 59, 3) := by decide +kernel
theorem dX1_numbersNearer_30 : decode cX1_numbersNearer 30 = .ok (.isub, 1) := by decide +kernel
theorem dX1_numbersNearer_31 : decode cX1_numbersNearer 31 = .ok (.iconst 1, 1) := by decide +kernel
theorem dX1_numbersNearer_32 : decode cX1_numbersNearer 32 = .ok (.iadd, 1) := by decide +kernel
theorem dX1_numbersNearer_33 : decode cX1_numbersNearer 33 = .ok (.invokestatic 74, 3) := by decide +kernel
theorem dX1_numbersNearer_36 : decode cX1_numbersNearer 36 = .ok (.ireturn, 1) := by decide +kernel
theorem dX1_numbersNearer_37 : decode cX1_numbersNearer 37 = .ok (.iload_n 2, 1) := by decide +kernel
theorem dX1_numbersNearer_38 : decode cX1_numbersNearer 38 = .ok (.iload_n 3, 1) := by decide +kernel
theorem dX1_numbersNearer_39 : decode cX1_numbersNearer 39 = .ok (.if_icmp .le 30, 3) := by decide +kernel
theorem dX1_numbersNearer_42 : decode cX1_numbersNearer 42 = .ok (.iconst 0, 1) := by decide +kernel
theorem dX1_numbersNearer_43 : decode cX1_numbersNearer 43 = .ok (.aload_n 0, 1) := by decide +kernel
theorem dX1_numbersNearer_44 : decode cX1_numbersNearer 44 = .ok (.aload_n 1, 1) := by decide +kernel
theorem dX1_numbersNearer_45 : decode cX1_numbersNearer 45 = .ok (.invokevirtual 55, 3) := by decide +kernel
theorem dX1_numbersNearer_48 : decode cX1_numbersNearer 48 = .ok (.aload_n 0, 1) := by decide +kernel
theorem dX1_numbersNearer_49 : decode cX1_numbersNearer 49 = .ok (.aload_n 1, 1) := by decide +kernel
theorem dX1_numbersNearer_50 : decode cX1_numbersNearer 50 = .ok (.invokevirtual 59, 3) := by decide +kernel
theorem dX1_numbersNearer_53 : decode cX1_numbersNearer 53 = .ok (.iload 4, 2) := by decide +kernel
theorem dX1_numbersNearer_55 : decode cX1_numbersNearer 55 = .ok (.iconst 2, 1) := by decide +kernel
theorem dX1_numbersNearer_56 : decode cX1_numbersNearer 56 = .ok (.idiv, 1) := by decide +kernel
theorem dX1_numbersNearer_57 : decode cX1_numbersNearer 57 = .ok (.iconst 1, 1) := by decide +kernel
theorem dX1_numbersNearer_58 : decode cX1_numbersNearer 58 = .ok (.iadd, 1) := by decide +kernel
theorem dX1_numbersNearer_59 : decode cX1_numbersNearer 59 = .ok (.invokestatic 74, 3) := by decide +kernel
theorem dX1_numbersNearer_62 : decode cX1_numbersNearer 62 = .ok (.isub, 1) := by decide +kernel
theorem dX1_numbersNearer_63 : decode cX1_numbersNearer 63 = .ok (.iconst 1, 1) := by decide +kernel
theorem dX1_numbersNearer_64 : decode cX1_numbersNearer 64 = .ok (.iadd, 1) := by decide +kernel
theorem dX1_numbersNearer_65 : decode cX1_numbersNearer 65 = .ok (.invokestatic 74, 3) := by decide +kernel
theorem dX1_numbersNearer_68 : decode cX1_numbersNearer 68 = .ok (.ireturn, 1) := by decide +kernel
theorem dX1_numbersNearer_69 : decode cX1_numbersNearer 69 = .ok (.iconst 0, 1) := by decide +kernel
theorem dX1_numbersNearer_70 : decode cX1_numbersNearer 70 = .ok (.ireturn, 1) := by decide +kernel
theorem dX1_pay_0 : decode cX1_pay 0 = .ok (.aload_n 0, 1) := by decide +kernel
theorem dX1_pay_1 : decode cX1_pay 1 = .ok (.dup, 1) := by decide +kernel
theorem dX1_pay_2 : decode cX1_pay 2 = .ok (.getfield 31, 3) := by decide +kernel
theorem dX1_pay_5 : decode cX1_pay 5 = .ok (.iload_n 1, 1) := by decide +kernel
theorem dX1_pay_6 : decode cX1_pay 6 = .ok (.isub, 1) := by decide +kernel
theorem dX1_pay_7 : decode cX1_pay 7 = .ok (.putfield 31, 3) := by decide +kernel
theorem dX1_pay_10 : decode cX1_pay 10 = .ok (.aload_n 0, 1) := by decide +kernel
theorem dX1_pay_11 : decode cX1_pay 11 = .ok (.dup, 1) := by decide +kernel
theorem dX1_pay_12 : decode cX1_pay 12 = .ok (.getfield 40, 3) := by decide +kernel
theorem dX1_pay_15 : decode cX1_pay 15 = .ok (.iload_n 1, 1) := by decide +kernel
theorem dX1_pay_16 : decode cX1_pay 16 = .ok (.iadd, 1) := by decide +kernel
theorem dX1_pay_17 : decode cX1_pay 17 = .ok (.putfield 40, 3) := by decide +kernel
theorem dX1_pay_20 : decode cX1_pay 20 = .ok (.aload_n 2, 1) := by decide +kernel
theorem dX1_pay_21 : decode cX1_pay 21 = .ok (.dup, 1) := by decide +kernel
theorem dX1_pay_22 : decode cX1_pay 22 = .ok (.getfield 77, 3) := by decide +kernel
theorem dX1_pay_25 : decode cX1_pay 25 = .ok (.iload_n 1, 1) := by decide +kernel
theorem dX1_pay_26 : decode cX1_pay 26 = .ok (.iadd, 1) := by decide +kernel
theorem dX1_pay_27 : decode cX1_pay 27 = .ok (.putfield 77, 3) := by decide +kernel
theorem dX1_pay_30 : decode cX1_pay 30 = .ok (.return_, 1) := by decide +kernel
theorem dX1_takeGift_0 : decode cX1_takeGift 0 = .ok (.iload_n 1, 1) := by decide +kernel
theorem dX1_takeGift_1 : decode cX1_takeGift 1 = .ok (.aload_n 2, 1) := by decide +kernel
theorem dX1_takeGift_2 : decode cX1_takeGift 2 = .ok (.getfield 77, 3) := by decide +kernel
theorem dX1_takeGift_5 : decode cX1_takeGift 5 = .ok (.invokestatic 68, 3) := by decide +kernel
theorem dX1_takeGift_8 : decode cX1_takeGift 8 = .ok (.istore_n 3, 1) := by decide +kernel
theorem dX1_takeGift_9 : decode cX1_takeGift 9 = .ok (.aload_n 2, 1) := by decide +kernel
theorem dX1_takeGift_10 : decode cX1_takeGift 10 = .ok (.dup, 1) := by decide +kernel
theorem dX1_takeGift_11 : decode cX1_takeGift 11 = .ok (.getfield 77, 3) := by decide +kernel
theorem dX1_takeGift_14 : decode cX1_takeGift 14 = .ok (.iload_n 3, 1) := by decide +kernel
theorem dX1_takeGift_15 : decode cX1_takeGift 15 = .ok (.isub, 1) := by decide +kernel
theorem dX1_takeGift_16 : decode cX1_takeGift 16 = .ok (.putfield 77, 3) := by decide +kernel
theorem dX1_takeGift_19 : decode cX1_takeGift 19 = .ok (.aload_n 0, 1) := by decide +kernel
theorem dX1_takeGift_20 : decode cX1_takeGift 20 = .ok (.dup, 1) := by decide +kernel
theorem dX1_takeGift_21 : decode cX1_takeGift 21 = .ok (.getfield 31, 3) := by decide +kernel
theorem dX1_takeGift_24 : decode cX1_takeGift 24 = .ok (.iload_n 3, 1) := by decide +kernel
theorem dX1_takeGift_25 : decode cX1_takeGift 25 = .ok (.iadd, 1) := by decide +kernel
theorem dX1_takeGift_26 : decode cX1_takeGift 26 = .ok (.putfield 31, 3) := by decide +kernel
theorem dX1_takeGift_29 : decode cX1_takeGift 29 = .ok (.aload_n 0, 1) := by decide +kernel
theorem dX1_takeGift_30 : decode cX1_takeGift 30 = .ok (.dup, 1) := by decide +kernel
theorem dX1_takeGift_31 : decode cX1_takeGift 31 = .ok (.getfield 43, 3) := by decide +kernel
theorem dX1_takeGift_34 : decode cX1_takeGift 34 = .ok (.iload_n 3, 1) := by decide +kernel
theorem dX1_takeGift_35 : decode cX1_takeGift 35 = .ok (.iadd, 1) := by decide +kernel
theorem dX1_takeGift_36 : decode cX1_takeGift 36 = .ok (.putfield 43, 3) := by decide +kernel
theorem dX1_takeGift_39 : decode cX1_takeGift 39 = .ok (.return_, 1) := by decide +kernel
theorem dX2_init_0 : decode cX2_init 0 = .ok (.aload_n 0, 1) := by decide +kernel
theorem dX2_init_1 : decode cX2_init 1 = .ok (.invokespecial 3, 3) := by decide +kernel
theorem dX2_init_4 : decode cX2_init 4 = .ok (.aload_n 0, 1) := by decide +kernel
theorem dX2_init_5 : decode cX2_init 5 = .ok (.bipush 7, 2) := by decide +kernel
theorem dX2_init_7 : decode cX2_init 7 = .ok (.anewarray 11, 3) := by decide +kernel
theorem dX2_init_10 : decode cX2_init 10 = .ok (.putfield 13, 3) := by decide +kernel
theorem dX2_init_13 : decode cX2_init 13 = .ok (.iconst 0, 1) := by decide +kernel
theorem dX2_init_14 : decode cX2_init 14 = .ok (.istore_n 1, 1) := by decide +kernel
theorem dX2_init_15 : decode cX2_init 15 = .ok (.iload_n 1, 1) := by decide +kernel
theorem dX2_init_16 : decode cX2_init 16 = .ok (.bipush 7, 2) := by decide +kernel
theorem dX2_init_18 : decode cX2_init 18 = .ok (.if_icmp .ge 22, 3) := by decide +kernel
theorem dX2_init_21 : decode cX2_init 21 = .ok (.aload_n 0, 1) := by decide +kernel
theorem dX2_init_22 : decode cX2_init 22 = .ok (.getfield 13, 3) := by decide +kernel
theorem dX2_init_25 : decode cX2_init 25 = .ok (.iload_n 1, 1) := by decide +kernel
theorem dX2_init_26 : decode cX2_init 26 = .ok (.new 11, 3) := by decide +kernel
theorem dX2_init_29 : decode cX2_init 29 = .ok (.dup, 1) := by decide +kernel
theorem dX2_init_30 : decode cX2_init 30 = .ok (.invokespecial 17, 3) := by decide +kernel
theorem dX2_init_33 : decode cX2_init 33 = .ok (.aastore, 1) := by decide +kernel
theorem dX2_init_34 : decode cX2_init 34 = .ok (.iinc 1 1, 3) := by decide +kernel
theorem dX2_init_37 : decode cX2_init 37 = .ok (.goto (-22), 3) := by decide +kernel
theorem dX2_init_40 : decode cX2_init 40 = .ok (.return_, 1) := by decide +kernel
theorem dX2_note_0 : decode cX2_note 0 = .ok (.aload_n 0, 1) := by decide +kernel
theorem dX2_note_1 : decode cX2_note 1 = .ok (.getfield 13, 3) := by decide +kernel
theorem dX2_note_4 : decode cX2_note 4 = .ok (.aload_n 0, 1) := by decide +kernel
theorem dX2_note_5 : decode cX2_note 5 = .ok (.getfield 18, 3) := by decide +kernel
theorem dX2_note_8 : decode cX2_note 8 = .ok (.aaload, 1) := by decide +kernel
theorem dX2_note_9 : decode cX2_note 9 = .ok (.aload_n 1, 1) := by decide +kernel
theorem dX2_note_10 : decode cX2_note 10 = .ok (.invokevirtual 22, 3) := by decide +kernel
theorem dX2_note_13 : decode cX2_note 13 = .ok (.return_, 1) := by decide +kernel
theorem dX2_keepNoted_0 : decode cX2_keepNoted 0 = .ok (.aload_n 0, 1) := by decide +kernel
theorem dX2_keepNoted_1 : decode cX2_keepNoted 1 = .ok (.aload_n 0, 1) := by decide +kernel
theorem dX2_keepNoted_2 : decode cX2_keepNoted 2 = .ok (.getfield 18, 3) := by decide +kernel
theorem dX2_keepNoted_5 : decode cX2_keepNoted 5 = .ok (.iconst 1, 1) := by decide +kernel
theorem dX2_keepNoted_6 : decode cX2_keepNoted 6 = .ok (.iadd, 1) := by decide +kernel
theorem dX2_keepNoted_7 : decode cX2_keepNoted 7 = .ok (.bipush 7, 2) := by decide +kernel
theorem dX2_keepNoted_9 : decode cX2_keepNoted 9 = .ok (.irem, 1) := by decide +kernel
theorem dX2_keepNoted_10 : decode cX2_keepNoted 10 = .ok (.putfield 18, 3) := by decide +kernel
theorem dX2_keepNoted_13 : decode cX2_keepNoted 13 = .ok (.aload_n 0, 1) := by decide +kernel
theorem dX2_keepNoted_14 : decode cX2_keepNoted 14 = .ok (.aload_n 0, 1) := by decide +kernel
theorem dX2_keepNoted_15 : decode cX2_keepNoted 15 = .ok (.getfield 26, 3) := by decide +kernel
theorem dX2_keepNoted_18 : decode cX2_keepNoted 18 = .ok (.iconst 1, 1) := by decide +kernel
theorem dX2_keepNoted_19 : decode cX2_keepNoted 19 = .ok (.iadd, 1) := by decide +kernel
theorem dX2_keepNoted_20 : decode cX2_keepNoted 20 = .ok (.bipush 6, 2) := by decide +kernel
theorem dX2_keepNoted_22 : decode cX2_keepNoted 22 = .ok (.invokestatic 29, 3) := by decide +kernel
theorem dX2_keepNoted_25 : decode cX2_keepNoted 25 = .ok (.putfield 26, 3) := by decide +kernel
theorem dX2_keepNoted_28 : decode cX2_keepNoted 28 = .ok (.return_, 1) := by decide +kernel
theorem dX2_takeBack_0 : decode cX2_takeBack 0 = .ok (.aload_n 0, 1) := by decide +kernel
theorem dX2_takeBack_1 : decode cX2_takeBack 1 = .ok (.aload_n 0, 1) := by decide +kernel
theorem dX2_takeBack_2 : decode cX2_takeBack 2 = .ok (.getfield 18, 3) := by decide +kernel
theorem dX2_takeBack_5 : decode cX2_takeBack 5 = .ok (.bipush 7, 2) := by decide +kernel
theorem dX2_takeBack_7 : decode cX2_takeBack 7 = .ok (.iadd, 1) := by decide +kernel
theorem dX2_takeBack_8 : decode cX2_takeBack 8 = .ok (.iconst 1, 1) := by decide +kernel
theorem dX2_takeBack_9 : decode cX2_takeBack 9 = .ok (.isub, 1) := by decide +kernel
theorem dX2_takeBack_10 : decode cX2_takeBack 10 = .ok (.bipush 7, 2) := by decide +kernel
theorem dX2_takeBack_12 : decode cX2_takeBack 12 = .ok (.irem, 1) := by decide +kernel
theorem dX2_takeBack_13 : decode cX2_takeBack 13 = .ok (.putfield 18, 3) := by decide +kernel
theorem dX2_takeBack_16 : decode cX2_takeBack 16 = .ok (.aload_n 0, 1) := by decide +kernel
theorem dX2_takeBack_17 : decode cX2_takeBack 17 = .ok (.dup, 1) := by decide +kernel
theorem dX2_takeBack_18 : decode cX2_takeBack 18 = .ok (.getfield 26, 3) := by decide +kernel
theorem dX2_takeBack_21 : decode cX2_takeBack 21 = .ok (.iconst 1, 1) := by decide +kernel
theorem dX2_takeBack_22 : decode cX2_takeBack 22 = .ok (.isub, 1) := by decide +kernel
theorem dX2_takeBack_23 : decode cX2_takeBack 23 = .ok (.putfield 26, 3) := by decide +kernel
theorem dX2_takeBack_26 : decode cX2_takeBack 26 = .ok (.aload_n 1, 1) := by decide +kernel
theorem dX2_takeBack_27 : decode cX2_takeBack 27 = .ok (.aload_n 0, 1) := by decide +kernel
theorem dX2_takeBack_28 : decode cX2_takeBack 28 = .ok (.getfield 13, 3) := by decide +kernel
theorem dX2_takeBack_31 : decode cX2_takeBack 31 = .ok (.aload_n 0, 1) := by decide +kernel
theorem dX2_takeBack_32 : decode cX2_takeBack 32 = .ok (.getfield 18, 3) := by decide +kernel
theorem dX2_takeBack_35 : decode cX2_takeBack 35 = .ok (.aaload, 1) := by decide +kernel
theorem dX2_takeBack_36 : decode cX2_takeBack 36 = .ok (.invokevirtual 22, 3) := by decide +kernel
theorem dX2_takeBack_39 : decode cX2_takeBack 39 = .ok (.return_, 1) := by decide +kernel
theorem dX3_init_0 : decode cX3_init 0 = .ok (.aload_n 0, 1) := by decide +kernel
theorem dX3_init_1 : decode cX3_init 1 = .ok (.invokespecial 3, 3) := by decide +kernel
theorem dX3_init_4 : decode cX3_init 4 = .ok (.aload_n 0, 1) := by decide +kernel
theorem dX3_init_5 : decode cX3_init 5 = .ok (.aload_n 1, 1) := by decide +kernel
theorem dX3_init_6 : decode cX3_init 6 = .ok (.putfield 9, 3) := by decide +kernel
theorem dX3_init_9 : decode cX3_init 9 = .ok (.return_, 1) := by decide +kernel
theorem dX3_goToStart_0 : decode cX3_goToStart 0 = .ok (.aload_n 0, 1) := by decide +kernel
theorem dX3_goToStart_1 : decode cX3_goToStart 1 = .ok (.iconst 0, 1) := by decide +kernel
theorem dX3_goToStart_2 : decode cX3_goToStart 2 = .ok (.putfield 15, 3) := by decide +kernel
theorem dX3_goToStart_5 : decode cX3_goToStart 5 = .ok (.return_, 1) := by decide +kernel
theorem dX3_faultPlace_0 : decode cX3_faultPlace 0 = .ok (.aload_n 0, 1) := by decide +kernel
theorem dX3_faultPlace_1 : decode cX3_faultPlace 1 = .ok (.invokevirtual 19, 3) := by decide +kernel
theorem dX3_faultPlace_4 : decode cX3_faultPlace 4 = .ok (.iconst 0, 1) := by decide +kernel
theorem dX3_faultPlace_5 : decode cX3_faultPlace 5 = .ok (.istore_n 1, 1) := by decide +kernel
theorem dX3_faultPlace_6 : decode cX3_faultPlace 6 = .ok (.iload_n 1, 1) := by decide +kernel
theorem dX3_faultPlace_7 : decode cX3_faultPlace 7 = .ok (.bipush 80, 2) := by decide +kernel
theorem dX3_faultPlace_9 : decode cX3_faultPlace 9 = .ok (.if_icmp .ge 47, 3) := by decide +kernel
theorem dX3_faultPlace_12 : decode cX3_faultPlace 12 = .ok (.aload_n 0, 1) := by decide +kernel
theorem dX3_faultPlace_13 : decode cX3_faultPlace 13 = .ok (.invokevirtual 22, 3) := by decide +kernel
theorem dX3_faultPlace_16 : decode cX3_faultPlace 16 = .ok (.ifCond .eq 40, 3) := by decide +kernel
theorem dX3_faultPlace_19 : decode cX3_faultPlace 19 = .ok (.aload_n 0, 1) := by decide +kernel
theorem dX3_faultPlace_20 : decode cX3_faultPlace 20 = .ok (.getfield 15, 3) := by decide +kernel
theorem dX3_faultPlace_23 : decode cX3_faultPlace 23 = .ok (.aload_n 0, 1) := by decide +kernel
theorem dX3_faultPlace_24 : decode cX3_faultPlace 24 = .ok (.getfield 9, 3) := by decide +kernel
theorem dX3_faultPlace_27 : decode cX3_faultPlace 27 = .ok (.getfield 26, 3) := by decide +kernel
theorem dX3_faultPlace_30 : decode cX3_faultPlace 30 = .ok (.if_icmp .ne 6, 3) := by decide +kernel
theorem dX3_faultPlace_33 : decode cX3_faultPlace 33 = .ok (.bipush (-6), 2) := by decide +kernel
theorem dX3_faultPlace_35 : decode cX3_faultPlace 35 = .ok (.ireturn, 1) := by decide +kernel
theorem dX3_faultPlace_36 : decode cX3_faultPlace 36 = .ok (.aload_n 0, 1) := by decide +kernel
theorem dX3_faultPlace_37 : decode cX3_faultPlace 37 = .ok (.bipush 59, 2) := by decide +kernel
theorem dX3_faultPlace_39 : decode cX3_faultPlace 39 = .ok (.invokevirtual 31, 3) := by decide +kernel
theorem dX3_faultPlace_42 : decode cX3_faultPlace 42 = .ok (.ifCond .ne 8, 3) := by decide +kernel
theorem dX3_faultPlace_45 : decode cX3_faultPlace 45 = .ok (.aload_n 0, 1) := by decide +kernel
theorem dX3_faultPlace_46 : decode cX3_faultPlace 46 = .ok (.getfield 15, 3) := by decide +kernel
theorem dX3_faultPlace_49 : decode cX3_faultPlace 49 = .ok (.ireturn, 1) := by decide +kernel
theorem dX3_faultPlace_50 : decode cX3_faultPlace 50 = .ok (.iinc 1 1, 3) := by decide +kernel
theorem dX3_faultPlace_53 : decode cX3_faultPlace 53 = .ok (.goto (-47), 3) := by decide +kernel
theorem dX3_faultPlace_56 : decode cX3_faultPlace 56 = .ok (.aload_n 0, 1) := by decide +kernel
theorem dX3_faultPlace_57 : decode cX3_faultPlace 57 = .ok (.getfield 15, 3) := by decide +kernel
theorem dX3_faultPlace_60 : decode cX3_faultPlace 60 = .ok (.ireturn, 1) := by decide +kernel
theorem dX3_readOrder_0 : decode cX3_readOrder 0 = .ok (.aload_n 0, 1) := by decide +kernel
theorem dX3_readOrder_1 : decode cX3_readOrder 1 = .ok (.aload_n 0, 1) := by decide +kernel
theorem dX3_readOrder_2 : decode cX3_readOrder 2 = .ok (.getfield 9, 3) := by decide +kernel
theorem dX3_readOrder_5 : decode cX3_readOrder 5 = .ok (.aload_n 0, 1) := by decide +kernel
theorem dX3_readOrder_6 : decode cX3_readOrder 6 = .ok (.getfield 15, 3) := by decide +kernel
theorem dX3_readOrder_9 : decode cX3_readOrder 9 = .ok (.invokevirtual 35, 3) := by decide +kernel
theorem dX3_readOrder_12 : decode cX3_readOrder 12 = .ok (.putfield 39, 3) := by decide +kernel
theorem dX3_readOrder_15 : decode cX3_readOrder 15 = .ok (.aload_n 0, 1) := by decide +kernel
theorem dX3_readOrder_16 : decode cX3_readOrder 16 = .ok (.getfield 39, 3) := by decide +kernel
theorem dX3_readOrder_19 : decode cX3_readOrder 19 = .ok (.invokestatic 42, 3) := by decide +kernel
theorem dX3_readOrder_22 : decode cX3_readOrder 22 = .ok (.ifCond .ne 5, 3) := by decide +kernel
theorem dX3_readOrder_25 : decode cX3_readOrder 25 = .ok (.iconst 0, 1) := by decide +kernel
theorem dX3_readOrder_26 : decode cX3_readOrder 26 = .ok (.ireturn, 1) := by decide +kernel
theorem dX3_readOrder_27 : decode cX3_readOrder 27 = .ok (.aload_n 0, 1) := by decide +kernel
theorem dX3_readOrder_28 : decode cX3_readOrder 28 = .ok (.dup, 1) := by decide +kernel
theorem dX3_readOrder_29 : decode cX3_readOrder 29 = .ok (.getfield 15, 3) := by decide +kernel
theorem dX3_readOrder_32 : decode cX3_readOrder 32 = .ok (.iconst 1, 1) := by decide +kernel
theorem dX3_readOrder_33 : decode cX3_readOrder 33 = .ok (.iadd, 1) := by decide +kernel
theorem dX3_readOrder_34 : decode cX3_readOrder 34 = .ok (.putfield 15, 3) := by decide +kernel
theorem dX3_readOrder_37 : decode cX3_readOrder 37 = .ok (.aload_n 0, 1) := by decide +kernel
theorem dX3_readOrder_38 : decode cX3_readOrder 38 = .ok (.getfield 39, 3) := by decide +kernel
theorem dX3_readOrder_41 : decode cX3_readOrder 41 = .ok (.tableswitch 196 98 108 #[59, 88, 196, 196, 196, 117, 162, 196, 196, 196, 191], 59) := by decide +kernel
theorem dX3_readOrder_100 : decode cX3_readOrder 100 = .ok (.aload_n 0, 1) := by decide +kernel
theorem dX3_readOrder_101 : decode cX3_readOrder 101 = .ok (.invokevirtual 45, 3) := by decide +kernel
theorem dX3_readOrder_104 : decode cX3_readOrder 104 = .ok (.ifCond .eq 23, 3) := by decide +kernel
theorem dX3_readOrder_107 : decode cX3_readOrder 107 = .ok (.aload_n 0, 1) := by decide +kernel
theorem dX3_readOrder_108 : decode cX3_readOrder 108 = .ok (.bipush 42, 2) := by decide +kernel
theorem dX3_readOrder_110 : decode cX3_readOrder 110 = .ok (.invokevirtual 31, 3) := by decide +kernel
theorem dX3_readOrder_113 : decode cX3_readOrder 113 = .ok (.ifCond .eq 14, 3) := by decide +kernel
theorem dX3_readOrder_116 : decode cX3_readOrder 116 = .ok (.aload_n 0, 1) := by decide +kernel
theorem dX3_readOrder_117 : decode cX3_readOrder 117 = .ok (.invokevirtual 48, 3) := by decide +kernel
theorem dX3_readOrder_120 : decode cX3_readOrder 120 = .ok (.ifCond .eq 7, 3) := by decide +kernel
theorem dX3_readOrder_123 : decode cX3_readOrder 123 = .ok (.iconst 1, 1) := by decide +kernel
theorem dX3_readOrder_124 : decode cX3_readOrder 124 = .ok (.goto 4, 3) := by decide +kernel
theorem dX3_readOrder_127 : decode cX3_readOrder 127 = .ok (.iconst 0, 1) := by decide +kernel
theorem dX3_readOrder_128 : decode cX3_readOrder 128 = .ok (.ireturn, 1) := by decide +kernel
theorem dX3_readOrder_129 : decode cX3_readOrder 129 = .ok (.aload_n 0, 1) := by decide +kernel
theorem dX3_readOrder_130 : decode cX3_readOrder 130 = .ok (.invokevirtual 51, 3) := by decide +kernel
theorem dX3_readOrder_133 : decode cX3_readOrder 133 = .ok (.ifCond .eq 23, 3) := by decide +kernel
theorem dX3_readOrder_136 : decode cX3_readOrder 136 = .ok (.aload_n 0, 1) := by decide +kernel
theorem dX3_readOrder_137 : decode cX3_readOrder 137 = .ok (.bipush 42, 2) := by decide +kernel
theorem dX3_readOrder_139 : decode cX3_readOrder 139 = .ok (.invokevirtual 31, 3) := by decide +kernel
theorem dX3_readOrder_142 : decode cX3_readOrder 142 = .ok (.ifCond .eq 14, 3) := by decide +kernel
theorem dX3_readOrder_145 : decode cX3_readOrder 145 = .ok (.aload_n 0, 1) := by decide +kernel
theorem dX3_readOrder_146 : decode cX3_readOrder 146 = .ok (.invokevirtual 54, 3) := by decide +kernel
theorem dX3_readOrder_149 : decode cX3_readOrder 149 = .ok (.ifCond .eq 7, 3) := by decide +kernel
theorem dX3_readOrder_152 : decode cX3_readOrder 152 = .ok (.iconst 1, 1) := by decide +kernel
theorem dX3_readOrder_153 : decode cX3_readOrder 153 = .ok (.goto 4, 3) := by decide +kernel
theorem dX3_readOrder_156 : decode cX3_readOrder 156 = .ok (.iconst 0, 1) := by decide +kernel
theorem dX3_readOrder_157 : decode cX3_readOrder 157 = .ok (.ireturn, 1) := by decide +kernel
theorem dX3_readOrder_158 : decode cX3_readOrder 158 = .ok (.aload_n 0, 1) := by decide +kernel
theorem dX3_readOrder_159 : decode cX3_readOrder 159 = .ok (.invokevirtual 51, 3) := by decide +kernel
theorem dX3_readOrder_162 : decode cX3_readOrder 162 = .ok (.ifCond .eq 39, 3) := by decide +kernel
theorem dX3_readOrder_165 : decode cX3_readOrder 165 = .ok (.aload_n 0, 1) := by decide +kernel
theorem dX3_readOrder_166 : decode cX3_readOrder 166 = .ok (.bipush 58, 2) := by decide +kernel
theorem dX3_readOrder_168 : decode cX3_readOrder 168 = .ok (.invokevirtual 31, 3) := by decide +kernel
theorem dX3_readOrder_171 : decode cX3_readOrder 171 = .ok (.ifCond .eq 30, 3) := by decide +kernel
theorem dX3_readOrder_174 : decode cX3_readOrder 174 = .ok (.aload_n 0, 1) := by decide +kernel
theorem dX3_readOrder_175 : decode cX3_readOrder 175 = .ok (.invokevirtual 54, 3) := by decide +kernel
theorem dX3_readOrder_178 : decode cX3_readOrder 178 = .ok (.ifCond .eq 23, 3) := by decide +kernel
theorem dX3_readOrder_181 : decode cX3_readOrder 181 = .ok (.aload_n 0, 1) := by decide +kernel
theorem dX3_readOrder_182 : decode cX3_readOrder 182 = .ok (.bipush 61, 2) := by decide +kernel
theorem dX3_readOrder_184 : decode cX3_readOrder 184 = .ok (.invokevirtual 31, 3) := by decide +kernel
theorem dX3_readOrder_187 : decode cX3_readOrder 187 = .ok (.ifCond .eq 14, 3) := by decide +kernel
theorem dX3_readOrder_190 : decode cX3_readOrder 190 = .ok (.aload_n 0, 1) := by decide +kernel
theorem dX3_readOrder_191 : decode cX3_readOrder 191 = .ok (.invokevirtual 48, 3) := by decide +kernel
theorem dX3_readOrder_194 : decode cX3_readOrder 194 = .ok (.ifCond .eq 7, 3) := by decide +kernel
theorem dX3_readOrder_197 : decode cX3_readOrder 197 = .ok (.iconst 1, 1) := by decide +kernel
theorem dX3_readOrder_198 : decode cX3_readOrder 198 = .ok (.goto 4, 3) := by decide +kernel
theorem dX3_readOrder_201 : decode cX3_readOrder 201 = .ok (.iconst 0, 1) := by decide +kernel
theorem dX3_readOrder_202 : decode cX3_readOrder 202 = .ok (.ireturn, 1) := by decide +kernel
theorem dX3_readOrder_203 : decode cX3_readOrder 203 = .ok (.aload_n 0, 1) := by decide +kernel
theorem dX3_readOrder_204 : decode cX3_readOrder 204 = .ok (.invokevirtual 51, 3) := by decide +kernel
theorem dX3_readOrder_207 : decode cX3_readOrder 207 = .ok (.ifCond .eq 23, 3) := by decide +kernel
theorem dX3_readOrder_210 : decode cX3_readOrder 210 = .ok (.aload_n 0, 1) := by decide +kernel
theorem dX3_readOrder_211 : decode cX3_readOrder 211 = .ok (.bipush 58, 2) := by decide +kernel
theorem dX3_readOrder_213 : decode cX3_readOrder 213 = .ok (.invokevirtual 31, 3) := by decide +kernel
theorem dX3_readOrder_216 : decode cX3_readOrder 216 = .ok (.ifCond .eq 14, 3) := by decide +kernel
theorem dX3_readOrder_219 : decode cX3_readOrder 219 = .ok (.aload_n 0, 1) := by decide +kernel
theorem dX3_readOrder_220 : decode cX3_readOrder 220 = .ok (.invokevirtual 54, 3) := by decide +kernel
theorem dX3_readOrder_223 : decode cX3_readOrder 223 = .ok (.ifCond .eq 7, 3) := by decide +kernel
theorem dX3_readOrder_226 : decode cX3_readOrder 226 = .ok (.iconst 1, 1) := by decide +kernel
theorem dX3_readOrder_227 : decode cX3_readOrder 227 = .ok (.goto 4, 3) := by decide +kernel
theorem dX3_readOrder_230 : decode cX3_readOrder 230 = .ok (.iconst 0, 1) := by decide +kernel
theorem dX3_readOrder_231 : decode cX3_readOrder 231 = .ok (.ireturn, 1) := by decide +kernel
theorem dX3_readOrder_232 : decode cX3_readOrder 232 = .ok (.aload_n 0, 1) := by decide +kernel
theorem dX3_readOrder_233 : decode cX3_readOrder 233 = .ok (.invokevirtual 51, 3) := by decide +kernel
theorem dX3_readOrder_236 : decode cX3_readOrder 236 = .ok (.ireturn, 1) := by decide +kernel
theorem dX3_readOrder_237 : decode cX3_readOrder 237 = .ok (.aload_n 0, 1) := by decide +kernel
theorem dX3_readOrder_238 : decode cX3_readOrder 238 = .ok (.aload_n 0, 1) := by decide +kernel
theorem dX3_readOrder_239 : decode cX3_readOrder 239 = .ok (.invokevirtual 57, 3) := by decide +kernel
theorem dX3_readOrder_242 : decode cX3_readOrder 242 = .ok (.putfield 61, 3) := by decide +kernel
theorem dX3_readOrder_245 : decode cX3_readOrder 245 = .ok (.aload_n 0, 1) := by decide +kernel
theorem dX3_readOrder_246 : decode cX3_readOrder 246 = .ok (.getfield 61, 3) := by decide +kernel
theorem dX3_readOrder_249 : decode cX3_readOrder 249 = .ok (.bipush (-6), 2) := by decide +kernel
theorem dX3_readOrder_251 : decode cX3_readOrder 251 = .ok (.if_icmp .eq 7, 3) := by decide +kernel
theorem dX3_readOrder_254 : decode cX3_readOrder 254 = .ok (.iconst 1, 1) := by decide +kernel
theorem dX3_readOrder_255 : decode cX3_readOrder 255 = .ok (.goto 4, 3) := by decide +kernel
theorem dX3_readOrder_258 : decode cX3_readOrder 258 = .ok (.iconst 0, 1) := by decide +kernel
theorem dX3_readOrder_259 : decode cX3_readOrder 259 = .ok (.ireturn, 1) := by decide +kernel
theorem dX3_readSign_0 : decode cX3_readSign 0 = .ok (.aload_n 0, 1) := by decide +kernel
theorem dX3_readSign_1 : decode cX3_readSign 1 = .ok (.getfield 9, 3) := by decide +kernel
theorem dX3_readSign_4 : decode cX3_readSign 4 = .ok (.aload_n 0, 1) := by decide +kernel
theorem dX3_readSign_5 : decode cX3_readSign 5 = .ok (.getfield 15, 3) := by decide +kernel
theorem dX3_readSign_8 : decode cX3_readSign 8 = .ok (.invokevirtual 35, 3) := by decide +kernel
theorem dX3_readSign_11 : decode cX3_readSign 11 = .ok (.iload_n 1, 1) := by decide +kernel
theorem dX3_readSign_12 : decode cX3_readSign 12 = .ok (.if_icmp .ne 7, 3) := by decide +kernel
theorem dX3_readSign_15 : decode cX3_readSign 15 = .ok (.iconst 1, 1) := by decide +kernel
theorem dX3_readSign_16 : decode cX3_readSign 16 = .ok (.goto 4, 3) := by decide +kernel
theorem dX3_readSign_19 : decode cX3_readSign 19 = .ok (.iconst 0, 1) := by decide +kernel
theorem dX3_readSign_20 : decode cX3_readSign 20 = .ok (.istore_n 2, 1) := by decide +kernel
theorem dX3_readSign_21 : decode cX3_readSign 21 = .ok (.iload_n 2, 1) := by decide +kernel
theorem dX3_readSign_22 : decode cX3_readSign 22 = .ok (.ifCond .eq 13, 3) := by decide +kernel
theorem dX3_readSign_25 : decode cX3_readSign 25 = .ok (.aload_n 0, 1) := by decide +kernel
theorem dX3_readSign_26 : decode cX3_readSign 26 = .ok (.dup, 1) := by decide +kernel
theorem dX3_readSign_27 : decode cX3_readSign 27 = .ok (.getfield 15, 3) := by decide +kernel
theorem dX3_readSign_30 : decode cX3_readSign 30 = .ok (.iconst 1, 1) := by decide +kernel
theorem dX3_readSign_31 : decode cX3_readSign 31 = .ok (.iadd, 1) := by decide +kernel
theorem dX3_readSign_32 : decode cX3_readSign 32 = .ok (.putfield 15, 3) := by decide +kernel
theorem dX3_readSign_35 : decode cX3_readSign 35 = .ok (.iload_n 2, 1) := by decide +kernel
theorem dX3_readSign_36 : decode cX3_readSign 36 = .ok (.ireturn, 1) := by decide +kernel
theorem dX3_isKind_0 : decode cX3_isKind 0 = .ok (.iload_n 0, 1) := by decide +kernel
theorem dX3_isKind_1 : decode cX3_isKind 1 = .ok (.bipush 98, 2) := by decide +kernel
theorem dX3_isKind_3 : decode cX3_isKind 3 = .ok (.if_icmp .eq 33, 3) := by decide +kernel
theorem dX3_isKind_6 : decode cX3_isKind 6 = .ok (.iload_n 0, 1) := by decide +kernel
theorem dX3_isKind_7 : decode cX3_isKind 7 = .ok (.bipush 99, 2) := by decide +kernel
theorem dX3_isKind_9 : decode cX3_isKind 9 = .ok (.if_icmp .eq 27, 3) := by decide +kernel
theorem dX3_isKind_12 : decode cX3_isKind 12 = .ok (.iload_n 0, 1) := by decide +kernel
theorem dX3_isKind_13 : decode cX3_isKind 13 = .ok (.bipush 103, 2) := by decide +kernel
theorem dX3_isKind_15 : decode cX3_isKind 15 = .ok (.if_icmp .eq 21, 3) := by decide +kernel
theorem dX3_isKind_18 : decode cX3_isKind 18 = .ok (.iload_n 0, 1) := by decide +kernel
theorem dX3_isKind_19 : decode cX3_isKind 19 = .ok (.bipush 104, 2) := by decide +kernel
theorem dX3_isKind_21 : decode cX3_isKind 21 = .ok (.if_icmp .eq 15, 3) := by decide +kernel
theorem dX3_isKind_24 : decode cX3_isKind 24 = .ok (.iload_n 0, 1) := by decide +kernel
theorem dX3_isKind_25 : decode cX3_isKind 25 = .ok (.bipush 108, 2) := by decide +kernel
theorem dX3_isKind_27 : decode cX3_isKind 27 = .ok (.if_icmp .eq 9, 3) := by decide +kernel
theorem dX3_isKind_30 : decode cX3_isKind 30 = .ok (.iload_n 0, 1) := by decide +kernel
theorem dX3_isKind_31 : decode cX3_isKind 31 = .ok (.bipush 112, 2) := by decide +kernel
theorem dX3_isKind_33 : decode cX3_isKind 33 = .ok (.if_icmp .ne 7, 3) := by decide +kernel
theorem dX3_isKind_36 : decode cX3_isKind 36 = .ok (.iconst 1, 1) := by decide +kernel
theorem dX3_isKind_37 : decode cX3_isKind 37 = .ok (.goto 4, 3) := by decide +kernel
theorem dX3_isKind_40 : decode cX3_isKind 40 = .ok (.iconst 0, 1) := by decide +kernel
theorem dX3_isKind_41 : decode cX3_isKind 41 = .ok (.ireturn, 1) := by decide +kernel
theorem dX3_readDigit_0 : decode cX3_readDigit 0 = .ok (.aload_n 0, 1) := by decide +kernel
theorem dX3_readDigit_1 : decode cX3_readDigit 1 = .ok (.aload_n 0, 1) := by decide +kernel
theorem dX3_readDigit_2 : decode cX3_readDigit 2 = .ok (.invokevirtual 64, 3) := by decide +kernel
theorem dX3_readDigit_5 : decode cX3_readDigit 5 = .ok (.putfield 61, 3) := by decide +kernel
theorem dX3_readDigit_8 : decode cX3_readDigit 8 = .ok (.aload_n 0, 1) := by decide +kernel
theorem dX3_readDigit_9 : decode cX3_readDigit 9 = .ok (.getfield 61, 3) := by decide +kernel
theorem dX3_readDigit_12 : decode cX3_readDigit 12 = .ok (.bipush (-6), 2) := by decide +kernel
theorem dX3_readDigit_14 : decode cX3_readDigit 14 = .ok (.if_icmp .eq 7, 3) := by decide +kernel
theorem dX3_readDigit_17 : decode cX3_readDigit 17 = .ok (.iconst 1, 1) := by decide +kernel
theorem dX3_readDigit_18 : decode cX3_readDigit 18 = .ok (.goto 4, 3) := by decide +kernel
theorem dX3_readDigit_21 : decode cX3_readDigit 21 = .ok (.iconst 0, 1) := by decide +kernel
theorem dX3_readDigit_22 : decode cX3_readDigit 22 = .ok (.ireturn, 1) := by decide +kernel
theorem dX3_readDigitPair_0 : decode cX3_readDigitPair 0 = .ok (.aload_n 0, 1) := by decide +kernel
theorem dX3_readDigitPair_1 : decode cX3_readDigitPair 1 = .ok (.invokevirtual 51, 3) := by decide +kernel
theorem dX3_readDigitPair_4 : decode cX3_readDigitPair 4 = .ok (.ifCond .ne 5, 3) := by decide +kernel
theorem dX3_readDigitPair_7 : decode cX3_readDigitPair 7 = .ok (.iconst 0, 1) := by decide +kernel
theorem dX3_readDigitPair_8 : decode cX3_readDigitPair 8 = .ok (.ireturn, 1) := by decide +kernel
theorem dX3_readDigitPair_9 : decode cX3_readDigitPair 9 = .ok (.aload_n 0, 1) := by decide +kernel
theorem dX3_readDigitPair_10 : decode cX3_readDigitPair 10 = .ok (.aload_n 0, 1) := by decide +kernel
theorem dX3_readDigitPair_11 : decode cX3_readDigitPair 11 = .ok (.invokevirtual 64, 3) := by decide +kernel
theorem dX3_readDigitPair_14 : decode cX3_readDigitPair 14 = .ok (.putfield 67, 3) := by decide +kernel
theorem dX3_readDigitPair_17 : decode cX3_readDigitPair 17 = .ok (.aload_n 0, 1) := by decide +kernel
theorem dX3_readDigitPair_18 : decode cX3_readDigitPair 18 = .ok (.getfield 67, 3) := by decide +kernel
theorem dX3_readDigitPair_21 : decode cX3_readDigitPair 21 = .ok (.bipush (-6), 2) := by decide +kernel
theorem dX3_readDigitPair_23 : decode cX3_readDigitPair 23 = .ok (.if_icmp .eq 7, 3) := by decide +kernel
theorem dX3_readDigitPair_26 : decode cX3_readDigitPair 26 = .ok (.iconst 1, 1) := by decide +kernel
theorem dX3_readDigitPair_27 : decode cX3_readDigitPair 27 = .ok (.goto 4, 3) := by decide +kernel
theorem dX3_readDigitPair_30 : decode cX3_readDigitPair 30 = .ok (.iconst 0, 1) := by decide +kernel
theorem dX3_readDigitPair_31 : decode cX3_readDigitPair 31 = .ok (.ireturn, 1) := by decide +kernel
theorem dX3_readSecond_0 : decode cX3_readSecond 0 = .ok (.aload_n 0, 1) := by decide +kernel
theorem dX3_readSecond_1 : decode cX3_readSecond 1 = .ok (.aload_n 0, 1) := by decide +kernel
theorem dX3_readSecond_2 : decode cX3_readSecond 2 = .ok (.invokevirtual 57, 3) := by decide +kernel
theorem dX3_readSecond_5 : decode cX3_readSecond 5 = .ok (.putfield 67, 3) := by decide +kernel
theorem dX3_readSecond_8 : decode cX3_readSecond 8 = .ok (.aload_n 0, 1) := by decide +kernel
theorem dX3_readSecond_9 : decode cX3_readSecond 9 = .ok (.getfield 67, 3) := by decide +kernel
theorem dX3_readSecond_12 : decode cX3_readSecond 12 = .ok (.bipush (-6), 2) := by decide +kernel
theorem dX3_readSecond_14 : decode cX3_readSecond 14 = .ok (.if_icmp .eq 7, 3) := by decide +kernel
theorem dX3_readSecond_17 : decode cX3_readSecond 17 = .ok (.iconst 1, 1) := by decide +kernel
theorem dX3_readSecond_18 : decode cX3_readSecond 18 = .ok (.goto 4, 3) := by decide +kernel
theorem dX3_readSecond_21 : decode cX3_readSecond 21 = .ok (.iconst 0, 1) := by decide +kernel
theorem dX3_readSecond_22 : decode cX3_readSecond 22 = .ok (.ireturn, 1) := by decide +kernel
theorem dX3_readThird_0 : decode cX3_readThird 0 = .ok (.aload_n 0, 1) := by decide +kernel
theorem dX3_readThird_1 : decode cX3_readThird 1 = .ok (.aload_n 0, 1) := by decide +kernel
theorem dX3_readThird_2 : decode cX3_readThird 2 = .ok (.invokevirtual 57, 3) := by decide +kernel
theorem dX3_readThird_5 : decode cX3_readThird 5 = .ok (.putfield 70, 3) := by decide +kernel
theorem dX3_readThird_8 : decode cX3_readThird 8 = .ok (.aload_n 0, 1) := by decide +kernel
theorem dX3_readThird_9 : decode cX3_readThird 9 = .ok (.getfield 70, 3) := by decide +kernel
theorem dX3_readThird_12 : decode cX3_readThird 12 = .ok (.bipush (-6), 2) := by decide +kernel
theorem dX3_readThird_14 : decode cX3_readThird 14 = .ok (.if_icmp .eq 7, 3) := by decide +kernel
theorem dX3_readThird_17 : decode cX3_readThird 17 = .ok (.iconst 1, 1) := by decide +kernel
theorem dX3_readThird_18 : decode cX3_readThird 18 = .ok (.goto 4, 3) := by decide +kernel
theorem dX3_readThird_21 : decode cX3_readThird 21 = .ok (.iconst 0, 1) := by decide +kernel
theorem dX3_readThird_22 : decode cX3_readThird 22 = .ok (.ireturn, 1) := by decide +kernel
theorem dX3_readNumber_0 : decode cX3_readNumber 0 = .ok (.aload_n 0, 1) := by decide +kernel
theorem dX3_readNumber_1 : decode cX3_readNumber 1 = .ok (.invokevirtual 64, 3) := by decide +kernel
theorem dX3_readNumber_4 : decode cX3_readNumber 4 = .ok (.istore_n 1, 1) := by decide +kernel
theorem dX3_readNumber_5 : decode cX3_readNumber 5 = .ok (.iload_n 1, 1) := by decide +kernel
theorem dX3_readNumber_6 : decode cX3_readNumber 6 = .ok (.bipush (-6), 2) := by decide +kernel
theorem dX3_readNumber_8 : decode cX3_readNumber 8 = .ok (.if_icmp .eq 7, 3) := by decide +kernel
theorem dX3_readNumber_11 : decode cX3_readNumber 11 = .ok (.iload_n 1, 1) := by decide +kernel
theorem dX3_readNumber_12 : decode cX3_readNumber 12 = .ok (.ifCond .ne 5, 3) := by decide +kernel
theorem dX3_readNumber_15 : decode cX3_readNumber 15 = .ok (.iload_n 1, 1) := by decide +kernel
theorem dX3_readNumber_16 : decode cX3_readNumber 16 = .ok (.ireturn, 1) := by decide +kernel
theorem dX3_readNumber_17 : decode cX3_readNumber 17 = .ok (.iconst 1, 1) := by decide +kernel
theorem dX3_readNumber_18 : decode cX3_readNumber 18 = .ok (.istore_n 2, 1) := by decide +kernel
theorem dX3_readNumber_19 : decode cX3_readNumber 19 = .ok (.iload_n 2, 1) := by decide +kernel
theorem dX3_readNumber_20 : decode cX3_readNumber 20 = .ok (.iconst 4, 1) := by decide +kernel
theorem dX3_readNumber_21 : decode cX3_readNumber 21 = .ok (.if_icmp .ge 29, 3) := by decide +kernel
theorem dX3_readNumber_24 : decode cX3_readNumber 24 = .ok (.aload_n 0, 1) := by decide +kernel
theorem dX3_readNumber_25 : decode cX3_readNumber 25 = .ok (.invokevirtual 64, 3) := by decide +kernel
theorem dX3_readNumber_28 : decode cX3_readNumber 28 = .ok (.istore_n 3, 1) := by decide +kernel
theorem dX3_readNumber_29 : decode cX3_readNumber 29 = .ok (.iload_n 3, 1) := by decide +kernel
theorem dX3_readNumber_30 : decode cX3_readNumber 30 = .ok (.bipush (-6), 2) := by decide +kernel
theorem dX3_readNumber_32 : decode cX3_readNumber 32 = .ok (.if_icmp .ne 5, 3) := by decide +kernel
theorem dX3_readNumber_35 : decode cX3_readNumber 35 = .ok (.iload_n 1, 1) := by decide +kernel
theorem dX3_readNumber_36 : decode cX3_readNumber 36 = .ok (.ireturn, 1) := by decide +kernel
theorem dX3_readNumber_37 : decode cX3_readNumber 37 = .ok (.bipush 10, 2) := by decide +kernel
theorem dX3_readNumber_39 : decode cX3_readNumber 39 = .ok (.iload_n 1, 1) := by decide +kernel
theorem dX3_readNumber_40 : decode cX3_readNumber 40 = .ok (.imul, 1) := by decide +kernel
theorem dX3_readNumber_41 : decode cX3_readNumber 41 = .ok (.iload_n 3, 1) := by decide +kernel
theorem dX3_readNumber_42 : decode cX3_readNumber 42 = .ok (.iadd, 1) := by decide +kernel
theorem dX3_readNumber_43 : decode cX3_readNumber 43 = .ok (.istore_n 1, 1) := by decide +kernel
theorem dX3_readNumber_44 : decode cX3_readNumber 44 = .ok (.iinc 2 1, 3) := by decide +kernel
theorem dX3_readNumber_47 : decode cX3_readNumber 47 = .ok (.goto (-28), 3) := by decide +kernel
theorem dX3_readNumber_50 : decode cX3_readNumber 50 = .ok (.iload_n 1, 1) := by decide +kernel
theorem dX3_readNumber_51 : decode cX3_readNumber 51 = .ok (.ireturn, 1) := by decide +kernel
theorem dX3_nextDigit_0 : decode cX3_nextDigit 0 = .ok (.aload_n 0, 1) := by decide +kernel
theorem dX3_nextDigit_1 : decode cX3_nextDigit 1 = .ok (.getfield 9, 3) := by decide +kernel
theorem dX3_nextDigit_4 : decode cX3_nextDigit 4 = .ok (.aload_n 0, 1) := by decide +kernel
theorem dX3_nextDigit_5 : decode cX3_nextDigit 5 = .ok (.getfield 15, 3) := by decide +kernel
theorem dX3_nextDigit_8 : decode cX3_nextDigit 8 = .ok (.invokevirtual 35, 3) := by decide +kernel
theorem dX3_nextDigit_11 : decode cX3_nextDigit 11 = .ok (.istore_n 1, 1) := by decide +kernel
theorem dX3_nextDigit_12 : decode cX3_nextDigit 12 = .ok (.iload_n 1, 1) := by decide +kernel
theorem dX3_nextDigit_13 : decode cX3_nextDigit 13 = .ok (.bipush 48, 2) := by decide +kernel
theorem dX3_nextDigit_15 : decode cX3_nextDigit 15 = .ok (.if_icmp .lt 9, 3) := by decide +kernel
theorem dX3_nextDigit_18 : decode cX3_nextDigit 18 = .ok (.iload_n 1, 1) := by decide +kernel
theorem dX3_nextDigit_19 : decode cX3_nextDigit 19 = .ok (.bipush 57, 2) := by decide +kernel
theorem dX3_nextDigit_21 : decode cX3_nextDigit 21 = .ok (.if_icmp .le 6, 3) := by decide +kernel
theorem dX3_nextDigit_24 : decode cX3_nextDigit 24 = .ok (.bipush (-6), 2) := by decide +kernel
theorem dX3_nextDigit_26 : decode cX3_nextDigit 26 = .ok (.ireturn, 1) := by decide +kernel
theorem dX3_nextDigit_27 : decode cX3_nextDigit 27 = .ok (.aload_n 0, 1) := by decide +kernel
theorem dX3_nextDigit_28 : decode cX3_nextDigit 28 = .ok (.dup, 1) := by decide +kernel
theorem dX3_nextDigit_29 : decode cX3_nextDigit 29 = .ok (.getfield 15, 3) := by decide +kernel
theorem dX3_nextDigit_32 : decode cX3_nextDigit 32 = .ok (.iconst 1, 1) := by decide +kernel
theorem dX3_nextDigit_33 : decode cX3_nextDigit 33 = .ok (.iadd, 1) := by decide +kernel
theorem dX3_nextDigit_34 : decode cX3_nextDigit 34 = .ok (.putfield 15, 3) := by decide +kernel
theorem dX3_nextDigit_37 : decode cX3_nextDigit 37 = .ok (.iload_n 1, 1) := by decide +kernel
theorem dX3_nextDigit_38 : decode cX3_nextDigit 38 = .ok (.bipush 48, 2) := by decide +kernel
theorem dX3_nextDigit_40 : decode cX3_nextDigit 40 = .ok (.isub, 1) := by decide +kernel
theorem dX3_nextDigit_41 : decode cX3_nextDigit 41 = .ok (.ireturn, 1) := by decide +kernel
theorem dX4_init_0 : decode cX4_init 0 = .ok (.aload_n 0, 1) := by decide +kernel
theorem dX4_init_1 : decode cX4_init 1 = .ok (.invokespecial 3, 3) := by decide +kernel
theorem dX4_init_4 : decode cX4_init 4 = .ok (.aload_n 0, 1) := by decide +kernel
theorem dX4_init_5 : decode cX4_init 5 = .ok (.bipush 80, 2) := by decide +kernel
theorem dX4_init_7 : decode cX4_init 7 = .ok (.newarray .int, 2) := by decide +kernel
theorem dX4_init_9 : decode cX4_init 9 = .ok (.putfield 9, 3) := by decide +kernel
theorem dX4_init_12 : decode cX4_init 12 = .ok (.return_, 1) := by decide +kernel
theorem dX4_clear_0 : decode cX4_clear 0 = .ok (.aload_n 0, 1) := by decide +kernel
theorem dX4_clear_1 : decode cX4_clear 1 = .ok (.iconst 0, 1) := by decide +kernel
theorem dX4_clear_2 : decode cX4_clear 2 = .ok (.putfield 15, 3) := by decide +kernel
theorem dX4_clear_5 : decode cX4_clear 5 = .ok (.return_, 1) := by decide +kernel
theorem dX4_codeAt_0 : decode cX4_codeAt 0 = .ok (.iload_n 1, 1) := by decide +kernel
theorem dX4_codeAt_1 : decode cX4_codeAt 1 = .ok (.ifCond .lt 20, 3) := by decide +kernel
theorem dX4_codeAt_4 : decode cX4_codeAt 4 = .ok (.iload_n 1, 1) := by decide +kernel
theorem dX4_codeAt_5 : decode cX4_codeAt 5 = .ok (.aload_n 0, 1) := by decide +kernel
theorem dX4_codeAt_6 : decode cX4_codeAt 6 = .ok (.getfield 15, 3) := by decide +kernel
theorem dX4_codeAt_9 : decode cX4_codeAt 9 = .ok (.if_icmp .ge 12, 3) := by decide +kernel
theorem dX4_codeAt_12 : decode cX4_codeAt 12 = .ok (.aload_n 0, 1) := by decide +kernel
theorem dX4_codeAt_13 : decode cX4_codeAt 13 = .ok (.getfield 9, 3) := by decide +kernel
theorem dX4_codeAt_16 : decode cX4_codeAt 16 = .ok (.iload_n 1, 1) := by decide +kernel
theorem dX4_codeAt_17 : decode cX4_codeAt 17 = .ok (.iaload, 1) := by decide +kernel
theorem dX4_codeAt_18 : decode cX4_codeAt 18 = .ok (.goto 4, 3) := by decide +kernel
theorem dX4_codeAt_21 : decode cX4_codeAt 21 = .ok (.iconst (-1), 1) := by decide +kernel
theorem dX4_codeAt_22 : decode cX4_codeAt 22 = .ok (.ireturn, 1) := by decide +kernel
theorem dX4_append_0 : decode cX4_append 0 = .ok (.aload_n 0, 1) := by decide +kernel
theorem dX4_append_1 : decode cX4_append 1 = .ok (.getfield 15, 3) := by decide +kernel
theorem dX4_append_4 : decode cX4_append 4 = .ok (.bipush 80, 2) := by decide +kernel
theorem dX4_append_6 : decode cX4_append 6 = .ok (.if_icmp .ge 23, 3) := by decide +kernel
theorem dX4_append_9 : decode cX4_append 9 = .ok (.aload_n 0, 1) := by decide +kernel
theorem dX4_append_10 : decode cX4_append 10 = .ok (.getfield 9, 3) := by decide +kernel
theorem dX4_append_13 : decode cX4_append 13 = .ok (.aload_n 0, 1) := by decide +kernel
theorem dX4_append_14 : decode cX4_append 14 = .ok (.getfield 15, 3) := by decide +kernel
theorem dX4_append_17 : decode cX4_append 17 = .ok (.iload_n 1, 1) := by decide +kernel
theorem dX4_append_18 : decode cX4_append 18 = .ok (.iastore, 1) := by decide +kernel
theorem dX4_append_19 : decode cX4_append 19 = .ok (.aload_n 0, 1) := by decide +kernel
theorem dX4_append_20 : decode cX4_append 20 = .ok (.dup, 1) := by decide +kernel
theorem dX4_append_21 : decode cX4_append 21 = .ok (.getfield 15, 3) := by decide +kernel
theorem dX4_append_24 : decode cX4_append 24 = .ok (.iconst 1, 1) := by decide +kernel
theorem dX4_append_25 : decode cX4_append 25 = .ok (.iadd, 1) := by decide +kernel
theorem dX4_append_26 : decode cX4_append 26 = .ok (.putfield 15, 3) := by decide +kernel
theorem dX4_append_29 : decode cX4_append 29 = .ok (.return_, 1) := by decide +kernel
theorem dX4_appendNumber_0 : decode cX4_appendNumber 0 = .ok (.ldc 19, 2) := by decide +kernel
theorem dX4_appendNumber_2 : decode cX4_appendNumber 2 = .ok (.istore_n 2, 1) := by decide +kernel
theorem dX4_appendNumber_3 : decode cX4_appendNumber 3 = .ok (.iload_n 2, 1) := by decide +kernel
theorem dX4_appendNumber_4 : decode cX4_appendNumber 4 = .ok (.iconst 1, 1) := by decide +kernel
theorem dX4_appendNumber_5 : decode cX4_appendNumber 5 = .ok (.if_icmp .lt 34, 3) := by decide +kernel
theorem dX4_appendNumber_8 : decode cX4_appendNumber 8 = .ok (.iload_n 1, 1) := by decide +kernel
theorem dX4_appendNumber_9 : decode cX4_appendNumber 9 = .ok (.iload_n 2, 1) := by decide +kernel
theorem dX4_appendNumber_10 : decode cX4_appendNumber 10 = .ok (.if_icmp .ge 8, 3) := by decide +kernel
theorem dX4_appendNumber_13 : decode cX4_appendNumber 13 = .ok (.iload_n 2, 1) := by decide +kernel
theorem dX4_appendNumber_14 : decode cX4_appendNumber 14 = .ok (.iconst 1, 1) := by decide +kernel
theorem dX4_appendNumber_15 : decode cX4_appendNumber 15 = .ok (.if_icmp .ne 16, 3) := by decide +kernel
theorem dX4_appendNumber_18 : decode cX4_appendNumber 18 = .ok (.aload_n 0, 1) := by decide +kernel
theorem dX4_appendNumber_19 : decode cX4_appendNumber 19 = .ok (.bipush 48, 2) := by decide +kernel
theorem dX4_appendNumber_21 : decode cX4_appendNumber 21 = .ok (.iload_n 1, 1) := by decide +kernel
theorem dX4_appendNumber_22 : decode cX4_appendNumber 22 = .ok (.iload_n 2, 1) := by decide +kernel
theorem dX4_appendNumber_23 : decode cX4_appendNumber 23 = .ok (.idiv, 1) := by decide +kernel
theorem dX4_appendNumber_24 : decode cX4_appendNumber 24 = .ok (.bipush 10, 2) := by decide +kernel
theorem dX4_appendNumber_26 : decode cX4_appendNumber 26 = .ok (.irem, 1) := by decide +kernel
theorem dX4_appendNumber_27 : decode cX4_appendNumber 27 = .ok (.iadd, 1) := by decide +kernel
theorem dX4_appendNumber_28 : decode cX4_appendNumber 28 = .ok (.invokevirtual 20, 3) := by decide +kernel
theorem dX4_appendNumber_31 : decode cX4_appendNumber 31 = .ok (.iload_n 2, 1) := by decide +kernel
theorem dX4_appendNumber_32 : decode cX4_appendNumber 32 = .ok (.bipush 10, 2) := by decide +kernel
theorem dX4_appendNumber_34 : decode cX4_appendNumber 34 = .ok (.idiv, 1) := by decide +kernel
theorem dX4_appendNumber_35 : decode cX4_appendNumber 35 = .ok (.istore_n 2, 1) := by decide +kernel
theorem dX4_appendNumber_36 : decode cX4_appendNumber 36 = .ok (.goto (-33), 3) := by decide +kernel
theorem dX4_appendNumber_39 : decode cX4_appendNumber 39 = .ok (.return_, 1) := by decide +kernel
theorem dX5_init_0 : decode cX5_init 0 = .ok (.aload_n 0, 1) := by decide +kernel
theorem dX5_init_1 : decode cX5_init 1 = .ok (.invokespecial 3, 3) := by decide +kernel
theorem dX5_init_4 : decode cX5_init 4 = .ok (.aload_n 0, 1) := by decide +kernel
theorem dX5_init_5 : decode cX5_init 5 = .ok (.iconst 4, 1) := by decide +kernel
theorem dX5_init_6 : decode cX5_init 6 = .ok (.newarray .int, 2) := by decide +kernel
theorem dX5_init_8 : decode cX5_init 8 = .ok (.putfield 9, 3) := by decide +kernel
theorem dX5_init_11 : decode cX5_init 11 = .ok (.aload_n 0, 1) := by decide +kernel
theorem dX5_init_12 : decode cX5_init 12 = .ok (.bipush 12, 2) := by decide +kernel
theorem dX5_init_14 : decode cX5_init 14 = .ok (.anewarray 15, 3) := by decide +kernel
theorem dX5_init_17 : decode cX5_init 17 = .ok (.putfield 17, 3) := by decide +kernel
theorem dX5_init_20 : decode cX5_init 20 = .ok (.aload_n 0, 1) := by decide +kernel
theorem dX5_init_21 : decode cX5_init 21 = .ok (.bipush 8, 2) := by decide +kernel
theorem dX5_init_23 : decode cX5_init 23 = .ok (.anewarray 21, 3) := by decide +kernel
theorem dX5_init_26 : decode cX5_init 26 = .ok (.putfield 23, 3) := by decide +kernel
theorem dX5_init_29 : decode cX5_init 29 = .ok (.aload_n 0, 1) := by decide +kernel
theorem dX5_init_30 : decode cX5_init 30 = .ok (.bipush 8, 2) := by decide +kernel
theorem dX5_init_32 : decode cX5_init 32 = .ok (.newarray .int, 2) := by decide +kernel
theorem dX5_init_34 : decode cX5_init 34 = .ok (.putfield 27, 3) := by decide +kernel
theorem dX5_init_37 : decode cX5_init 37 = .ok (.aload_n 0, 1) := by decide +kernel
theorem dX5_init_38 : decode cX5_init 38 = .ok (.iconst 1, 1) := by decide +kernel
theorem dX5_init_39 : decode cX5_init 39 = .ok (.putfield 30, 3) := by decide +kernel
theorem dX5_init_42 : decode cX5_init 42 = .ok (.getstatic 34, 3) := by decide +kernel
theorem dX5_init_45 : decode cX5_init 45 = .ok (.iconst 0, 1) := by decide +kernel
theorem dX5_init_46 : decode cX5_init 46 = .ok (.aload_n 0, 1) := by decide +kernel
theorem dX5_init_47 : decode cX5_init 47 = .ok (.getfield 9, 3) := by decide +kernel
theorem dX5_init_50 : decode cX5_init 50 = .ok (.iconst 0, 1) := by decide +kernel
theorem dX5_init_51 : decode cX5_init 51 = .ok (.iconst 4, 1) := by decide +kernel
theorem dX5_init_52 : decode cX5_init 52 = .ok (.invokestatic 37, 3) := by decide +kernel
theorem dX5_init_55 : decode cX5_init 55 = .ok (.iconst 0, 1) := by decide +kernel
theorem dX5_init_56 : decode cX5_init 56 = .ok (.istore_n 1, 1) := by decide +kernel
theorem dX5_init_57 : decode cX5_init 57 = .ok (.iload_n 1, 1) := by decide +kernel
theorem dX5_init_58 : decode cX5_init 58 = .ok (.bipush 12, 2) := by decide +kernel
theorem dX5_init_60 : decode cX5_init 60 = .ok (.if_icmp .ge 23, 3) := by decide +kernel
theorem dX5_init_63 : decode cX5_init 63 = .ok (.aload_n 0, 1) := by decide +kernel
theorem dX5_init_64 : decode cX5_init 64 = .ok (.getfield 17, 3) := by decide +kernel
theorem dX5_init_67 : decode cX5_init 67 = .ok (.iload_n 1, 1) := by decide +kernel
theorem dX5_init_68 : decode cX5_init 68 = .ok (.new 15, 3) := by decide +kernel
theorem dX5_init_71 : decode cX5_init 71 = .ok (.dup, 1) := by decide +kernel
theorem dX5_init_72 : decode cX5_init 72 = .ok (.iload_n 1, 1) := by decide +kernel
theorem dX5_init_73 : decode cX5_init 73 = .ok (.invokespecial 43, 3) := by decide +kernel
theorem dX5_init_76 : decode cX5_init 76 = .ok (.aastore, 1) := by decide +kernel
theorem dX5_init_77 : decode cX5_init 77 = .ok (.iinc 1 1, 3) := by decide +kernel
theorem dX5_init_80 : decode cX5_init 80 = .ok (.goto (-23), 3) := by decide +kernel
theorem dX5_init_83 : decode cX5_init 83 = .ok (.iconst 0, 1) := by decide +kernel
theorem dX5_init_84 : decode cX5_init 84 = .ok (.istore_n 1, 1) := by decide +kernel
theorem dX5_init_85 : decode cX5_init 85 = .ok (.iload_n 1, 1) := by decide +kernel
theorem dX5_init_86 : decode cX5_init 86 = .ok (.bipush 8, 2) := by decide +kernel
theorem dX5_init_88 : decode cX5_init 88 = .ok (.if_icmp .ge 23, 3) := by decide +kernel
theorem dX5_init_91 : decode cX5_init 91 = .ok (.aload_n 0, 1) := by decide +kernel
theorem dX5_init_92 : decode cX5_init 92 = .ok (.getfield 23, 3) := by decide +kernel
theorem dX5_init_95 : decode cX5_init 95 = .ok (.iload_n 1, 1) := by decide +kernel
theorem dX5_init_96 : decode cX5_init 96 = .ok (.new 21, 3) := by decide +kernel
theorem dX5_init_99 : decode cX5_init 99 = .ok (.dup, 1) := by decide +kernel
theorem dX5_init_100 : decode cX5_init 100 = .ok (.iload_n 1, 1) := by decide +kernel
theorem dX5_init_101 : decode cX5_init 101 = .ok (.invokespecial 46, 3) := by decide +kernel
theorem dX5_init_104 : decode cX5_init 104 = .ok (.aastore, 1) := by decide +kernel
theorem dX5_init_105 : decode cX5_init 105 = .ok (.iinc 1 1, 3) := by decide +kernel
theorem dX5_init_108 : decode cX5_init 108 = .ok (.goto (-23), 3) := by decide +kernel
theorem dX5_init_111 : decode cX5_init 111 = .ok (.return_, 1) := by decide +kernel
theorem dX5_copyFrom_0 : decode cX5_copyFrom 0 = .ok (.aload_n 1, 1) := by decide +kernel
theorem dX5_copyFrom_1 : decode cX5_copyFrom 1 = .ok (.getfield 9, 3) := by decide +kernel
theorem dX5_copyFrom_4 : decode cX5_copyFrom 4 = .ok (.iconst 0, 1) := by decide +kernel
theorem dX5_copyFrom_5 : decode cX5_copyFrom 5 = .ok (.aload_n 0, 1) := by decide +kernel
theorem dX5_copyFrom_6 : decode cX5_copyFrom 6 = .ok (.getfield 9, 3) := by decide +kernel
theorem dX5_copyFrom_9 : decode cX5_copyFrom 9 = .ok (.iconst 0, 1) := by decide +kernel
theorem dX5_copyFrom_10 : decode cX5_copyFrom 10 = .ok (.iconst 4, 1) := by decide +kernel
theorem dX5_copyFrom_11 : decode cX5_copyFrom 11 = .ok (.invokestatic 37, 3) := by decide +kernel
theorem dX5_copyFrom_14 : decode cX5_copyFrom 14 = .ok (.aload_n 1, 1) := by decide +kernel
theorem dX5_copyFrom_15 : decode cX5_copyFrom 15 = .ok (.getfield 27, 3) := by decide +kernel
theorem dX5_copyFrom_18 : decode cX5_copyFrom 18 = .ok (.iconst 0, 1) := by decide +kernel
theorem dX5_copyFrom_19 : decode cX5_copyFrom 19 = .ok (.aload_n 0, 1) := by decide +kernel
theorem dX5_copyFrom_20 : decode cX5_copyFrom 20 = .ok (.getfield 27, 3) := by decide +kernel
theorem dX5_copyFrom_23 : decode cX5_copyFrom 23 = .ok (.iconst 0, 1) := by decide +kernel
theorem dX5_copyFrom_24 : decode cX5_copyFrom 24 = .ok (.bipush 8, 2) := by decide +kernel
theorem dX5_copyFrom_26 : decode cX5_copyFrom 26 = .ok (.invokestatic 37, 3) := by decide +kernel
theorem dX5_copyFrom_29 : decode cX5_copyFrom 29 = .ok (.iconst 0, 1) := by decide +kernel
theorem dX5_copyFrom_30 : decode cX5_copyFrom 30 = .ok (.istore_n 2, 1) := by decide +kernel
theorem dX5_copyFrom_31 : decode cX5_copyFrom 31 = .ok (.iload_n 2, 1) := by decide +kernel
theorem dX5_copyFrom_32 : decode cX5_copyFrom 32 = .ok (.bipush 12, 2) := by decide +kernel
theorem dX5_copyFrom_34 : decode cX5_copyFrom 34 = .ok (.if_icmp .ge 24, 3) := by decide +kernel
theorem dX5_copyFrom_37 : decode cX5_copyFrom 37 = .ok (.aload_n 0, 1) := by decide +kernel
theorem dX5_copyFrom_38 : decode cX5_copyFrom 38 = .ok (.getfield 17, 3) := by decide +kernel
theorem dX5_copyFrom_41 : decode cX5_copyFrom 41 = .ok (.iload_n 2, 1) := by decide +kernel
theorem dX5_copyFrom_42 : decode cX5_copyFrom 42 = .ok (.aaload, 1) := by decide +kernel
theorem dX5_copyFrom_43 : decode cX5_copyFrom 43 = .ok (.aload_n 1, 1) := by decide +kernel
theorem dX5_copyFrom_44 : decode cX5_copyFrom 44 = .ok (.getfield 17, 3) := by decide +kernel
theorem dX5_copyFrom_47 : decode cX5_copyFrom 47 = .ok (.iload_n 2, 1) := by decide +kernel
theorem dX5_copyFrom_48 : decode cX5_copyFrom 48 = .ok (.aaload, 1) := by decide +kernel
theorem dX5_copyFrom_49 : decode cX5_copyFrom 49 = .ok (.invokevirtual 47, 3) := by decide +kernel
theorem dX5_copyFrom_52 : decode cX5_copyFrom 52 = .ok (.iinc 2 1, 3) := by decide +kernel
theorem dX5_copyFrom_55 : decode cX5_copyFrom 55 = .ok (.goto (-24), 3) := by decide +kernel
theorem dX5_copyFrom_58 : decode cX5_copyFrom 58 = .ok (.iconst 0, 1) := by decide +kernel
theorem dX5_copyFrom_59 : decode cX5_copyFrom 59 = .ok (.istore_n 2, 1) := by decide +kernel
theorem dX5_copyFrom_60 : decode cX5_copyFrom 60 = .ok (.iload_n 2, 1) := by decide +kernel
theorem dX5_copyFrom_61 : decode cX5_copyFrom 61 = .ok (.bipush 8, 2) := by decide +kernel
theorem dX5_copyFrom_63 : decode cX5_copyFrom 63 = .ok (.if_icmp .ge 24, 3) := by decide +kernel
theorem dX5_copyFrom_66 : decode cX5_copyFrom 66 = .ok (.aload_n 0, 1) := by decide +kernel
theorem dX5_copyFrom_67 : decode cX5_copyFrom 67 = .ok (.getfield 23, 3) := by decide +kernel
theorem dX5_copyFrom_70 : decode cX5_copyFrom 70 = .ok (.iload_n 2, 1) := by decide +kernel
theorem dX5_copyFrom_71 : decode cX5_copyFrom 71 = .ok (.aaload, 1) := by decide +kernel
theorem dX5_copyFrom_72 : decode cX5_copyFrom 72 = .ok (.aload_n 1, 1) := by decide +kernel
theorem dX5_copyFrom_73 : decode cX5_copyFrom 73 = .ok (.getfield 23, 3) := by decide +kernel
theorem dX5_copyFrom_76 : decode cX5_copyFrom 76 = .ok (.iload_n 2, 1) := by decide +kernel
theorem dX5_copyFrom_77 : decode cX5_copyFrom 77 = .ok (.aaload, 1) := by decide +kernel
theorem dX5_copyFrom_78 : decode cX5_copyFrom 78 = .ok (.invokevirtual 51, 3) := by decide +kernel
theorem dX5_copyFrom_81 : decode cX5_copyFrom 81 = .ok (.iinc 2 1, 3) := by decide +kernel
theorem dX5_copyFrom_84 : decode cX5_copyFrom 84 = .ok (.goto (-24), 3) := by decide +kernel
theorem dX5_copyFrom_87 : decode cX5_copyFrom 87 = .ok (.aload_n 0, 1) := by decide +kernel
theorem dX5_copyFrom_88 : decode cX5_copyFrom 88 = .ok (.aload_n 1, 1) := by decide +kernel
theorem dX5_copyFrom_89 : decode cX5_copyFrom 89 = .ok (.getfield 54, 3) := by decide +kernel
theorem dX5_copyFrom_92 : decode cX5_copyFrom 92 = .ok (.putfield 54, 3) := by decide +kernel
theorem dX5_copyFrom_95 : decode cX5_copyFrom 95 = .ok (.aload_n 0, 1) := by decide +kernel
theorem dX5_copyFrom_96 : decode cX5_copyFrom 96 = .ok (.aload_n 1, 1) := by decide +kernel
theorem dX5_copyFrom_97 : decode cX5_copyFrom 97 = .ok (.getfield 57, 3) := by decide +kernel
theorem dX5_copyFrom_100 : decode cX5_copyFrom 100 = .ok (.putfield 57, 3) := by decide +kernel
theorem dX5_copyFrom_103 : decode cX5_copyFrom 103 = .ok (.aload_n 0, 1) := by decide +kernel
theorem dX5_copyFrom_104 : decode cX5_copyFrom 104 = .ok (.aload_n 1, 1) := by decide +kernel
theorem dX5_copyFrom_105 : decode cX5_copyFrom 105 = .ok (.getfield 60, 3) := by decide +kernel
theorem dX5_copyFrom_108 : decode cX5_copyFrom 108 = .ok (.putfield 60, 3) := by decide +kernel
theorem dX5_copyFrom_111 : decode cX5_copyFrom 111 = .ok (.aload_n 0, 1) := by decide +kernel
theorem dX5_copyFrom_112 : decode cX5_copyFrom 112 = .ok (.aload_n 1, 1) := by decide +kernel
theorem dX5_copyFrom_113 : decode cX5_copyFrom 113 = .ok (.getfield 30, 3) := by decide +kernel
theorem dX5_copyFrom_116 : decode cX5_copyFrom 116 = .ok (.putfield 30, 3) := by decide +kernel
theorem dX5_copyFrom_119 : decode cX5_copyFrom 119 = .ok (.aload_n 0, 1) := by decide +kernel
theorem dX5_copyFrom_120 : decode cX5_copyFrom 120 = .ok (.aload_n 1, 1) := by decide +kernel
theorem dX5_copyFrom_121 : decode cX5_copyFrom 121 = .ok (.getfield 63, 3) := by decide +kernel
theorem dX5_copyFrom_124 : decode cX5_copyFrom 124 = .ok (.putfield 63, 3) := by decide +kernel
theorem dX5_copyFrom_127 : decode cX5_copyFrom 127 = .ok (.aload_n 0, 1) := by decide +kernel
theorem dX5_copyFrom_128 : decode cX5_copyFrom 128 = .ok (.aload_n 1, 1) := by decide +kernel
theorem dX5_copyFrom_129 : decode cX5_copyFrom 129 = .ok (.getfield 66, 3) := by decide +kernel
theorem dX5_copyFrom_132 : decode cX5_copyFrom 132 = .ok (.putfield 66, 3) := by decide +kernel
theorem dX5_copyFrom_135 : decode cX5_copyFrom 135 = .ok (.aload_n 0, 1) := by decide +kernel
theorem dX5_copyFrom_136 : decode cX5_copyFrom 136 = .ok (.aload_n 1, 1) := by decide +kernel
theorem dX5_copyFrom_137 : decode cX5_copyFrom 137 = .ok (.getfield 69, 3) := by decide +kernel
theorem dX5_copyFrom_140 : decode cX5_copyFrom 140 = .ok (.putfield 69, 3) := by decide +kernel
theorem dX5_copyFrom_143 : decode cX5_copyFrom 143 = .ok (.return_, 1) := by decide +kernel
theorem dX5_bridgeOf_0 : decode cX5_bridgeOf 0 = .ok (.iload_n 1, 1) := by decide +kernel
theorem dX5_bridgeOf_1 : decode cX5_bridgeOf 1 = .ok (.aload_n 0, 1) := by decide +kernel
theorem dX5_bridgeOf_2 : decode cX5_bridgeOf 2 = .ok (.getfield 57, 3) := by decide +kernel
theorem dX5_bridgeOf_5 : decode cX5_bridgeOf 5 = .ok (.invokestatic 72, 3) := by decide +kernel
theorem dX5_bridgeOf_8 : decode cX5_bridgeOf 8 = .ok (.ifCond .eq 12, 3) := by decide +kernel
theorem dX5_bridgeOf_11 : decode cX5_bridgeOf 11 = .ok (.aload_n 0, 1) := by decide +kernel
theorem dX5_bridgeOf_12 : decode cX5_bridgeOf 12 = .ok (.getfield 17, 3) := by decide +kernel
theorem dX5_bridgeOf_15 : decode cX5_bridgeOf 15 = .ok (.iload_n 1, 1) := by decide +kernel
theorem dX5_bridgeOf_16 : decode cX5_bridgeOf 16 = .ok (.aaload, 1) := by decide +kernel
theorem dX5_bridgeOf_17 : decode cX5_bridgeOf 17 = .ok (.goto 4, 3) := by decide +kernel
theorem dX5_bridgeOf_20 : decode cX5_bridgeOf 20 = .ok (.aconst_null, 1) := by decide +kernel
theorem dX5_bridgeOf_21 : decode cX5_bridgeOf 21 = .ok (.areturn, 1) := by decide +kernel
theorem dX5_cartOf_0 : decode cX5_cartOf 0 = .ok (.iload_n 1, 1) := by decide +kernel
theorem dX5_cartOf_1 : decode cX5_cartOf 1 = .ok (.aload_n 0, 1) := by decide +kernel
theorem dX5_cartOf_2 : decode cX5_cartOf 2 = .ok (.getfield 60, 3) := by decide +kernel
theorem dX5_cartOf_5 : decode cX5_cartOf 5 = .ok (.invokestatic 72, 3) := by decide +kernel
theorem dX5_cartOf_8 : decode cX5_cartOf 8 = .ok (.ifCond .eq 12, 3) := by decide +kernel
theorem dX5_cartOf_11 : decode cX5_cartOf 11 = .ok (.aload_n 0, 1) := by decide +kernel
theorem dX5_cartOf_12 : decode cX5_cartOf 12 = .ok (.getfield 23, 3) := by decide +kernel
theorem dX5_cartOf_15 : decode cX5_cartOf 15 = .ok (.iload_n 1, 1) := by decide +kernel
theorem dX5_cartOf_16 : decode cX5_cartOf 16 = .ok (.aaload, 1) := by decide +kernel
theorem dX5_cartOf_17 : decode cX5_cartOf 17 = .ok (.goto 4, 3) := by decide +kernel
theorem dX5_cartOf_20 : decode cX5_cartOf 20 = .ok (.aconst_null, 1) := by decide +kernel
theorem dX5_cartOf_21 : decode cX5_cartOf 21 = .ok (.areturn, 1) := by decide +kernel
theorem dX5_changeSetting_0 : decode cX5_changeSetting 0 = .ok (.iload_n 1, 1) := by decide +kernel
theorem dX5_changeSetting_1 : decode cX5_changeSetting 1 = .ok (.iconst 4, 1) := by decide +kernel
theorem dX5_changeSetting_2 : decode cX5_changeSetting 2 = .ok (.invokestatic 72, 3) := by decide +kernel
theorem dX5_changeSetting_5 : decode cX5_changeSetting 5 = .ok (.ifCond .eq 21, 3) := by decide +kernel
theorem dX5_changeSetting_8 : decode cX5_changeSetting 8 = .ok (.iload_n 2, 1) := by decide +kernel
theorem dX5_changeSetting_9 : decode cX5_changeSetting 9 = .ok (.getstatic 76, 3) := by decide +kernel
theorem dX5_changeSetting_12 : decode cX5_changeSetting 12 = .ok (.iload_n 1, 1) := by decide +kernel
theorem dX5_changeSetting_13 : decode cX5_changeSetting 13 = .ok (.iaload, 1) := by decide +kernel
theorem dX5_changeSetting_14 : decode cX5_changeSetting 14 = .ok (.if_icmp .lt 12, 3) := by decide +kernel
theorem dX5_changeSetting_17 : decode cX5_changeSetting 17 = .ok (.iload_n 2, 1) := by decide +kernel
theorem dX5_changeSetting_18 : decode cX5_changeSetting 18 = .ok (.getstatic 79, 3) := by decide +kernel
theorem dX5_changeSetting_21 : decode cX5_changeSetting 21 = .ok (.iload_n 1, 1) := by decide +kernel
theorem dX5_changeSetting_22 : decode cX5_changeSetting 22 = .ok (.iaload, 1) := by decide +kernel
theorem dX5_changeSetting_23 : decode cX5_changeSetting 23 = .ok (.if_icmp .le 6, 3) := by decide +kernel
theorem dX5_changeSetting_26 : decode cX5_changeSetting 26 = .ok (.bipush (-2), 2) := by decide +kernel
theorem dX5_changeSetting_28 : decode cX5_changeSetting 28 = .ok (.ireturn, 1) := by decide +kernel
theorem dX5_changeSetting_29 : decode cX5_changeSetting 29 = .ok (.aload_n 0, 1) := by decide +kernel
theorem dX5_changeSetting_30 : decode cX5_changeSetting 30 = .ok (.getfield 9, 3) := by decide +kernel
theorem dX5_changeSetting_33 : decode cX5_changeSetting 33 = .ok (.iload_n 1, 1) := by decide +kernel
theorem dX5_changeSetting_34 : decode cX5_changeSetting 34 = .ok (.iaload, 1) := by decide +kernel
theorem dX5_changeSetting_35 : decode cX5_changeSetting 35 = .ok (.istore_n 3, 1) := by decide +kernel
theorem dX5_changeSetting_36 : decode cX5_changeSetting 36 = .ok (.aload_n 0, 1) := by decide +kernel
theorem dX5_changeSetting_37 : decode cX5_changeSetting 37 = .ok (.getfield 9, 3) := by decide +kernel
theorem dX5_changeSetting_40 : decode cX5_changeSetting 40 = .ok (.iload_n 1, 1) := by decide +kernel
theorem dX5_changeSetting_41 : decode cX5_changeSetting 41 = .ok (.iload_n 2, 1) := by decide +kernel
theorem dX5_changeSetting_42 : decode cX5_changeSetting 42 = .ok (.iastore, 1) := by decide +kernel
theorem dX5_changeSetting_43 : decode cX5_changeSetting 43 = .ok (.iload_n 3, 1) := by decide +kernel
theorem dX5_changeSetting_44 : decode cX5_changeSetting 44 = .ok (.ireturn, 1) := by decide +kernel
theorem dX5_addBridge_0 : decode cX5_addBridge 0 = .ok (.iload_n 1, 1) := by decide +kernel
theorem dX5_addBridge_1 : decode cX5_addBridge 1 = .ok (.bipush 8, 2) := by decide +kernel
theorem dX5_addBridge_3 : decode cX5_addBridge 3 = .ok (.invokestatic 72, 3) := by decide +kernel
theorem dX5_addBridge_6 : decode cX5_addBridge 6 = .ok (.ifCond .eq 12, 3) := by decide +kernel
theorem dX5_addBridge_9 : decode cX5_addBridge 9 = .ok (.iload_n 2, 1) := by decide +kernel
theorem dX5_addBridge_10 : decode cX5_addBridge 10 = .ok (.bipush 8, 2) := by decide +kernel
theorem dX5_addBridge_12 : decode cX5_addBridge 12 = .ok (.invokestatic 72, 3) := by decide +kernel
theorem dX5_addBridge_15 : decode cX5_addBridge 15 = .ok (.ifCond .ne 5, 3) := by decide +kernel
theorem dX5_addBridge_18 : decode cX5_addBridge 18 = .ok (.iconst (-1), 1) := by decide +kernel
theorem dX5_addBridge_19 : decode cX5_addBridge 19 = .ok (.ireturn, 1) := by decide +kernel
theorem dX5_addBridge_20 : decode cX5_addBridge 20 = .ok (.iload_n 1, 1) := by decide +kernel
theorem dX5_addBridge_21 : decode cX5_addBridge 21 = .ok (.iload_n 2, 1) := by decide +kernel
theorem dX5_addBridge_22 : decode cX5_addBridge 22 = .ok (.if_icmp .eq 15, 3) := by decide +kernel
theorem dX5_addBridge_25 : decode cX5_addBridge 25 = .ok (.iload_n 3, 1) := by decide +kernel
theorem dX5_addBridge_26 : decode cX5_addBridge 26 = .ok (.iconst 2, 1) := by decide +kernel
theorem dX5_addBridge_27 : decode cX5_addBridge 27 = .ok (.if_icmp .lt 10, 3) := by decide +kernel
theorem dX5_addBridge_30 : decode cX5_addBridge 30 = .ok (.iload_n 3, 1) := by decide +kernel
theorem dX5_addBridge_31 : decode cX5_addBridge 31 = .ok (.sipush 1000, 3) := by decide +kernel
theorem dX5_addBridge_34 : decode cX5_addBridge 34 = .ok (.if_icmp .le 6, 3) := by decide +kernel
theorem dX5_addBridge_37 : decode cX5_addBridge 37 = .ok (.bipush (-2), 2) := by decide +kernel
theorem dX5_addBridge_39 : decode cX5_addBridge 39 = .ok (.ireturn, 1) := by decide +kernel
theorem dX5_addBridge_40 : decode cX5_addBridge 40 = .ok (.aload_n 0, 1) := by decide +kernel
theorem dX5_addBridge_41 : decode cX5_addBridge 41 = .ok (.getfield 57, 3) := by decide +kernel
theorem dX5_addBridge_44 : decode cX5_addBridge 44 = .ok (.bipush 12, 2) := by decide +kernel
theorem dX5_addBridge_46 : decode cX5_addBridge 46 = .ok (.if_icmp .lt 6, 3) := by decide +kernel
theorem dX5_addBridge_49 : decode cX5_addBridge 49 = .ok (.bipush (-4), 2) := by decide +kernel
theorem dX5_addBridge_51 : decode cX5_addBridge 51 = .ok (.ireturn, 1) := by decide +kernel
theorem dX5_addBridge_52 : decode cX5_addBridge 52 = .ok (.aload_n 0, 1) := by decide +kernel
theorem dX5_addBridge_53 : decode cX5_addBridge 53 = .ok (.getfield 17, 3) := by decide +kernel
theorem dX5_addBridge_56 : decode cX5_addBridge 56 = .ok (.aload_n 0, 1) := by decide +kernel
theorem dX5_addBridge_57 : decode cX5_addBridge 57 = .ok (.getfield 57, 3) := by decide +kernel
theorem dX5_addBridge_60 : decode cX5_addBridge 60 = .ok (.aaload, 1) := by decide +kernel
theorem dX5_addBridge_61 : decode cX5_addBridge 61 = .ok (.astore 4, 2) := by decide +kernel
theorem dX5_addBridge_63 : decode cX5_addBridge 63 = .ok (.aload 4, 2) := by decide +kernel
theorem dX5_addBridge_65 : decode cX5_addBridge 65 = .ok (.iload_n 1, 1) := by decide +kernel
theorem dX5_addBridge_66 : decode cX5_addBridge 66 = .ok (.putfield 82, 3) := by decide +kernel
theorem dX5_addBridge_69 : decode cX5_addBridge 69 = .ok (.aload 4, 2) := by decide +kernel
theorem dX5_addBridge_71 : decode cX5_addBridge 71 = .ok (.iload_n 2, 1) := by decide +kernel
theorem dX5_addBridge_72 : decode cX5_addBridge 72 = .ok (.putfield 85, 3) := by decide +kernel
theorem dX5_addBridge_75 : decode cX5_addBridge 75 = .ok (.aload 4, 2) := by decide +kernel
theorem dX5_addBridge_77 : decode cX5_addBridge 77 = .ok (.iload_n 3, 1) := by decide +kernel
theorem dX5_addBridge_78 : decode cX5_addBridge 78 = .ok (.putfield 88, 3) := by decide +kernel
theorem dX5_addBridge_81 : decode cX5_addBridge 81 = .ok (.aload_n 0, 1) := by decide +kernel
theorem dX5_addBridge_82 : decode cX5_addBridge 82 = .ok (.aload 4, 2) := by decide +kernel
theorem dX5_addBridge_84 : decode cX5_addBridge 84 = .ok (.invokevirtual 91, 3) := by decide +kernel
theorem dX5_addBridge_87 : decode cX5_addBridge 87 = .ok (.aload_n 0, 1) := by decide +kernel
theorem dX5_addBridge_88 : decode cX5_addBridge 88 = .ok (.dup, 1) := by decide +kernel
theorem dX5_addBridge_89 : decode cX5_addBridge 89 = .ok (.getfield 57, 3) := by decide +kernel
theorem dX5_addBridge_92 : decode cX5_addBridge 92 = .ok (.iconst 1, 1) := by decide +kernel
theorem dX5_addBridge_93 : decode cX5_addBridge 93 = .ok (.iadd, 1) := by decide +kernel
theorem dX5_addBridge_94 : decode cX5_addBridge 94 = .ok (.putfield 57, 3) := by decide +kernel
theorem dX5_addBridge_97 : decode cX5_addBridge 97 = .ok (.aload 4, 2) := by decide +kernel
theorem dX5_addBridge_99 : decode cX5_addBridge 99 = .ok (.getfield 94, 3) := by decide +kernel
theorem dX5_addBridge_102 : decode cX5_addBridge 102 = .ok (.ireturn, 1) := by decide +kernel
theorem dX5_addCart_0 : decode cX5_addCart 0 = .ok (.iload_n 1, 1) := by decide +kernel
theorem dX5_addCart_1 : decode cX5_addCart 1 = .ok (.bipush 8, 2) := by decide +kernel
theorem dX5_addCart_3 : decode cX5_addCart 3 = .ok (.invokestatic 72, 3) := by decide +kernel
theorem dX5_addCart_6 : decode cX5_addCart 6 = .ok (.ifCond .ne 5, 3) := by decide +kernel
theorem dX5_addCart_9 : decode cX5_addCart 9 = .ok (.iconst (-1), 1) := by decide +kernel
theorem dX5_addCart_10 : decode cX5_addCart 10 = .ok (.ireturn, 1) := by decide +kernel
theorem dX5_addCart_11 : decode cX5_addCart 11 = .ok (.iload_n 2, 1) := by decide +kernel
theorem dX5_addCart_12 : decode cX5_addCart 12 = .ok (.ifCond .lt 10, 3) := by decide +kernel
theorem dX5_addCart_15 : decode cX5_addCart 15 = .ok (.iload_n 2, 1) := by decide +kernel
theorem dX5_addCart_16 : decode cX5_addCart 16 = .ok (.sipush 9999, 3) := by decide +kernel
theorem dX5_addCart_19 : decode cX5_addCart 19 = .ok (.if_icmp .le 6, 3) := by decide +kernel
theorem dX5_addCart_22 : decode cX5_addCart 22 = .ok (.bipush (-2), 2) := by decide +kernel
theorem dX5_addCart_24 : decode cX5_addCart 24 = .ok (.ireturn, 1) := by decide +kernel
theorem dX5_addCart_25 : decode cX5_addCart 25 = .ok (.aload_n 0, 1) := by decide +kernel
theorem dX5_addCart_26 : decode cX5_addCart 26 = .ok (.getfield 60, 3) := by decide +kernel
theorem dX5_addCart_29 : decode cX5_addCart 29 = .ok (.bipush 8, 2) := by decide +kernel
theorem dX5_addCart_31 : decode cX5_addCart 31 = .ok (.if_icmp .lt 6, 3) := by decide +kernel
theorem dX5_addCart_34 : decode cX5_addCart 34 = .ok (.bipush (-4), 2) := by decide +kernel
theorem dX5_addCart_36 : decode cX5_addCart 36 = .ok (.ireturn, 1) := by decide +kernel
theorem dX5_addCart_37 : decode cX5_addCart 37 = .ok (.aload_n 0, 1) := by decide +kernel
theorem dX5_addCart_38 : decode cX5_addCart 38 = .ok (.getfield 23, 3) := by decide +kernel
theorem dX5_addCart_41 : decode cX5_addCart 41 = .ok (.aload_n 0, 1) := by decide +kernel
theorem dX5_addCart_42 : decode cX5_addCart 42 = .ok (.getfield 60, 3) := by decide +kernel
theorem dX5_addCart_45 : decode cX5_addCart 45 = .ok (.aaload, 1) := by decide +kernel
theorem dX5_addCart_46 : decode cX5_addCart 46 = .ok (.astore_n 3, 1) := by decide +kernel
theorem dX5_addCart_47 : decode cX5_addCart 47 = .ok (.aload_n 3, 1) := by decide +kernel
theorem dX5_addCart_48 : decode cX5_addCart 48 = .ok (.iload_n 1, 1) := by decide +kernel
theorem dX5_addCart_49 : decode cX5_addCart 49 = .ok (.putfield 97, 3) := by decide +kernel
theorem dX5_addCart_52 : decode cX5_addCart 52 = .ok (.aload_n 3, 1) := by decide +kernel
theorem dX5_addCart_53 : decode cX5_addCart 53 = .ok (.iload_n 2, 1) := by decide +kernel
theorem dX5_addCart_54 : decode cX5_addCart 54 = .ok (.putfield 98, 3) := by decide +kernel
theorem dX5_addCart_57 : decode cX5_addCart 57 = .ok (.aload_n 0, 1) := by decide +kernel
theorem dX5_addCart_58 : decode cX5_addCart 58 = .ok (.dup, 1) := by decide +kernel
theorem dX5_addCart_59 : decode cX5_addCart 59 = .ok (.getfield 66, 3) := by decide +kernel
theorem dX5_addCart_62 : decode cX5_addCart 62 = .ok (.iload_n 2, 1) := by decide +kernel
theorem dX5_addCart_63 : decode cX5_addCart 63 = .ok (.iadd, 1) := by decide +kernel
theorem dX5_addCart_64 : decode cX5_addCart 64 = .ok (.putfield 66, 3) := by decide +kernel
theorem dX5_addCart_67 : decode cX5_addCart 67 = .ok (.aload_n 0, 1) := by decide +kernel
theorem dX5_addCart_68 : decode cX5_addCart 68 = .ok (.dup, 1) := by decide +kernel
theorem dX5_addCart_69 : decode cX5_addCart 69 = .ok (.getfield 60, 3) := by decide +kernel
theorem dX5_addCart_72 : decode cX5_addCart 72 = .ok (.iconst 1, 1) := by decide +kernel
theorem dX5_addCart_73 : decode cX5_addCart 73 = .ok (.iadd, 1) := by decide +kernel
theorem dX5_addCart_74 : decode cX5_addCart 74 = .ok (.putfield 60, 3) := by decide +kernel
theorem dX5_addCart_77 : decode cX5_addCart 77 = .ok (.aload_n 3, 1) := by decide +kernel
theorem dX5_addCart_78 : decode cX5_addCart 78 = .ok (.getfield 101, 3) := by decide +kernel
theorem dX5_addCart_81 : decode cX5_addCart 81 = .ok (.ireturn, 1) := by decide +kernel
theorem dX5_comeToWait_0 : decode cX5_comeToWait 0 = .ok (.aload_n 0, 1) := by decide +kernel
theorem dX5_comeToWait_1 : decode cX5_comeToWait 1 = .ok (.iload_n 1, 1) := by decide +kernel
theorem dX5_comeToWait_2 : decode cX5_comeToWait 2 = .ok (.invokevirtual 102, 3) := by decide +kernel
theorem dX5_comeToWait_5 : decode cX5_comeToWait 5 = .ok (.astore 4, 2) := by decide +kernel
theorem dX5_comeToWait_7 : decode cX5_comeToWait 7 = .ok (.aload_n 0, 1) := by decide +kernel
theorem dX5_comeToWait_8 : decode cX5_comeToWait 8 = .ok (.iload_n 2, 1) := by decide +kernel
theorem dX5_comeToWait_9 : decode cX5_comeToWait 9 = .ok (.invokevirtual 106, 3) := by decide +kernel
theorem dX5_comeToWait_12 : decode cX5_comeToWait 12 = .ok (.astore 5, 2) := by decide +kernel
theorem dX5_comeToWait_14 : decode cX5_comeToWait 14 = .ok (.aload 4, 2) := by decide +kernel
theorem dX5_comeToWait_16 : decode cX5_comeToWait 16 = .ok (.ifnull 8, 3) := by decide +kernel
theorem dX5_comeToWait_19 : decode cX5_comeToWait 19 = .ok (.aload 5, 2) := by decide +kernel
theorem dX5_comeToWait_21 : decode cX5_comeToWait 21 = .ok (.ifnonnull 5, 3) := by decide +kernel
theorem dX5_comeToWait_24 : decode cX5_comeToWait 24 = .ok (.iconst (-1), 1) := by decide +kernel
theorem dX5_comeToWait_25 : decode cX5_comeToWait 25 = .ok (.ireturn, 1) := by decide +kernel
theorem dX5_comeToWait_26 : decode cX5_comeToWait 26 = .ok (.iload_n 3, 1) := by decide +kernel
theorem dX5_comeToWait_27 : decode cX5_comeToWait 27 = .ok (.aload 5, 2) := by decide +kernel
theorem dX5_comeToWait_29 : decode cX5_comeToWait 29 = .ok (.getfield 88, 3) := by decide +kernel
theorem dX5_comeToWait_32 : decode cX5_comeToWait 32 = .ok (.invokestatic 72, 3) := by decide +kernel
theorem dX5_comeToWait_35 : decode cX5_comeToWait 35 = .ok (.ifCond .ne 6, 3) := by decide +kernel
theorem dX5_comeToWait_38 : decode cX5_comeToWait 38 = .ok (.bipush (-2), 2) := by decide +kernel
theorem dX5_comeToWait_40 : decode cX5_comeToWait 40 = .ok (.ireturn, 1) := by decide +kernel
theorem dX5_comeToWait_41 : decode cX5_comeToWait 41 = .ok (.aload 4, 2) := by decide +kernel
theorem dX5_comeToWait_43 : decode cX5_comeToWait 43 = .ok (.invokevirtual 110, 3) := by decide +kernel
theorem dX5_comeToWait_46 : decode cX5_comeToWait 46 = .ok (.ifCond .ne 25, 3) := by decide +kernel
theorem dX5_comeToWait_49 : decode cX5_comeToWait 49 = .ok (.aload 5, 2) := by decide +kernel
theorem dX5_comeToWait_51 : decode cX5_comeToWait 51 = .ok (.aload 4, 2) := by decide +kernel
theorem dX5_comeToWait_53 : decode cX5_comeToWait 53 = .ok (.getfield 97, 3) := by decide +kernel
theorem dX5_comeToWait_56 : decode cX5_comeToWait 56 = .ok (.invokevirtual 114, 3) := by decide +kernel
theorem dX5_comeToWait_59 : decode cX5_comeToWait 59 = .ok (.ifCond .eq 12, 3) := by decide +kernel
theorem dX5_comeToWait_62 : decode cX5_comeToWait 62 = .ok (.aload_n 0, 1) := by decide +kernel
theorem dX5_comeToWait_63 : decode cX5_comeToWait 63 = .ok (.getfield 54, 3) := by decide +kernel
theorem dX5_comeToWait_66 : decode cX5_comeToWait 66 = .ok (.bipush 8, 2) := by decide +kernel
theorem dX5_comeToWait_68 : decode cX5_comeToWait 68 = .ok (.if_icmp .lt 6, 3) := by decide +kernel
theorem dX5_comeToWait_71 : decode cX5_comeToWait 71 = .ok (.bipush (-5), 2) := by decide +kernel
theorem dX5_comeToWait_73 : decode cX5_comeToWait 73 = .ok (.ireturn, 1) := by decide +kernel
theorem dX5_comeToWait_74 : decode cX5_comeToWait 74 = .ok (.aload_n 0, 1) := by decide +kernel
theorem dX5_comeToWait_75 : decode cX5_comeToWait 75 = .ok (.getfield 27, 3) := by decide +kernel
theorem dX5_comeToWait_78 : decode cX5_comeToWait 78 = .ok (.aload_n 0, 1) := by decide +kernel
theorem dX5_comeToWait_79 : decode cX5_comeToWait 79 = .ok (.getfield 54, 3) := by decide +kernel
theorem dX5_comeToWait_82 : decode cX5_comeToWait 82 = .ok (.iload_n 1, 1) := by decide +kernel
theorem dX5_comeToWait_83 : decode cX5_comeToWait 83 = .ok (.iastore, 1) := by decide +kernel
theorem dX5_comeToWait_84 : decode cX5_comeToWait 84 = .ok (.aload_n 0, 1) := by decide +kernel
theorem dX5_comeToWait_85 : decode cX5_comeToWait 85 = .ok (.dup, 1) := by decide +kernel
theorem dX5_comeToWait_86 : decode cX5_comeToWait 86 = .ok (.getfield 54, 3) := by decide +kernel
theorem dX5_comeToWait_89 : decode cX5_comeToWait 89 = .ok (.iconst 1, 1) := by decide +kernel
theorem dX5_comeToWait_90 : decode cX5_comeToWait 90 = .ok (.iadd, 1) := by decide +kernel
theorem dX5_comeToWait_91 : decode cX5_comeToWait 91 = .ok (.putfield 54, 3) := by decide +kernel
theorem dX5_comeToWait_94 : decode cX5_comeToWait 94 = .ok (.aload 4, 2) := by decide +kernel
theorem dX5_comeToWait_96 : decode cX5_comeToWait 96 = .ok (.iload_n 2, 1) := by decide +kernel
theorem dX5_comeToWait_97 : decode cX5_comeToWait 97 = .ok (.putfield 118, 3) := by decide +kernel
theorem dX5_comeToWait_100 : decode cX5_comeToWait 100 = .ok (.aload 4, 2) := by decide +kernel
theorem dX5_comeToWait_102 : decode cX5_comeToWait 102 = .ok (.iload_n 3, 1) := by decide +kernel
theorem dX5_comeToWait_103 : decode cX5_comeToWait 103 = .ok (.putfield 121, 3) := by decide +kernel
theorem dX5_comeToWait_106 : decode cX5_comeToWait 106 = .ok (.aload 5, 2) := by decide +kernel
theorem dX5_comeToWait_108 : decode cX5_comeToWait 108 = .ok (.dup, 1) := by decide +kernel
theorem dX5_comeToWait_109 : decode cX5_comeToWait 109 = .ok (.getfield 124, 3) := by decide +kernel
theorem dX5_comeToWait_112 : decode cX5_comeToWait 112 = .ok (.iconst 1, 1) := by decide +kernel
theorem dX5_comeToWait_113 : decode cX5_comeToWait 113 = .ok (.iadd, 1) := by decide +kernel
theorem dX5_comeToWait_114 : decode cX5_comeToWait 114 = .ok (.putfield 124, 3) := by decide +kernel
theorem dX5_comeToWait_117 : decode cX5_comeToWait 117 = .ok (.aload 5, 2) := by decide +kernel
theorem dX5_comeToWait_119 : decode cX5_comeToWait 119 = .ok (.getfield 124, 3) := by decide +kernel
theorem dX5_comeToWait_122 : decode cX5_comeToWait 122 = .ok (.ireturn, 1) := by decide +kernel
theorem dX5_stopWaiting_0 : decode cX5_stopWaiting 0 = .ok (.aload_n 0, 1) := by decide +kernel
theorem dX5_stopWaiting_1 : decode cX5_stopWaiting 1 = .ok (.iload_n 1, 1) := by decide +kernel
theorem dX5_stopWaiting_2 : decode cX5_stopWaiting 2 = .ok (.invokevirtual 102, 3) := by decide +kernel
theorem dX5_stopWaiting_5 : decode cX5_stopWaiting 5 = .ok (.astore_n 2, 1) := by decide +kernel
theorem dX5_stopWaiting_6 : decode cX5_stopWaiting 6 = .ok (.aload_n 2, 1) := by decide +kernel
theorem dX5_stopWaiting_7 : decode cX5_stopWaiting 7 = .ok (.ifnonnull 5, 3) := by decide +kernel
theorem dX5_stopWaiting_10 : decode cX5_stopWaiting 10 = .ok (.iconst (-1), 1) := by decide +kernel
theorem dX5_stopWaiting_11 : decode cX5_stopWaiting 11 = .ok (.ireturn, 1) := by decide +kernel
theorem dX5_stopWaiting_12 : decode cX5_stopWaiting 12 = .ok (.aload_n 0, 1) := by decide +kernel
theorem dX5_stopWaiting_13 : decode cX5_stopWaiting 13 = .ok (.aload_n 2, 1) := by decide +kernel
theorem dX5_stopWaiting_14 : decode cX5_stopWaiting 14 = .ok (.getfield 118, 3) := by decide +kernel
theorem dX5_stopWaiting_17 : decode cX5_stopWaiting 17 = .ok (.invokevirtual 106, 3) := by decide +kernel
theorem dX5_stopWaiting_20 : decode cX5_stopWaiting 20 = .ok (.astore_n 3, 1) := by decide +kernel
theorem dX5_stopWaiting_21 : decode cX5_stopWaiting 21 = .ok (.aload_n 3, 1) := by decide +kernel
theorem dX5_stopWaiting_22 : decode cX5_stopWaiting 22 = .ok (.ifnonnull 6, 3) := by decide +kernel
theorem dX5_stopWaiting_25 : decode cX5_stopWaiting 25 = .ok (.bipush (-5), 2) := by decide +kernel
theorem dX5_stopWaiting_27 : decode cX5_stopWaiting 27 = .ok (.ireturn, 1) := by decide +kernel
theorem dX5_stopWaiting_28 : decode cX5_stopWaiting 28 = .ok (.aload_n 0, 1) := by decide +kernel
theorem dX5_stopWaiting_29 : decode cX5_stopWaiting 29 = .ok (.aload_n 2, 1) := by decide +kernel
theorem dX5_stopWaiting_30 : decode cX5_stopWaiting 30 = .ok (.aload_n 3, 1) := by decide +kernel
theorem dX5_stopWaiting_31 : decode cX5_stopWaiting 31 = .ok (.invokevirtual 127, 3) := by decide +kernel
theorem dX5_stopWaiting_34 : decode cX5_stopWaiting 34 = .ok (.aload_n 3, 1) := by decide +kernel
theorem dX5_stopWaiting_35 : decode cX5_stopWaiting 35 = .ok (.getfield 94, 3) := by decide +kernel
theorem dX5_stopWaiting_38 : decode cX5_stopWaiting 38 = .ok (.ireturn, 1) := by decide +kernel
theorem dX5_buyHint_0 : decode cX5_buyHint 0 = .ok (.aload_n 0, 1) := by decide +kernel
theorem dX5_buyHint_1 : decode cX5_buyHint 1 = .ok (.iload_n 1, 1) := by decide +kernel
theorem dX5_buyHint_2 : decode cX5_buyHint 2 = .ok (.invokevirtual 102, 3) := by decide +kernel
theorem dX5_buyHint_5 : decode cX5_buyHint 5 = .ok (.astore_n 3, 1) := by decide +kernel
theorem dX5_buyHint_6 : decode cX5_buyHint 6 = .ok (.aload_n 0, 1) := by decide +kernel
theorem dX5_buyHint_7 : decode cX5_buyHint 7 = .ok (.iload_n 2, 1) := by decide +kernel
theorem dX5_buyHint_8 : decode cX5_buyHint 8 = .ok (.invokevirtual 106, 3) := by decide +kernel
theorem dX5_buyHint_11 : decode cX5_buyHint 11 = .ok (.astore 4, 2) := by decide +kernel
theorem dX5_buyHint_13 : decode cX5_buyHint 13 = .ok (.aload_n 3, 1) := by decide +kernel
theorem dX5_buyHint_14 : decode cX5_buyHint 14 = .ok (.ifnull 8, 3) := by decide +kernel
theorem dX5_buyHint_17 : decode cX5_buyHint 17 = .ok (.aload 4, 2) := by decide +kernel
theorem dX5_buyHint_19 : decode cX5_buyHint 19 = .ok (.ifnonnull 5, 3) := by decide +kernel
theorem dX5_buyHint_22 : decode cX5_buyHint 22 = .ok (.iconst (-1), 1) := by decide +kernel
theorem dX5_buyHint_23 : decode cX5_buyHint 23 = .ok (.ireturn, 1) := by decide +kernel
theorem dX5_buyHint_24 : decode cX5_buyHint 24 = .ok (.aload_n 0, 1) := by decide +kernel
theorem dX5_buyHint_25 : decode cX5_buyHint 25 = .ok (.getfield 9, 3) := by decide +kernel
theorem dX5_buyHint_28 : decode cX5_buyHint 28 = .ok (.iconst 1, 1) := by decide +kernel
theorem dX5_buyHint_29 : decode cX5_buyHint 29 = .ok (.iaload, 1) := by decide +kernel
theorem dX5_buyHint_30 : decode cX5_buyHint 30 = .ok (.istore 5, 2) := by decide +kernel
theorem dX5_buyHint_32 : decode cX5_buyHint 32 = .ok (.aload 4, 2) := by decide +kernel
theorem dX5_buyHint_34 : decode cX5_buyHint 34 = .ok (.aload_n 3, 1) := by decide +kernel
theorem dX5_buyHint_35 : decode cX5_buyHint 35 = .ok (.getfield 97, 3) := by decide +kernel
theorem dX5_buyHint_38 : decode cX5_buyHint 38 = .ok (.invokevirtual 114, 3) := by decide +kernel
theorem dX5_buyHint_41 : decode cX5_buyHint 41 = .ok (.ifCond .eq 22, 3) := by decide +kernel
theorem dX5_buyHint_44 : decode cX5_buyHint 44 = .ok (.aload_n 3, 1) := by decide +kernel
theorem dX5_buyHint_45 : decode cX5_buyHint 45 = .ok (.getfield 98, 3) := by decide +kernel
theorem dX5_buyHint_48 : decode cX5_buyHint 48 = .ok (.iload 5, 2) := by decide +kernel
theorem dX5_buyHint_50 : decode cX5_buyHint 50 = .ok (.if_icmp .lt 13, 3) := by decide +kernel
theorem dX5_buyHint_53 : decode cX5_buyHint 53 = .ok (.aload_n 3, 1) := by decide +kernel
theorem dX5_buyHint_54 : decode cX5_buyHint 54 = .ok (.aload 4, 2) := by decide +kernel
theorem dX5_buyHint_56 : decode cX5_buyHint 56 = .ok (.invokevirtual 131, 3) := by decide +kernel
theorem dX5_buyHint_59 : decode cX5_buyHint 59 = .ok (.iconst 1, 1) := by decide +kernel
theorem dX5_buyHint_60 : decode cX5_buyHint 60 = .ok (.if_icmp .ne 6, 3) := by decide +kernel
theorem dX5_buyHint_63 : decode cX5_buyHint 63 = .ok (.bipush (-5), 2) := by decide +kernel
theorem dX5_buyHint_65 : decode cX5_buyHint 65 = .ok (.ireturn, 1) := by decide +kernel
theorem dX5_buyHint_66 : decode cX5_buyHint 66 = .ok (.aload_n 3, 1) := by decide +kernel
theorem dX5_buyHint_67 : decode cX5_buyHint 67 = .ok (.iload 5, 2) := by decide +kernel
theorem dX5_buyHint_69 : decode cX5_buyHint 69 = .ok (.aload 4, 2) := by decide +kernel
theorem dX5_buyHint_71 : decode cX5_buyHint 71 = .ok (.invokevirtual 135, 3) := by decide +kernel
theorem dX5_buyHint_74 : decode cX5_buyHint 74 = .ok (.aload_n 3, 1) := by decide +kernel
theorem dX5_buyHint_75 : decode cX5_buyHint 75 = .ok (.aload 4, 2) := by decide +kernel
theorem dX5_buyHint_77 : decode cX5_buyHint 77 = .ok (.invokevirtual 139, 3) := by decide +kernel
theorem dX5_buyHint_80 : decode cX5_buyHint 80 = .ok (.aload_n 0, 1) := by decide +kernel
theorem dX5_buyHint_81 : decode cX5_buyHint 81 = .ok (.dup, 1) := by decide +kernel
theorem dX5_buyHint_82 : decode cX5_buyHint 82 = .ok (.getfield 69, 3) := by decide +kernel
theorem dX5_buyHint_85 : decode cX5_buyHint 85 = .ok (.iconst 1, 1) := by decide +kernel
theorem dX5_buyHint_86 : decode cX5_buyHint 86 = .ok (.iadd, 1) := by decide +kernel
theorem dX5_buyHint_87 : decode cX5_buyHint 87 = .ok (.putfield 69, 3) := by decide +kernel
theorem dX5_buyHint_90 : decode cX5_buyHint 90 = .ok (.aload_n 3, 1) := by decide +kernel
theorem dX5_buyHint_91 : decode cX5_buyHint 91 = .ok (.aload 4, 2) := by decide +kernel
theorem dX5_buyHint_93 : decode cX5_buyHint 93 = .ok (.invokevirtual 131, 3) := by decide +kernel
theorem dX5_buyHint_96 : decode cX5_buyHint 96 = .ok (.ireturn, 1) := by decide +kernel
theorem dX5_passHours_0 : decode cX5_passHours 0 = .ok (.iload_n 1, 1) := by decide +kernel
theorem dX5_passHours_1 : decode cX5_passHours 1 = .ok (.iconst 1, 1) := by decide +kernel
theorem dX5_passHours_2 : decode cX5_passHours 2 = .ok (.if_icmp .lt 9, 3) := by decide +kernel
theorem dX5_passHours_5 : decode cX5_passHours 5 = .ok (.iload_n 1, 1) := by decide +kernel
theorem dX5_passHours_6 : decode cX5_passHours 6 = .ok (.bipush 99, 2) := by decide +kernel
theorem dX5_passHours_8 : decode cX5_passHours 8 = .ok (.if_icmp .le 6, 3) := by decide +kernel
theorem dX5_passHours_11 : decode cX5_passHours 11 = .ok (.bipush (-2), 2) := by decide +kernel
theorem dX5_passHours_13 : decode cX5_passHours 13 = .ok (.ireturn, 1) := by decide +kernel
theorem dX5_passHours_14 : decode cX5_passHours 14 = .ok (.aload_n 0, 1) := by decide +kernel
theorem dX5_passHours_15 : decode cX5_passHours 15 = .ok (.getfield 63, 3) := by decide +kernel
theorem dX5_passHours_18 : decode cX5_passHours 18 = .ok (.iload_n 1, 1) := by decide +kernel
theorem dX5_passHours_19 : decode cX5_passHours 19 = .ok (.iadd, 1) := by decide +kernel
theorem dX5_passHours_20 : decode cX5_passHours 20 = .ok (.sipush 9999, 3) := by decide +kernel
theorem dX5_passHours_23 : decode cX5_passHours 23 = .ok (.if_icmp .le 6, 3) := by decide +kernel
theorem dX5_passHours_26 : decode cX5_passHours 26 = .ok (.bipush (-5), 2) := by decide +kernel
theorem dX5_passHours_28 : decode cX5_passHours 28 = .ok (.ireturn, 1) := by decide +kernel
theorem dX5_passHours_29 : decode cX5_passHours 29 = .ok (.iconst 0, 1) := by decide +kernel
theorem dX5_passHours_30 : decode cX5_passHours 30 = .ok (.istore_n 2, 1) := by decide +kernel
theorem dX5_passHours_31 : decode cX5_passHours 31 = .ok (.iconst 0, 1) := by decide +kernel
theorem dX5_passHours_32 : decode cX5_passHours 32 = .ok (.istore_n 3, 1) := by decide +kernel
theorem dX5_passHours_33 : decode cX5_passHours 33 = .ok (.iload_n 3, 1) := by decide +kernel
theorem dX5_passHours_34 : decode cX5_passHours 34 = .ok (.iload_n 1, 1) := by decide +kernel
theorem dX5_passHours_35 : decode cX5_passHours 35 = .ok (.if_icmp .ge 16, 3) := by decide +kernel
theorem dX5_passHours_38 : decode cX5_passHours 38 = .ok (.iload_n 2, 1) := by decide +kernel
theorem dX5_passHours_39 : decode cX5_passHours 39 = .ok (.aload_n 0, 1) := by decide +kernel
theorem dX5_passHours_40 : decode cX5_passHours 40 = .ok (.invokevirtual 142, 3) := by decide +kernel
theorem dX5_passHours_43 : decode cX5_passHours 43 = .ok (.iadd, 1) := by decide +kernel
theorem dX5_passHours_44 : decode cX5_passHours 44 = .ok (.istore_n 2, 1) := by decide +kernel
theorem dX5_passHours_45 : decode cX5_passHours 45 = .ok (.iinc 3 1, 3) := by decide +kernel
theorem dX5_passHours_48 : decode cX5_passHours 48 = .ok (.goto (-15), 3) := by decide +kernel
theorem dX5_passHours_51 : decode cX5_passHours 51 = .ok (.iload_n 2, 1) := by decide +kernel
theorem dX5_passHours_52 : decode cX5_passHours 52 = .ok (.ireturn, 1) := by decide +kernel
theorem dX5_playHour_0 : decode cX5_playHour 0 = .ok (.iconst 0, 1) := by decide +kernel
theorem dX5_playHour_1 : decode cX5_playHour 1 = .ok (.istore_n 1, 1) := by decide +kernel
theorem dX5_playHour_2 : decode cX5_playHour 2 = .ok (.iconst 0, 1) := by decide +kernel
theorem dX5_playHour_3 : decode cX5_playHour 3 = .ok (.istore_n 2, 1) := by decide +kernel
theorem dX5_playHour_4 : decode cX5_playHour 4 = .ok (.iload_n 2, 1) := by decide +kernel
theorem dX5_playHour_5 : decode cX5_playHour 5 = .ok (.aload_n 0, 1) := by decide +kernel
theorem dX5_playHour_6 : decode cX5_playHour 6 = .ok (.getfield 57, 3) := by decide +kernel
theorem dX5_playHour_9 : decode cX5_playHour 9 = .ok (.if_icmp .ge 22, 3) := by decide +kernel
theorem dX5_playHour_12 : decode cX5_playHour 12 = .ok (.iload_n 1, 1) := by decide +kernel
theorem dX5_playHour_13 : decode cX5_playHour 13 = .ok (.aload_n 0, 1) := by decide +kernel
theorem dX5_playHour_14 : decode cX5_playHour 14 = .ok (.aload_n 0, 1) := by decide +kernel
theorem dX5_playHour_15 : decode cX5_playHour 15 = .ok (.getfield 17, 3) := by decide +kernel
theorem dX5_playHour_18 : decode cX5_playHour 18 = .ok (.iload_n 2, 1) := by decide +kernel
theorem dX5_playHour_19 : decode cX5_playHour 19 = .ok (.aaload, 1) := by decide +kernel
theorem dX5_playHour_20 : decode cX5_playHour 20 = .ok (.invokevirtual 146, 3) := by decide +kernel
theorem dX5_playHour_23 : decode cX5_playHour 23 = .ok (.iadd, 1) := by decide +kernel
theorem dX5_playHour_24 : decode cX5_playHour 24 = .ok (.istore_n 1, 1) := by decide +kernel
theorem dX5_playHour_25 : decode cX5_playHour 25 = .ok (.iinc 2 1, 3) := by decide +kernel
theorem dX5_playHour_28 : decode cX5_playHour 28 = .ok (.goto (-24), 3) := by decide +kernel
theorem dX5_playHour_31 : decode cX5_playHour 31 = .ok (.iconst 0, 1) := by decide +kernel
theorem dX5_playHour_32 : decode cX5_playHour 32 = .ok (.istore_n 2, 1) := by decide +kernel
theorem dX5_playHour_33 : decode cX5_playHour 33 = .ok (.iload_n 2, 1) := by decide +kernel
theorem dX5_playHour_34 : decode cX5_playHour 34 = .ok (.aload_n 0, 1) := by decide +kernel
theorem dX5_playHour_35 : decode cX5_playHour 35 = .ok (.getfield 60, 3) := by decide +kernel
theorem dX5_playHour_38 : decode cX5_playHour 38 = .ok (.if_icmp .ge 36, 3) := by decide +kernel
theorem dX5_playHour_41 : decode cX5_playHour 41 = .ok (.aload_n 0, 1) := by decide +kernel
theorem dX5_playHour_42 : decode cX5_playHour 42 = .ok (.getfield 23, 3) := by decide +kernel
theorem dX5_playHour_45 : decode cX5_playHour 45 = .ok (.iload_n 2, 1) := by decide +kernel
theorem dX5_playHour_46 : decode cX5_playHour 46 = .ok (.aaload, 1) := by decide +kernel
theorem dX5_playHour_47 : decode cX5_playHour 47 = .ok (.invokevirtual 110, 3) := by decide +kernel
theorem dX5_playHour_50 : decode cX5_playHour 50 = .ok (.ifCond .eq 18, 3) := by decide +kernel
theorem dX5_playHour_53 : decode cX5_playHour 53 = .ok (.aload_n 0, 1) := by decide +kernel
theorem dX5_playHour_54 : decode cX5_playHour 54 = .ok (.getfield 23, 3) := by decide +kernel
theorem dX5_playHour_57 : decode cX5_playHour 57 = .ok (.iload_n 2, 1) := by decide +kernel
theorem dX5_playHour_58 : decode cX5_playHour 58 = .ok (.aaload, 1) := by decide +kernel
theorem dX5_playHour_59 : decode cX5_playHour 59 = .ok (.dup, 1) := by decide +kernel
theorem dX5_playHour_60 : decode cX5_playHour 60 = .ok (.getfield 149, 3) := by decide +kernel
theorem dX5_playHour_63 : decode cX5_playHour 63 = .ok (.iconst 1, 1) := by decide +kernel
theorem dX5_playHour_64 : decode cX5_playHour 64 = .ok (.iadd, 1) := by decide +kernel
theorem dX5_playHour_65 : decode cX5_playHour 65 = .ok (.putfield 149, 3) := by decide +kernel
theorem dX5_playHour_68 : decode cX5_playHour 68 = .ok (.iinc 2 1, 3) := by decide +kernel
theorem dX5_playHour_71 : decode cX5_playHour 71 = .ok (.goto (-38), 3) := by decide +kernel
theorem dX5_playHour_74 : decode cX5_playHour 74 = .ok (.aload_n 0, 1) := by decide +kernel
theorem dX5_playHour_75 : decode cX5_playHour 75 = .ok (.dup, 1) := by decide +kernel
theorem dX5_playHour_76 : decode cX5_playHour 76 = .ok (.getfield 63, 3) := by decide +kernel
theorem dX5_playHour_79 : decode cX5_playHour 79 = .ok (.iconst 1, 1) := by decide +kernel
theorem dX5_playHour_80 : decode cX5_playHour 80 = .ok (.iadd, 1) := by decide +kernel
theorem dX5_playHour_81 : decode cX5_playHour 81 = .ok (.putfield 63, 3) := by decide +kernel
theorem dX5_playHour_84 : decode cX5_playHour 84 = .ok (.iload_n 1, 1) := by decide +kernel
theorem dX5_playHour_85 : decode cX5_playHour 85 = .ok (.ireturn, 1) := by decide +kernel
theorem dX5_letOver_0 : decode cX5_letOver 0 = .ok (.aload_n 0, 1) := by decide +kernel
theorem dX5_letOver_1 : decode cX5_letOver 1 = .ok (.aload_n 1, 1) := by decide +kernel
theorem dX5_letOver_2 : decode cX5_letOver 2 = .ok (.invokevirtual 152, 3) := by decide +kernel
theorem dX5_letOver_5 : decode cX5_letOver 5 = .ok (.istore_n 2, 1) := by decide +kernel
theorem dX5_letOver_6 : decode cX5_letOver 6 = .ok (.aload_n 0, 1) := by decide +kernel
theorem dX5_letOver_7 : decode cX5_letOver 7 = .ok (.aload_n 1, 1) := by decide +kernel
theorem dX5_letOver_8 : decode cX5_letOver 8 = .ok (.invokevirtual 156, 3) := by decide +kernel
theorem dX5_letOver_11 : decode cX5_letOver 11 = .ok (.astore_n 3, 1) := by decide +kernel
theorem dX5_letOver_12 : decode cX5_letOver 12 = .ok (.iload_n 2, 1) := by decide +kernel
theorem dX5_letOver_13 : decode cX5_letOver 13 = .ok (.ifCond .eq 13, 3) := by decide +kernel
theorem dX5_letOver_16 : decode cX5_letOver 16 = .ok (.aload_n 1, 1) := by decide +kernel
theorem dX5_letOver_17 : decode cX5_letOver 17 = .ok (.dup, 1) := by decide +kernel
theorem dX5_letOver_18 : decode cX5_letOver 18 = .ok (.getfield 160, 3) := by decide +kernel
theorem dX5_letOver_21 : decode cX5_letOver 21 = .ok (.iconst 1, 1) := by decide +kernel
theorem dX5_letOver_22 : decode cX5_letOver 22 = .ok (.iadd, 1) := by decide +kernel
theorem dX5_letOver_23 : decode cX5_letOver 23 = .ok (.putfield 160, 3) := by decide +kernel
theorem dX5_letOver_26 : decode cX5_letOver 26 = .ok (.aload_n 3, 1) := by decide +kernel
theorem dX5_letOver_27 : decode cX5_letOver 27 = .ok (.ifnonnull 5, 3) := by decide +kernel
theorem dX5_letOver_30 : decode cX5_letOver 30 = .ok (.iconst 0, 1) := by decide +kernel
theorem dX5_letOver_31 : decode cX5_letOver 31 = .ok (.ireturn, 1) := by decide +kernel
theorem dX5_letOver_32 : decode cX5_letOver 32 = .ok (.iload_n 2, 1) := by decide +kernel
theorem dX5_letOver_33 : decode cX5_letOver 33 = .ok (.ifCond .ne 11, 3) := by decide +kernel
theorem dX5_letOver_36 : decode cX5_letOver 36 = .ok (.aload_n 1, 1) := by decide +kernel
theorem dX5_letOver_37 : decode cX5_letOver 37 = .ok (.getfield 124, 3) := by decide +kernel
theorem dX5_letOver_40 : decode cX5_letOver 40 = .ok (.iconst 1, 1) := by decide +kernel
theorem dX5_letOver_41 : decode cX5_letOver 41 = .ok (.if_icmp .ne 21, 3) := by decide +kernel
theorem dX5_letOver_44 : decode cX5_letOver 44 = .ok (.aload_n 3, 1) := by decide +kernel
theorem dX5_letOver_45 : decode cX5_letOver 45 = .ok (.aload_n 0, 1) := by decide +kernel
theorem dX5_letOver_46 : decode cX5_letOver 46 = .ok (.getfield 9, 3) := by decide +kernel
theorem dX5_letOver_49 : decode cX5_letOver 49 = .ok (.iconst 0, 1) := by decide +kernel
theorem dX5_letOver_50 : decode cX5_letOver 50 = .ok (.iaload, 1) := by decide +kernel
theorem dX5_letOver_51 : decode cX5_letOver 51 = .ok (.aload_n 3, 1) := by decide +kernel
theorem dX5_letOver_52 : decode cX5_letOver 52 = .ok (.getfield 98, 3) := by decide +kernel
theorem dX5_letOver_55 : decode cX5_letOver 55 = .ok (.invokestatic 163, 3) := by decide +kernel
theorem dX5_letOver_58 : decode cX5_letOver 58 = .ok (.aload_n 1, 1) := by decide +kernel
theorem dX5_letOver_59 : decode cX5_letOver 59 = .ok (.invokevirtual 135, 3) := by decide +kernel
theorem dX5_letOver_62 : decode cX5_letOver 62 = .ok (.aload_n 3, 1) := by decide +kernel
theorem dX5_letOver_63 : decode cX5_letOver 63 = .ok (.getfield 121, 3) := by decide +kernel
theorem dX5_letOver_66 : decode cX5_letOver 66 = .ok (.aload_n 1, 1) := by decide +kernel
theorem dX5_letOver_67 : decode cX5_letOver 67 = .ok (.getfield 169, 3) := by decide +kernel
theorem dX5_letOver_70 : decode cX5_letOver 70 = .ok (.if_icmp .ne 14, 3) := by decide +kernel
theorem dX5_letOver_73 : decode cX5_letOver 73 = .ok (.aload_n 3, 1) := by decide +kernel
theorem dX5_letOver_74 : decode cX5_letOver 74 = .ok (.aload_n 0, 1) := by decide +kernel
theorem dX5_letOver_75 : decode cX5_letOver 75 = .ok (.getfield 9, 3) := by decide +kernel
theorem dX5_letOver_78 : decode cX5_letOver 78 = .ok (.iconst 2, 1) := by decide +kernel
theorem dX5_letOver_79 : decode cX5_letOver 79 = .ok (.iaload, 1) := by decide +kernel
theorem dX5_letOver_80 : decode cX5_letOver 80 = .ok (.aload_n 1, 1) := by decide +kernel
theorem dX5_letOver_81 : decode cX5_letOver 81 = .ok (.invokevirtual 172, 3) := by decide +kernel
theorem dX5_letOver_84 : decode cX5_letOver 84 = .ok (.aload_n 0, 1) := by decide +kernel
theorem dX5_letOver_85 : decode cX5_letOver 85 = .ok (.aload_n 3, 1) := by decide +kernel
theorem dX5_letOver_86 : decode cX5_letOver 86 = .ok (.aload_n 1, 1) := by decide +kernel
theorem dX5_letOver_87 : decode cX5_letOver 87 = .ok (.invokevirtual 127, 3) := by decide +kernel
theorem dX5_letOver_90 : decode cX5_letOver 90 = .ok (.aload_n 3, 1) := by decide +kernel
theorem dX5_letOver_91 : decode cX5_letOver 91 = .ok (.aload_n 1, 1) := by decide +kernel
theorem dX5_letOver_92 : decode cX5_letOver 92 = .ok (.aload_n 3, 1) := by decide +kernel
theorem dX5_letOver_93 : decode cX5_letOver 93 = .ok (.getfield 97, 3) := by decide +kernel
theorem dX5_letOver_96 : decode cX5_letOver 96 = .ok (.invokevirtual 175, 3) := by decide +kernel
theorem dX5_letOver_99 : decode cX5_letOver 99 = .ok (.putfield 97, 3) := by decide +kernel
theorem dX5_letOver_102 : decode cX5_letOver 102 = .ok (.aload_n 3, 1) := by decide +kernel
theorem dX5_letOver_103 : decode cX5_letOver 103 = .ok (.dup, 1) := by decide +kernel
theorem dX5_letOver_104 : decode cX5_letOver 104 = .ok (.getfield 179, 3) := by decide +kernel
theorem dX5_letOver_107 : decode cX5_letOver 107 = .ok (.iconst 1, 1) := by decide +kernel
theorem dX5_letOver_108 : decode cX5_letOver 108 = .ok (.iadd, 1) := by decide +kernel
theorem dX5_letOver_109 : decode cX5_letOver 109 = .ok (.putfield 179, 3) := by decide +kernel
theorem dX5_letOver_112 : decode cX5_letOver 112 = .ok (.aload_n 1, 1) := by decide +kernel
theorem dX5_letOver_113 : decode cX5_letOver 113 = .ok (.dup, 1) := by decide +kernel
theorem dX5_letOver_114 : decode cX5_letOver 114 = .ok (.getfield 182, 3) := by decide +kernel
theorem dX5_letOver_117 : decode cX5_letOver 117 = .ok (.iconst 1, 1) := by decide +kernel
theorem dX5_letOver_118 : decode cX5_letOver 118 = .ok (.iadd, 1) := by decide +kernel
theorem dX5_letOver_119 : decode cX5_letOver 119 = .ok (.putfield 182, 3) := by decide +kernel
theorem dX5_letOver_122 : decode cX5_letOver 122 = .ok (.aload_n 0, 1) := by decide +kernel
theorem dX5_letOver_123 : decode cX5_letOver 123 = .ok (.aload_n 1, 1) := by decide +kernel
theorem dX5_letOver_124 : decode cX5_letOver 124 = .ok (.invokevirtual 91, 3) := by decide +kernel
theorem dX5_letOver_127 : decode cX5_letOver 127 = .ok (.iconst 1, 1) := by decide +kernel
theorem dX5_letOver_128 : decode cX5_letOver 128 = .ok (.ireturn, 1) := by decide +kernel
theorem dX5_comerOver_0 : decode cX5_comerOver 0 = .ok (.aload_n 0, 1) := by decide +kernel
theorem dX5_comerOver_1 : decode cX5_comerOver 1 = .ok (.aload_n 1, 1) := by decide +kernel
theorem dX5_comerOver_2 : decode cX5_comerOver 2 = .ok (.iconst 0, 1) := by decide +kernel
theorem dX5_comerOver_3 : decode cX5_comerOver 3 = .ok (.invokevirtual 183, 3) := by decide +kernel
theorem dX5_comerOver_6 : decode cX5_comerOver 6 = .ok (.astore_n 2, 1) := by decide +kernel
theorem dX5_comerOver_7 : decode cX5_comerOver 7 = .ok (.aload_n 0, 1) := by decide +kernel
theorem dX5_comerOver_8 : decode cX5_comerOver 8 = .ok (.aload_n 1, 1) := by decide +kernel
theorem dX5_comerOver_9 : decode cX5_comerOver 9 = .ok (.iconst 1, 1) := by decide +kernel
theorem dX5_comerOver_10 : decode cX5_comerOver 10 = .ok (.invokevirtual 183, 3) := by decide +kernel
theorem dX5_comerOver_13 : decode cX5_comerOver 13 = .ok (.astore_n 3, 1) := by decide +kernel
theorem dX5_comerOver_14 : decode cX5_comerOver 14 = .ok (.aload_n 2, 1) := by decide +kernel
theorem dX5_comerOver_15 : decode cX5_comerOver 15 = .ok (.ifnonnull 5, 3) := by decide +kernel
theorem dX5_comerOver_18 : decode cX5_comerOver 18 = .ok (.aconst_null, 1) := by decide +kernel
theorem dX5_comerOver_19 : decode cX5_comerOver 19 = .ok (.areturn, 1) := by decide +kernel
theorem dX5_comerOver_20 : decode cX5_comerOver 20 = .ok (.aload_n 3, 1) := by decide +kernel
theorem dX5_comerOver_21 : decode cX5_comerOver 21 = .ok (.ifnonnull 22, 3) := by decide +kernel
theorem dX5_comerOver_24 : decode cX5_comerOver 24 = .ok (.aload_n 2, 1) := by decide +kernel
theorem dX5_comerOver_25 : decode cX5_comerOver 25 = .ok (.getfield 149, 3) := by decide +kernel
theorem dX5_comerOver_28 : decode cX5_comerOver 28 = .ok (.aload_n 0, 1) := by decide +kernel
theorem dX5_comerOver_29 : decode cX5_comerOver 29 = .ok (.getfield 9, 3) := by decide +kernel
theorem dX5_comerOver_32 : decode cX5_comerOver 32 = .ok (.iconst 3, 1) := by decide +kernel
theorem dX5_comerOver_33 : decode cX5_comerOver 33 = .ok (.iaload, 1) := by decide +kernel
theorem dX5_comerOver_34 : decode cX5_comerOver 34 = .ok (.if_icmp .lt 7, 3) := by decide +kernel
theorem dX5_comerOver_37 : decode cX5_comerOver 37 = .ok (.aload_n 2, 1) := by decide +kernel
theorem dX5_comerOver_38 : decode cX5_comerOver 38 = .ok (.goto 4, 3) := by decide +kernel
theorem dX5_comerOver_41 : decode cX5_comerOver 41 = .ok (.aconst_null, 1) := by decide +kernel
theorem dX5_comerOver_42 : decode cX5_comerOver 42 = .ok (.areturn, 1) := by decide +kernel
theorem dX5_comerOver_43 : decode cX5_comerOver 43 = .ok (.aload_n 1, 1) := by decide +kernel
theorem dX5_comerOver_44 : decode cX5_comerOver 44 = .ok (.aload_n 3, 1) := by decide +kernel
theorem dX5_comerOver_45 : decode cX5_comerOver 45 = .ok (.getfield 121, 3) := by decide +kernel
theorem dX5_comerOver_48 : decode cX5_comerOver 48 = .ok (.invokevirtual 187, 3) := by decide +kernel
theorem dX5_comerOver_51 : decode cX5_comerOver 51 = .ok (.aload_n 1, 1) := by decide +kernel
theorem dX5_comerOver_52 : decode cX5_comerOver 52 = .ok (.aload_n 2, 1) := by decide +kernel
theorem dX5_comerOver_53 : decode cX5_comerOver 53 = .ok (.getfield 121, 3) := by decide +kernel
theorem dX5_comerOver_56 : decode cX5_comerOver 56 = .ok (.invokevirtual 187, 3) := by decide +kernel
theorem dX5_comerOver_59 : decode cX5_comerOver 59 = .ok (.isub, 1) := by decide +kernel
theorem dX5_comerOver_60 : decode cX5_comerOver 60 = .ok (.istore 4, 2) := by decide +kernel
theorem dX5_comerOver_62 : decode cX5_comerOver 62 = .ok (.iload 4, 2) := by decide +kernel
theorem dX5_comerOver_64 : decode cX5_comerOver 64 = .ok (.ifCond .ne 10, 3) := by decide +kernel
theorem dX5_comerOver_67 : decode cX5_comerOver 67 = .ok (.aload_n 0, 1) := by decide +kernel
theorem dX5_comerOver_68 : decode cX5_comerOver 68 = .ok (.aload_n 2, 1) := by decide +kernel
theorem dX5_comerOver_69 : decode cX5_comerOver 69 = .ok (.aload_n 3, 1) := by decide +kernel
theorem dX5_comerOver_70 : decode cX5_comerOver 70 = .ok (.invokevirtual 190, 3) := by decide +kernel
theorem dX5_comerOver_73 : decode cX5_comerOver 73 = .ok (.areturn, 1) := by decide +kernel
theorem dX5_comerOver_74 : decode cX5_comerOver 74 = .ok (.iload 4, 2) := by decide +kernel
theorem dX5_comerOver_76 : decode cX5_comerOver 76 = .ok (.ifCond .le 7, 3) := by decide +kernel
theorem dX5_comerOver_79 : decode cX5_comerOver 79 = .ok (.aload_n 2, 1) := by decide +kernel
theorem dX5_comerOver_80 : decode cX5_comerOver 80 = .ok (.goto 4, 3) := by decide +kernel
theorem dX5_comerOver_83 : decode cX5_comerOver 83 = .ok (.aload_n 3, 1) := by decide +kernel
theorem dX5_comerOver_84 : decode cX5_comerOver 84 = .ok (.areturn, 1) := by decide +kernel
theorem dX5_isTied_0 : decode cX5_isTied 0 = .ok (.aload_n 0, 1) := by decide +kernel
theorem dX5_isTied_1 : decode cX5_isTied 1 = .ok (.aload_n 1, 1) := by decide +kernel
theorem dX5_isTied_2 : decode cX5_isTied 2 = .ok (.iconst 0, 1) := by decide +kernel
theorem dX5_isTied_3 : decode cX5_isTied 3 = .ok (.invokevirtual 183, 3) := by decide +kernel
theorem dX5_isTied_6 : decode cX5_isTied 6 = .ok (.astore_n 2, 1) := by decide +kernel
theorem dX5_isTied_7 : decode cX5_isTied 7 = .ok (.aload_n 0, 1) := by decide +kernel
theorem dX5_isTied_8 : decode cX5_isTied 8 = .ok (.aload_n 1, 1) := by decide +kernel
theorem dX5_isTied_9 : decode cX5_isTied 9 = .ok (.iconst 1, 1) := by decide +kernel
theorem dX5_isTied_10 : decode cX5_isTied 10 = .ok (.invokevirtual 183, 3) := by decide +kernel
theorem dX5_isTied_13 : decode cX5_isTied 13 = .ok (.astore_n 3, 1) := by decide +kernel
theorem dX5_isTied_14 : decode cX5_isTied 14 = .ok (.aload_n 2, 1) := by decide +kernel
theorem dX5_isTied_15 : decode cX5_isTied 15 = .ok (.ifnull 30, 3) := by decide +kernel
theorem dX5_isTied_18 : decode cX5_isTied 18 = .ok (.aload_n 3, 1) := by decide +kernel
theorem dX5_isTied_19 : decode cX5_isTied 19 = .ok (.ifnull 26, 3) := by decide +kernel
theorem dX5_isTied_22 : decode cX5_isTied 22 = .ok (.aload_n 1, 1) := by decide +kernel
theorem dX5_isTied_23 : decode cX5_isTied 23 = .ok (.aload_n 2, 1) := by decide +kernel
theorem dX5_isTied_24 : decode cX5_isTied 24 = .ok (.getfield 121, 3) := by decide +kernel
theorem dX5_isTied_27 : decode cX5_isTied 27 = .ok (.invokevirtual 187, 3) := by decide +kernel
theorem dX5_isTied_30 : decode cX5_isTied 30 = .ok (.aload_n 1, 1) := by decide +kernel
theorem dX5_isTied_31 : decode cX5_isTied 31 = .ok (.aload_n 3, 1) := by decide +kernel
theorem dX5_isTied_32 : decode cX5_isTied 32 = .ok (.getfield 121, 3) := by decide +kernel
theorem dX5_isTied_35 : decode cX5_isTied 35 = .ok (.invokevirtual 187, 3) := by decide +kernel
theorem dX5_isTied_38 : decode cX5_isTied 38 = .ok (.if_icmp .ne 7, 3) := by decide +kernel
theorem dX5_isTied_41 : decode cX5_isTied 41 = .ok (.iconst 1, 1) := by decide +kernel
theorem dX5_isTied_42 : decode cX5_isTied 42 = .ok (.goto 4, 3) := by decide +kernel
theorem dX5_isTied_45 : decode cX5_isTied 45 = .ok (.iconst 0, 1) := by decide +kernel
theorem dX5_isTied_46 : decode cX5_isTied 46 = .ok (.ireturn, 1) := by decide +kernel
theorem dX5_payerOfTie_0 : decode cX5_payerOfTie 0 = .ok (.aload_n 1, 1) := by decide +kernel
theorem dX5_payerOfTie_1 : decode cX5_payerOfTie 1 = .ok (.getfield 101, 3) := by decide +kernel
theorem dX5_payerOfTie_4 : decode cX5_payerOfTie 4 = .ok (.aload_n 2, 1) := by decide +kernel
theorem dX5_payerOfTie_5 : decode cX5_payerOfTie 5 = .ok (.getfield 101, 3) := by decide +kernel
theorem dX5_payerOfTie_8 : decode cX5_payerOfTie 8 = .ok (.if_icmp .ge 7, 3) := by decide +kernel
theorem dX5_payerOfTie_11 : decode cX5_payerOfTie 11 = .ok (.aload_n 1, 1) := by decide +kernel
theorem dX5_payerOfTie_12 : decode cX5_payerOfTie 12 = .ok (.goto 4, 3) := by decide +kernel
theorem dX5_payerOfTie_15 : decode cX5_payerOfTie 15 = .ok (.aload_n 2, 1) := by decide +kernel
theorem dX5_payerOfTie_16 : decode cX5_payerOfTie 16 = .ok (.astore_n 3, 1) := by decide +kernel
theorem dX5_payerOfTie_17 : decode cX5_payerOfTie 17 = .ok (.aload_n 1, 1) := by decide +kernel
theorem dX5_payerOfTie_18 : decode cX5_payerOfTie 18 = .ok (.getfield 101, 3) := by decide +kernel
theorem dX5_payerOfTie_21 : decode cX5_payerOfTie 21 = .ok (.aload_n 2, 1) := by decide +kernel
theorem dX5_payerOfTie_22 : decode cX5_payerOfTie 22 = .ok (.getfield 101, 3) := by decide +kernel
theorem dX5_payerOfTie_25 : decode cX5_payerOfTie 25 = .ok (.if_icmp .ge 7, 3) := by decide +kernel
theorem dX5_payerOfTie_28 : decode cX5_payerOfTie 28 = .ok (.aload_n 2, 1) := by decide +kernel
theorem dX5_payerOfTie_29 : decode cX5_payerOfTie 29 = .ok (.goto 4, 3) := by decide +kernel
theorem dX5_payerOfTie_32 : decode cX5_payerOfTie 32 = .ok (.aload_n 1, 1) := by decide +kernel
theorem dX5_payerOfTie_33 : decode cX5_payerOfTie 33 = .ok (.astore 4, 2) := by decide +kernel
theorem dX5_payerOfTie_35 : decode cX5_payerOfTie 35 = .ok (.aload_n 3, 1) := by decide +kernel
theorem dX5_payerOfTie_36 : decode cX5_payerOfTie 36 = .ok (.getfield 98, 3) := by decide +kernel
theorem dX5_payerOfTie_39 : decode cX5_payerOfTie 39 = .ok (.aload_n 0, 1) := by decide +kernel
theorem dX5_payerOfTie_40 : decode cX5_payerOfTie 40 = .ok (.getfield 9, 3) := by decide +kernel
theorem dX5_payerOfTie_43 : decode cX5_payerOfTie 43 = .ok (.iconst 0, 1) := by decide +kernel
theorem dX5_payerOfTie_44 : decode cX5_payerOfTie 44 = .ok (.iaload, 1) := by decide +kernel
theorem dX5_payerOfTie_45 : decode cX5_payerOfTie 45 = .ok (.if_icmp .lt 5, 3) := by decide +kernel
theorem dX5_payerOfTie_48 : decode cX5_payerOfTie 48 = .ok (.aload_n 3, 1) := by decide +kernel
theorem dX5_payerOfTie_49 : decode cX5_payerOfTie 49 = .ok (.areturn, 1) := by decide +kernel
theorem dX5_payerOfTie_50 : decode cX5_payerOfTie 50 = .ok (.aload 4, 2) := by decide +kernel
theorem dX5_payerOfTie_52 : decode cX5_payerOfTie 52 = .ok (.getfield 98, 3) := by decide +kernel
theorem dX5_payerOfTie_55 : decode cX5_payerOfTie 55 = .ok (.aload_n 0, 1) := by decide +kernel
theorem dX5_payerOfTie_56 : decode cX5_payerOfTie 56 = .ok (.getfield 9, 3) := by decide +kernel
theorem dX5_payerOfTie_59 : decode cX5_payerOfTie 59 = .ok (.iconst 0, 1) := by decide +kernel
theorem dX5_payerOfTie_60 : decode cX5_payerOfTie 60 = .ok (.iaload, 1) := by decide +kernel
theorem dX5_payerOfTie_61 : decode cX5_payerOfTie 61 = .ok (.if_icmp .lt 8, 3) := by decide +kernel
theorem dX5_payerOfTie_64 : decode cX5_payerOfTie 64 = .ok (.aload 4, 2) := by decide +kernel
theorem dX5_payerOfTie_66 : decode cX5_payerOfTie 66 = .ok (.goto 4, 3) := by decide +kernel
theorem dX5_payerOfTie_69 : decode cX5_payerOfTie 69 = .ok (.aconst_null, 1) := by decide +kernel
theorem dX5_payerOfTie_70 : decode cX5_payerOfTie 70 = .ok (.areturn, 1) := by decide +kernel
theorem dX5_release_0 : decode cX5_release 0 = .ok (.iconst 0, 1) := by decide +kernel
theorem dX5_release_1 : decode cX5_release 1 = .ok (.istore_n 3, 1) := by decide +kernel
theorem dX5_release_2 : decode cX5_release 2 = .ok (.iconst 0, 1) := by decide +kernel
theorem dX5_release_3 : decode cX5_release 3 = .ok (.istore 4, 2) := by decide +kernel
theorem dX5_release_5 : decode cX5_release 5 = .ok (.iload 4, 2) := by decide +kernel
theorem dX5_release_7 : decode cX5_release 7 = .ok (.aload_n 0, 1) := by decide +kernel
theorem dX5_release_8 : decode cX5_release 8 = .ok (.getfield 54, 3) := by decide +kernel
theorem dX5_release_11 : decode cX5_release 11 = .ok (.if_icmp .ge 39, 3) := by decide +kernel
theorem dX5_release_14 : decode cX5_release 14 = .ok (.aload_n 0, 1) := by decide +kernel
theorem dX5_release_15 : decode cX5_release 15 = .ok (.getfield 27, 3) := by decide +kernel
theorem dX5_release_18 : decode cX5_release 18 = .ok (.iload 4, 2) := by decide +kernel
theorem dX5_release_20 : decode cX5_release 20 = .ok (.iaload, 1) := by decide +kernel
theorem dX5_release_21 : decode cX5_release 21 = .ok (.aload_n 1, 1) := by decide +kernel
theorem dX5_release_22 : decode cX5_release 22 = .ok (.getfield 101, 3) := by decide +kernel
theorem dX5_release_25 : decode cX5_release 25 = .ok (.if_icmp .eq 19, 3) := by decide +kernel
theorem dX5_release_28 : decode cX5_release 28 = .ok (.aload_n 0, 1) := by decide +kernel
theorem dX5_release_29 : decode cX5_release 29 = .ok (.getfield 27, 3) := by decide +kernel
theorem dX5_release_32 : decode cX5_release 32 = .ok (.iload_n 3, 1) := by decide +kernel
theorem dX5_release_33 : decode cX5_release 33 = .ok (.aload_n 0, 1) := by decide +kernel
theorem dX5_release_34 : decode cX5_release 34 = .ok (.getfield 27, 3) := by decide +kernel
theorem dX5_release_37 : decode cX5_release 37 = .ok (.iload 4, 2) := by decide +kernel
theorem dX5_release_39 : decode cX5_release 39 = .ok (.iaload, 1) := by decide +kernel
theorem dX5_release_40 : decode cX5_release 40 = .ok (.iastore, 1) := by decide +kernel
theorem dX5_release_41 : decode cX5_release 41 = .ok (.iinc 3 1, 3) := by decide +kernel
theorem dX5_release_44 : decode cX5_release 44 = .ok (.iinc 4 1, 3) := by decide +kernel
theorem dX5_release_47 : decode cX5_release 47 = .ok (.goto (-42), 3) := by decide +kernel
theorem dX5_release_50 : decode cX5_release 50 = .ok (.aload_n 0, 1) := by decide +kernel
theorem dX5_release_51 : decode cX5_release 51 = .ok (.iload_n 3, 1) := by decide +kernel
theorem dX5_release_52 : decode cX5_release 52 = .ok (.putfield 54, 3) := by decide +kernel
theorem dX5_release_55 : decode cX5_release 55 = .ok (.aload_n 1, 1) := by decide +kernel
theorem dX5_release_56 : decode cX5_release 56 = .ok (.bipush (-6), 2) := by decide +kernel
theorem dX5_release_58 : decode cX5_release 58 = .ok (.putfield 118, 3) := by decide +kernel
theorem dX5_release_61 : decode cX5_release 61 = .ok (.aload_n 1, 1) := by decide +kernel
theorem dX5_release_62 : decode cX5_release 62 = .ok (.bipush (-6), 2) := by decide +kernel
theorem dX5_release_64 : decode cX5_release 64 = .ok (.putfield 121, 3) := by decide +kernel
theorem dX5_release_67 : decode cX5_release 67 = .ok (.aload_n 1, 1) := by decide +kernel
theorem dX5_release_68 : decode cX5_release 68 = .ok (.iconst 0, 1) := by decide +kernel
theorem dX5_release_69 : decode cX5_release 69 = .ok (.putfield 149, 3) := by decide +kernel
theorem dX5_release_72 : decode cX5_release 72 = .ok (.aload_n 2, 1) := by decide +kernel
theorem dX5_release_73 : decode cX5_release 73 = .ok (.dup, 1) := by decide +kernel
theorem dX5_release_74 : decode cX5_release 74 = .ok (.getfield 124, 3) := by decide +kernel
theorem dX5_release_77 : decode cX5_release 77 = .ok (.iconst 1, 1) := by decide +kernel
theorem dX5_release_78 : decode cX5_release 78 = .ok (.isub, 1) := by decide +kernel
theorem dX5_release_79 : decode cX5_release 79 = .ok (.putfield 124, 3) := by decide +kernel
theorem dX5_release_82 : decode cX5_release 82 = .ok (.return_, 1) := by decide +kernel
theorem dX5_drawRiddle_0 : decode cX5_drawRiddle 0 = .ok (.aload_n 0, 1) := by decide +kernel
theorem dX5_drawRiddle_1 : decode cX5_drawRiddle 1 = .ok (.bipush 75, 2) := by decide +kernel
theorem dX5_drawRiddle_3 : decode cX5_drawRiddle 3 = .ok (.aload_n 0, 1) := by decide +kernel
theorem dX5_drawRiddle_4 : decode cX5_drawRiddle 4 = .ok (.getfield 30, 3) := by decide +kernel
theorem dX5_drawRiddle_7 : decode cX5_drawRiddle 7 = .ok (.imul, 1) := by decide +kernel
theorem dX5_drawRiddle_8 : decode cX5_drawRiddle 8 = .ok (.bipush 74, 2) := by decide +kernel
theorem dX5_drawRiddle_10 : decode cX5_drawRiddle 10 = .ok (.iadd, 1) := by decide +kernel
theorem dX5_drawRiddle_11 : decode cX5_drawRiddle 11 = .ok (.ldc 194, 2) := by decide +kernel
theorem dX5_drawRiddle_13 : decode cX5_drawRiddle 13 = .ok (.irem, 1) := by decide +kernel
theorem dX5_drawRiddle_14 : decode cX5_drawRiddle 14 = .ok (.putfield 30, 3) := by decide +kernel
theorem dX5_drawRiddle_17 : decode cX5_drawRiddle 17 = .ok (.aload_n 1, 1) := by decide +kernel
theorem dX5_drawRiddle_18 : decode cX5_drawRiddle 18 = .ok (.aload_n 0, 1) := by decide +kernel
theorem dX5_drawRiddle_19 : decode cX5_drawRiddle 19 = .ok (.getfield 30, 3) := by decide +kernel
theorem dX5_drawRiddle_22 : decode cX5_drawRiddle 22 = .ok (.iconst 2, 1) := by decide +kernel
theorem dX5_drawRiddle_23 : decode cX5_drawRiddle 23 = .ok (.idiv, 1) := by decide +kernel
theorem dX5_drawRiddle_24 : decode cX5_drawRiddle 24 = .ok (.invokevirtual 195, 3) := by decide +kernel
theorem dX5_drawRiddle_27 : decode cX5_drawRiddle 27 = .ok (.iconst 0, 1) := by decide +kernel
theorem dX5_drawRiddle_28 : decode cX5_drawRiddle 28 = .ok (.istore_n 2, 1) := by decide +kernel
theorem dX5_drawRiddle_29 : decode cX5_drawRiddle 29 = .ok (.iload_n 2, 1) := by decide +kernel
theorem dX5_drawRiddle_30 : decode cX5_drawRiddle 30 = .ok (.bipush 8, 2) := by decide +kernel
theorem dX5_drawRiddle_32 : decode cX5_drawRiddle 32 = .ok (.if_icmp .ge 19, 3) := by decide +kernel
theorem dX5_drawRiddle_35 : decode cX5_drawRiddle 35 = .ok (.aload_n 0, 1) := by decide +kernel
theorem dX5_drawRiddle_36 : decode cX5_drawRiddle 36 = .ok (.getfield 23, 3) := by decide +kernel
theorem dX5_drawRiddle_39 : decode cX5_drawRiddle 39 = .ok (.iload_n 2, 1) := by decide +kernel
theorem dX5_drawRiddle_40 : decode cX5_drawRiddle 40 = .ok (.aaload, 1) := by decide +kernel
theorem dX5_drawRiddle_41 : decode cX5_drawRiddle 41 = .ok (.aload_n 1, 1) := by decide +kernel
theorem dX5_drawRiddle_42 : decode cX5_drawRiddle 42 = .ok (.invokevirtual 198, 3) := by decide +kernel
theorem dX5_drawRiddle_45 : decode cX5_drawRiddle 45 = .ok (.iinc 2 1, 3) := by decide +kernel
theorem dX5_drawRiddle_48 : decode cX5_drawRiddle 48 = .ok (.goto (-19), 3) := by decide +kernel
theorem dX5_drawRiddle_51 : decode cX5_drawRiddle 51 = .ok (.return_, 1) := by decide +kernel
theorem dX5_waiterAt_0 : decode cX5_waiterAt 0 = .ok (.iconst 0, 1) := by decide +kernel
theorem dX5_waiterAt_1 : decode cX5_waiterAt 1 = .ok (.istore_n 3, 1) := by decide +kernel
theorem dX5_waiterAt_2 : decode cX5_waiterAt 2 = .ok (.iconst 0, 1) := by decide +kernel
theorem dX5_waiterAt_3 : decode cX5_waiterAt 3 = .ok (.istore 4, 2) := by decide +kernel
theorem dX5_waiterAt_5 : decode cX5_waiterAt 5 = .ok (.iload 4, 2) := by decide +kernel
theorem dX5_waiterAt_7 : decode cX5_waiterAt 7 = .ok (.aload_n 0, 1) := by decide +kernel
theorem dX5_waiterAt_8 : decode cX5_waiterAt 8 = .ok (.getfield 54, 3) := by decide +kernel
theorem dX5_waiterAt_11 : decode cX5_waiterAt 11 = .ok (.if_icmp .ge 63, 3) := by decide +kernel
theorem dX5_waiterAt_14 : decode cX5_waiterAt 14 = .ok (.aload_n 0, 1) := by decide +kernel
theorem dX5_waiterAt_15 : decode cX5_waiterAt 15 = .ok (.getfield 27, 3) := by decide +kernel
theorem dX5_waiterAt_18 : decode cX5_waiterAt 18 = .ok (.iload 4, 2) := by decide +kernel
theorem dX5_waiterAt_20 : decode cX5_waiterAt 20 = .ok (.iaload, 1) := by decide +kernel
theorem dX5_waiterAt_21 : decode cX5_waiterAt 21 = .ok (.istore 5, 2) := by decide +kernel
theorem dX5_waiterAt_23 : decode cX5_waiterAt 23 = .ok (.iload 5, 2) := by decide +kernel
theorem dX5_waiterAt_25 : decode cX5_waiterAt 25 = .ok (.aload_n 0, 1) := by decide +kernel
theorem dX5_waiterAt_26 : decode cX5_waiterAt 26 = .ok (.getfield 60, 3) := by decide +kernel
theorem dX5_waiterAt_29 : decode cX5_waiterAt 29 = .ok (.invokestatic 72, 3) := by decide +kernel
theorem dX5_waiterAt_32 : decode cX5_waiterAt 32 = .ok (.ifCond .eq 36, 3) := by decide +kernel
theorem dX5_waiterAt_35 : decode cX5_waiterAt 35 = .ok (.aload_n 0, 1) := by decide +kernel
theorem dX5_waiterAt_36 : decode cX5_waiterAt 36 = .ok (.getfield 23, 3) := by decide +kernel
theorem dX5_waiterAt_39 : decode cX5_waiterAt 39 = .ok (.iload 5, 2) := by decide +kernel
theorem dX5_waiterAt_41 : decode cX5_waiterAt 41 = .ok (.aaload, 1) := by decide +kernel
theorem dX5_waiterAt_42 : decode cX5_waiterAt 42 = .ok (.getfield 118, 3) := by decide +kernel
theorem dX5_waiterAt_45 : decode cX5_waiterAt 45 = .ok (.aload_n 1, 1) := by decide +kernel
theorem dX5_waiterAt_46 : decode cX5_waiterAt 46 = .ok (.getfield 94, 3) := by decide +kernel
theorem dX5_waiterAt_49 : decode cX5_waiterAt 49 = .ok (.if_icmp .ne 19, 3) := by decide +kernel
theorem dX5_waiterAt_52 : decode cX5_waiterAt 52 = .ok (.iload_n 3, 1) := by decide +kernel
theorem dX5_waiterAt_53 : decode cX5_waiterAt 53 = .ok (.iload_n 2, 1) := by decide +kernel
theorem dX5_waiterAt_54 : decode cX5_waiterAt 54 = .ok (.if_icmp .ne 11, 3) := by decide +kernel
theorem dX5_waiterAt_57 : decode cX5_waiterAt 57 = .ok (.aload_n 0, 1) := by decide +kernel
theorem dX5_waiterAt_58 : decode cX5_waiterAt 58 = .ok (.getfield 23, 3) := by decide +kernel
theorem dX5_waiterAt_61 : decode cX5_waiterAt 61 = .ok (.iload 5, 2) := by decide +kernel
theorem dX5_waiterAt_63 : decode cX5_waiterAt 63 = .ok (.aaload, 1) := by decide +kernel
theorem dX5_waiterAt_64 : decode cX5_waiterAt 64 = .ok (.areturn, 1) := by decide +kernel
theorem dX5_waiterAt_65 : decode cX5_waiterAt 65 = .ok (.iinc 3 1, 3) := by decide +kernel
theorem dX5_waiterAt_68 : decode cX5_waiterAt 68 = .ok (.iinc 4 1, 3) := by decide +kernel
theorem dX5_waiterAt_71 : decode cX5_waiterAt 71 = .ok (.goto (-66), 3) := by decide +kernel
theorem dX5_waiterAt_74 : decode cX5_waiterAt 74 = .ok (.aconst_null, 1) := by decide +kernel
theorem dX5_waiterAt_75 : decode cX5_waiterAt 75 = .ok (.areturn, 1) := by decide +kernel
theorem dX5_reasonToStay_0 : decode cX5_reasonToStay 0 = .ok (.aload_n 0, 1) := by decide +kernel
theorem dX5_reasonToStay_1 : decode cX5_reasonToStay 1 = .ok (.aload_n 1, 1) := by decide +kernel
theorem dX5_reasonToStay_2 : decode cX5_reasonToStay 2 = .ok (.getfield 118, 3) := by decide +kernel
theorem dX5_reasonToStay_5 : decode cX5_reasonToStay 5 = .ok (.invokevirtual 106, 3) := by decide +kernel
theorem dX5_reasonToStay_8 : decode cX5_reasonToStay 8 = .ok (.astore_n 2, 1) := by decide +kernel
theorem dX5_reasonToStay_9 : decode cX5_reasonToStay 9 = .ok (.aload_n 2, 1) := by decide +kernel
theorem dX5_reasonToStay_10 : decode cX5_reasonToStay 10 = .ok (.ifnonnull 5, 3) := by decide +kernel
theorem dX5_reasonToStay_13 : decode cX5_reasonToStay 13 = .ok (.iconst 1, 1) := by decide +kernel
theorem dX5_reasonToStay_14 : decode cX5_reasonToStay 14 = .ok (.ireturn, 1) := by decide +kernel
theorem dX5_reasonToStay_15 : decode cX5_reasonToStay 15 = .ok (.aload_n 0, 1) := by decide +kernel
theorem dX5_reasonToStay_16 : decode cX5_reasonToStay 16 = .ok (.aload_n 2, 1) := by decide +kernel
theorem dX5_reasonToStay_17 : decode cX5_reasonToStay 17 = .ok (.invokevirtual 156, 3) := by decide +kernel
theorem dX5_reasonToStay_20 : decode cX5_reasonToStay 20 = .ok (.astore_n 3, 1) := by decide +kernel
theorem dX5_reasonToStay_21 : decode cX5_reasonToStay 21 = .ok (.aload_n 3, 1) := by decide +kernel
theorem dX5_reasonToStay_22 : decode cX5_reasonToStay 22 = .ok (.aload_n 1, 1) := by decide +kernel
theorem dX5_reasonToStay_23 : decode cX5_reasonToStay 23 = .ok (.if_acmp .ne 5, 3) := by decide +kernel
theorem dX5_reasonToStay_26 : decode cX5_reasonToStay 26 = .ok (.iconst 0, 1) := by decide +kernel
theorem dX5_reasonToStay_27 : decode cX5_reasonToStay 27 = .ok (.ireturn, 1) := by decide +kernel
theorem dX5_reasonToStay_28 : decode cX5_reasonToStay 28 = .ok (.aload_n 2, 1) := by decide +kernel
theorem dX5_reasonToStay_29 : decode cX5_reasonToStay 29 = .ok (.getfield 124, 3) := by decide +kernel
theorem dX5_reasonToStay_32 : decode cX5_reasonToStay 32 = .ok (.iconst 1, 1) := by decide +kernel
theorem dX5_reasonToStay_33 : decode cX5_reasonToStay 33 = .ok (.if_icmp .ne 5, 3) := by decide +kernel
theorem dX5_reasonToStay_36 : decode cX5_reasonToStay 36 = .ok (.iconst 2, 1) := by decide +kernel
theorem dX5_reasonToStay_37 : decode cX5_reasonToStay 37 = .ok (.ireturn, 1) := by decide +kernel
theorem dX5_reasonToStay_38 : decode cX5_reasonToStay 38 = .ok (.aload_n 0, 1) := by decide +kernel
theorem dX5_reasonToStay_39 : decode cX5_reasonToStay 39 = .ok (.aload_n 2, 1) := by decide +kernel
theorem dX5_reasonToStay_40 : decode cX5_reasonToStay 40 = .ok (.iconst 0, 1) := by decide +kernel
theorem dX5_reasonToStay_41 : decode cX5_reasonToStay 41 = .ok (.invokevirtual 183, 3) := by decide +kernel
theorem dX5_reasonToStay_44 : decode cX5_reasonToStay 44 = .ok (.aload_n 1, 1) := by decide +kernel
theorem dX5_reasonToStay_45 : decode cX5_reasonToStay 45 = .ok (.if_acmp .eq 15, 3) := by decide +kernel
theorem dX5_reasonToStay_48 : decode cX5_reasonToStay 48 = .ok (.aload_n 0, 1) := by decide +kernel
theorem dX5_reasonToStay_49 : decode cX5_reasonToStay 49 = .ok (.aload_n 2, 1) := by decide +kernel
theorem dX5_reasonToStay_50 : decode cX5_reasonToStay 50 = .ok (.iconst 1, 1) := by decide +kernel
theorem dX5_reasonToStay_51 : decode cX5_reasonToStay 51 = .ok (.invokevirtual 183, 3) := by decide +kernel
theorem dX5_reasonToStay_54 : decode cX5_reasonToStay 54 = .ok (.aload_n 1, 1) := by decide +kernel
theorem dX5_reasonToStay_55 : decode cX5_reasonToStay 55 = .ok (.if_acmp .eq 5, 3) := by decide +kernel
theorem dX5_reasonToStay_58 : decode cX5_reasonToStay 58 = .ok (.iconst 3, 1) := by decide +kernel
theorem dX5_reasonToStay_59 : decode cX5_reasonToStay 59 = .ok (.ireturn, 1) := by decide +kernel
theorem dX5_reasonToStay_60 : decode cX5_reasonToStay 60 = .ok (.aload_n 0, 1) := by decide +kernel
theorem dX5_reasonToStay_61 : decode cX5_reasonToStay 61 = .ok (.aload_n 2, 1) := by decide +kernel
theorem dX5_reasonToStay_62 : decode cX5_reasonToStay 62 = .ok (.invokevirtual 152, 3) := by decide +kernel
theorem dX5_reasonToStay_65 : decode cX5_reasonToStay 65 = .ok (.ifCond .ne 5, 3) := by decide +kernel
theorem dX5_reasonToStay_68 : decode cX5_reasonToStay 68 = .ok (.iconst 4, 1) := by decide +kernel
theorem dX5_reasonToStay_69 : decode cX5_reasonToStay 69 = .ok (.ireturn, 1) := by decide +kernel
theorem dX5_reasonToStay_70 : decode cX5_reasonToStay 70 = .ok (.aload_n 3, 1) := by decide +kernel
theorem dX5_reasonToStay_71 : decode cX5_reasonToStay 71 = .ok (.ifnonnull 8, 3) := by decide +kernel
theorem dX5_reasonToStay_74 : decode cX5_reasonToStay 74 = .ok (.bipush 6, 2) := by decide +kernel
theorem dX5_reasonToStay_76 : decode cX5_reasonToStay 76 = .ok (.goto 4, 3) := by decide +kernel
theorem dX5_reasonToStay_79 : decode cX5_reasonToStay 79 = .ok (.iconst 5, 1) := by decide +kernel
theorem dX5_reasonToStay_80 : decode cX5_reasonToStay 80 = .ok (.ireturn, 1) := by decide +kernel
theorem dX5_total_0 : decode cX5_total 0 = .ok (.iload_n 1, 1) := by decide +kernel
theorem dX5_total_1 : decode cX5_total 1 = .ok (.tableswitch 100 0 8 #[51, 56, 61, 66, 71, 78, 84, 90, 95], 51) := by decide +kernel
theorem dX5_total_52 : decode cX5_total 52 = .ok (.aload_n 0, 1) := by decide +kernel
theorem dX5_total_53 : decode cX5_total 53 = .ok (.getfield 63, 3) := by decide +kernel
theorem dX5_total_56 : decode cX5_total 56 = .ok (.ireturn, 1) := by decide +kernel
theorem dX5_total_57 : decode cX5_total 57 = .ok (.aload_n 0, 1) := by decide +kernel
theorem dX5_total_58 : decode cX5_total 58 = .ok (.getfield 57, 3) := by decide +kernel
theorem dX5_total_61 : decode cX5_total 61 = .ok (.ireturn, 1) := by decide +kernel
theorem dX5_total_62 : decode cX5_total 62 = .ok (.aload_n 0, 1) := by decide +kernel
theorem dX5_total_63 : decode cX5_total 63 = .ok (.getfield 60, 3) := by decide +kernel
theorem dX5_total_66 : decode cX5_total 66 = .ok (.ireturn, 1) := by decide +kernel
theorem dX5_total_67 : decode cX5_total 67 = .ok (.aload_n 0, 1) := by decide +kernel
theorem dX5_total_68 : decode cX5_total 68 = .ok (.invokevirtual 201, 3) := by decide +kernel
theorem dX5_total_71 : decode cX5_total 71 = .ok (.ireturn, 1) := by decide +kernel
theorem dX5_total_72 : decode cX5_total 72 = .ok (.aload_n 0, 1) := by decide +kernel
theorem dX5_total_73 : decode cX5_total 73 = .ok (.bipush 6, 2) := by decide +kernel
theorem dX5_total_75 : decode cX5_total 75 = .ok (.invokevirtual 204, 3) := by decide +kernel
theorem dX5_total_78 : decode cX5_total 78 = .ok (.ireturn, 1) := by decide +kernel
theorem dX5_total_79 : decode cX5_total 79 = .ok (.aload_n 0, 1) := by decide +kernel
theorem dX5_total_80 : decode cX5_total 80 = .ok (.iconst 1, 1) := by decide +kernel
theorem dX5_total_81 : decode cX5_total 81 = .ok (.invokevirtual 207, 3) := by decide +kernel
theorem dX5_total_84 : decode cX5_total 84 = .ok (.ireturn, 1) := by decide +kernel
theorem dX5_total_85 : decode cX5_total 85 = .ok (.aload_n 0, 1) := by decide +kernel
theorem dX5_total_86 : decode cX5_total 86 = .ok (.iconst 5, 1) := by decide +kernel
theorem dX5_total_87 : decode cX5_total 87 = .ok (.invokevirtual 204, 3) := by decide +kernel
theorem dX5_total_90 : decode cX5_total 90 = .ok (.ireturn, 1) := by decide +kernel
theorem dX5_total_91 : decode cX5_total 91 = .ok (.aload_n 0, 1) := by decide +kernel
theorem dX5_total_92 : decode cX5_total 92 = .ok (.getfield 66, 3) := by decide +kernel
theorem dX5_total_95 : decode cX5_total 95 = .ok (.ireturn, 1) := by decide +kernel
theorem dX5_total_96 : decode cX5_total 96 = .ok (.aload_n 0, 1) := by decide +kernel
theorem dX5_total_97 : decode cX5_total 97 = .ok (.getfield 69, 3) := by decide +kernel
end
section
/-! THE STATE: one mathematical value for all ints that the system's cells hold, and the picture of it in the heap; all addresses are a base and an offset -/
def TW : List Cond := lw_tbl.filter goodWord
theorem tw {i : Nat} {w : Cond} (h : lw_tbl[i]? = some w) (g : goodWord w = true) : w ∈ TW := List.mem_filter.mpr ⟨List.mem_of_getElem? h, g⟩
theorem TW_in : ∀ w ∈ TW, w ∈ lw_tbl := fun _ h => (List.mem_filter.mp h).1
abbrev wsm (y : MethodName) (cb : ByteArray) (n : Nat) (r : Option FieldType) : List Cond := .code y cb n r :: TW
theorem good_TW {w : Cond} (h : w ∈ TW) : (w.onTables && w.keeps) = true ∨ ∃ ty, w = .arrayClass ty := good_of_word (List.mem_filter.mp h).2
theorem good_sub {y : MethodName} {cb : ByteArray} {n : Nat} {r : Option FieldType} (h : Cond.code y cb n r ∈ TW) : GoodIn TW (wsm y cb n r) := by
  intro w hw
  rcases List.mem_cons.mp hw with rfl | h1
  · exact ⟨h, good_TW h⟩
  · exact ⟨h1, good_TW h1⟩
theorem in_sub {w : Cond} {a : Cond} (h : w ∈ TW) : w ∈ a :: TW := List.mem_cons_of_mem _ h
abbrev EE : Type := va_G × (Nat → ClassId)
abbrev Row : Type := Nat → Int32
abbrev GS : Type := (Nat → Row) × Row × (Nat → Row) × Row
def tys (E : EE) : List (ClassId × FieldType) := [(E.2 0, .int), (E.2 1, .boolean), (E.2 2, .object RX0), (E.2 3, .object RX1), (E.2 4, .object RX5)]
/-- a world: n cells from B on, their contents by the function f -/
def wl (B n : Nat) (f : Nat → va_E) : va_W := (List.range n).map (fun o => (B + o, f o))
theorem wl_at {B n o : Nat} {f : Nat → va_E} (h : o < n) : (wl B n f)[o]? = some (B + o, f o) := by simp [wl, h]
theorem wl_len {B n : Nat} {f : Nat → va_E} : (wl B n f).length = n := by simp [wl]
theorem wl_set {B n o : Nat} {f : Nat → va_E} {e : va_E} (_h : o < n) : (wl B n f).set o (B + o, e) = wl B n (va_up f o e) := by
  apply List.ext_getElem?
  intro i
  by_cases hi : i < n
  · rw [wl_at hi, List.getElem?_set]
    by_cases ho : o = i
    · subst ho; simp [wl_len, hi, va_up]
    · have hne : ¬ i = o := fun q => ho q.symm
      rw [if_neg ho, wl_at hi]; simp [va_up, hne]
  · rw [List.getElem?_eq_none (by rw [List.length_set, wl_len]; omega), List.getElem?_eq_none (by rw [wl_len]; omega)]
theorem wl_push {B n : Nat} {f : Nat → va_E} {e : va_E} : wl B n f ++ [(B + n, e)] = wl B (n + 1) (va_up f n e) := by
  have h : (List.range n).map (fun o => (B + o, va_up f n e o)) = (List.range n).map (fun o => (B + o, f o)) := by
    apply List.map_congr_left
    intro o ho
    have := List.mem_range.mp ho
    rw [show va_up f n e o = f o from if_neg (by omega)]
  unfold wl
  rw [List.range_succ, List.map_append, h]
  simp [va_up]
abbrev fB (B : Nat) : Nat → Prop := fun q => B ≤ q
theorem wl_D {B n : Nat} {f : Nat → va_E} : va_D (fB B) (wl B n f) := by
  have key : ∀ (i : Nat) (p : Nat × va_E), (wl B n f)[i]? = some p → p.1 = B + i := by
    intro i p h
    have hi : i < n := by have := (List.getElem?_eq_some_iff.mp h).1; rwa [wl_len] at this
    rw [wl_at hi] at h
    cases h; rfl
  refine ⟨fun i j p q hi hj hpq => ?_, fun k q hk => ?_⟩
  · rw [key i p hi, key j q hj] at hpq; omega
  · show B ≤ q.1
    rw [key k q hk]; omega
def upW (g : GS) (k : Nat) (w : Row) : GS := (fun k' => if k' = k then w else g.1 k', g.2)
def upC (g : GS) (c : Row) : GS := (g.1, c, g.2.2)
def upS (g : GS) (t : Nat) (w : Row) : GS := (g.1, g.2.1, fun t' => if t' = t then w else g.2.2.1 t', g.2.2.2)
def upR (g : GS) (r : Row) : GS := (g.1, g.2.1, g.2.2.1, r)
/-- the first n of a row -/
def tr (n : Nat) (f : Row) : Row := fun j => if j < n then f j else 0
theorem tr_at {n j : Nat} {f : Row} (h : j < n) : tr n f j = f j := if_pos h
/-- where the cells of the world k begin -/
def wo (k : Nat) : Nat := if k < 2 then 1 + 41 * k else if k < 9 then 85 + 41 * (k - 2) else 373 + 41 * (k - 9)
def rfs (n : Nat) (f : Nat → Nat) : (Nat → Int32) ⊕ (Nat → Int64) ⊕ (Nat → UInt32) ⊕ (Nat → UInt64) ⊕ (Nat → Option Nat) := .inr (.inr (.inr (.inr (fun j => if j < n then some (f j) else none))))
def pw (E : EE) (B k : Nat) (w : Row) (r : Nat) : va_E :=
  if r = 0 then .inr (5, [.ref (B + (wo k + 1)), .ref (B + (wo k + 2)), .ref (B + (wo k + 3)), .ref (B + (wo k + 4)), .int (w 10), .int (w 5), .int (w 6), .int (w 7), .int (w 4), .int (w 8), .int (w 9)])
  else if r = 1 then .inl (E.2 0, 4, .inl (tr 4 w))
  else if r = 2 then .inl (E.2 2, 12, rfs 12 (fun i => B + (wo k + (5 + i))))
  else if r = 3 then .inl (E.2 3, 8, rfs 8 (fun i => B + (wo k + (17 + 3 * i))))
  else if r = 4 then .inl (E.2 0, 8, .inl (tr 8 (fun j => w (12 + j))))
  else if r < 17 then .inr (0, [.int (nI (r - 5)), .int (w (20 + 7 * (r - 5))), .int (w (20 + 7 * (r - 5) + 1)), .int (w (20 + 7 * (r - 5) + 2)), .int (w (20 + 7 * (r - 5) + 3)), .int (w (360 + (r - 5))), .int (w (20 + 7 * (r - 5) + 4)), .int (w (20 + 7 * (r - 5) + 5)), .int (w (20 + 7 * (r - 5) + 6))])
  else if (r - 17) % 3 = 0 then .inr (1, [.int (nI ((r - 17) / 3)), .int (w (104 + 8 * ((r - 17) / 3))), .int (w (104 + 8 * ((r - 17) / 3) + 1)), .int (w (104 + 8 * ((r - 17) / 3) + 2)), .int (w (104 + 8 * ((r - 17) / 3) + 3)), .int (w (104 + 8 * ((r - 17) / 3) + 4)), .int (w (104 + 8 * ((r - 17) / 3) + 5)), .int (w (104 + 8 * ((r - 17) / 3) + 6)), .int (w (104 + 8 * ((r - 17) / 3) + 7)), .ref (B + (wo k + (18 + 3 * ((r - 17) / 3)))), .ref (B + (wo k + (19 + 3 * ((r - 17) / 3))))])
  else if (r - 17) % 3 = 1 then .inl (E.2 0, 12, .inl (tr 12 (fun j => w (168 + 2 * (12 * ((r - 17) / 3) + j)))))
  else .inl (E.2 0, 12, .inl (tr 12 (fun j => w (168 + 2 * (12 * ((r - 17) / 3) + j) + 1))))
def pcT (E : EE) (B : Nat) (g : GS) (o : Nat) : va_E :=
  if o = 0 then .inr (6, [.ref (B + wo 0), .ref (B + wo 1), .ref (B + 83), .ref (B + 372), .ref (B + 455), .ref (B + 456), .ref (B + 458)])
  else if o < 83 then pw E B ((o - 1) / 41) (g.1 ((o - 1) / 41)) ((o - 1) % 41)
  else if o = 83 then .inr (2, [.ref (B + 84), .int (g.2.1 0), .int (g.2.1 1)])
  else if o = 84 then .inl (E.2 4, 7, rfs 7 (fun i => B + wo (2 + i)))
  else if o < 372 then pw E B (2 + (o - 85) / 41) (g.1 (2 + (o - 85) / 41)) ((o - 85) % 41)
  else if o = 372 then .inl (E.2 4, 2, rfs 2 (fun i => B + wo (9 + i)))
  else if o < 455 then pw E B (9 + (o - 373) / 41) (g.1 (9 + (o - 373) / 41)) ((o - 373) % 41)
  else if o = 455 then .inl (E.2 1, 2, .inl (tr 2 (fun j => g.2.1 (10 + j))))
  else if o = 456 then .inr (4, [.ref (B + 457), .int (g.2.1 3)])
  else if o = 457 then .inl (E.2 0, 80, .inl (tr 80 (fun j => g.2.1 (100 + j))))
  else if o = 458 then .inr (3, [.ref (B + 456), .int (g.2.1 4), .int (g.2.1 5), .int (g.2.1 6), .int (g.2.1 7), .int (g.2.1 8)])
  else if o = 459 then .inr (7, [.ref (B + 460), .int (g.2.2.2 0), .ref (B + 461), .ref (B + 462), .int (g.2.2.2 1), .int (g.2.2.2 2), .int (g.2.2.2 3), .int (g.2.2.2 4), .int (g.2.2.2 5), .int (g.2.2.2 6), .ref (B + 463)])
  else if o = 460 then .inl (E.2 0, 3600, .inl (tr 3600 (fun j => g.2.2.1 (j / 360) (j % 360))))
  else if o = 461 then .inl (E.2 1, 2, .inl (tr 2 (fun j => g.2.2.2 (10 + j))))
  else if o = 462 then .inl (E.2 0, 80, .inl (tr 80 (fun j => g.2.2.2 (100 + j))))
  else .inl (E.2 0, 8, .inl (tr 8 (fun j => g.2.2.2 (200 + j))))
/-- which cell of a world holds the int j -/
def ow (j : Nat) : Nat := if j < 4 then 1 else if j < 12 then 0 else if j < 20 then 4 else if j < 104 then 5 + (j - 20) / 7 else if j < 168 then 17 + 3 * ((j - 104) / 8) else if j < 360 then 18 + 3 * ((j - 168) / 24) + (j - 168) % 2 else 5 + (j - 360)
theorem upd_ow {w : Row} {j r i : Nat} {v : Int32} (h : ¬ r = ow j) (hi : ow i = r) : upd w j v i = w i := if_neg (fun q => h (by rw [← q]; exact hi.symm))
theorem pw_ow {E : EE} {B k j r : Nat} {w : Row} {v : Int32} (h : ¬ r = ow j) (hr : r < 41) : pw E B k (upd w j v) r = pw E B k w r := by
  have U : ∀ i, ow i = r → upd w j v i = w i := fun i hi => upd_ow h hi
  unfold pw
  by_cases h0 : r = 0
  · subst h0
    simp only [if_true]
    rw [U 10 (by decide), U 5 (by decide), U 6 (by decide), U 7 (by decide), U 4 (by decide), U 8 (by decide), U 9 (by decide)]
  rw [if_neg h0, if_neg h0]
  by_cases h1 : r = 1
  · subst h1
    have e : tr 4 (upd w j v) = tr 4 w := by
      funext i
      unfold tr
      by_cases hi : i < 4
      · rw [if_pos hi, if_pos hi]; exact U i (by unfold ow; rw [if_pos hi])
      · rw [if_neg hi, if_neg hi]
    rw [if_pos rfl, if_pos rfl, e]
  rw [if_neg h1, if_neg h1]
  by_cases h2 : r = 2
  · rw [if_pos h2, if_pos h2]
  rw [if_neg h2, if_neg h2]
  by_cases h3 : r = 3
  · rw [if_pos h3, if_pos h3]
  rw [if_neg h3, if_neg h3]
  by_cases h4 : r = 4
  · subst h4
    have e : tr 8 (fun i => upd w j v (12 + i)) = tr 8 (fun i => w (12 + i)) := by
      funext i
      unfold tr
      by_cases hi : i < 8
      · rw [if_pos hi, if_pos hi]; exact U (12 + i) (by unfold ow; rw [if_neg (by omega), if_neg (by omega), if_pos (by omega)])
      · rw [if_neg hi, if_neg hi]
    rw [if_pos rfl, if_pos rfl, e]
  rw [if_neg h4, if_neg h4]
  by_cases h5 : r < 17
  · have V : ∀ f, f < 7 → upd w j v (20 + 7 * (r - 5) + f) = w (20 + 7 * (r - 5) + f) := fun f hf => U _ (by
      unfold ow; rw [if_neg (by omega), if_neg (by omega), if_neg (by omega), if_pos (by omega)]; omega)
    rw [if_pos h5, if_pos h5, V 1 (by omega), V 2 (by omega), V 3 (by omega), V 4 (by omega), V 5 (by omega), V 6 (by omega), show upd w j v (20 + 7 * (r - 5)) = w (20 + 7 * (r - 5)) from V 0 (by omega),
      U (360 + (r - 5)) (by unfold ow; rw [if_neg (by omega), if_neg (by omega), if_neg (by omega), if_neg (by omega), if_neg (by omega), if_neg (by omega)]; omega)]
  rw [if_neg h5, if_neg h5]
  by_cases h6 : (r - 17) % 3 = 0
  · have V : ∀ f, f < 8 → upd w j v (104 + 8 * ((r - 17) / 3) + f) = w (104 + 8 * ((r - 17) / 3) + f) := fun f hf => U _ (by
      unfold ow; rw [if_neg (by omega), if_neg (by omega), if_neg (by omega), if_neg (by omega), if_pos (by omega)]; omega)
    rw [if_pos h6, if_pos h6, V 1 (by omega), V 2 (by omega), V 3 (by omega), V 4 (by omega), V 5 (by omega), V 6 (by omega), V 7 (by omega), show upd w j v (104 + 8 * ((r - 17) / 3)) = w (104 + 8 * ((r - 17) / 3)) from V 0 (by omega)]
  rw [if_neg h6, if_neg h6]
  by_cases h7 : (r - 17) % 3 = 1
  · rw [if_pos h7, if_pos h7]
    have e : tr 12 (fun i => upd w j v (168 + 2 * (12 * ((r - 17) / 3) + i))) = tr 12 (fun i => w (168 + 2 * (12 * ((r - 17) / 3) + i))) := by
      funext i
      unfold tr
      by_cases hi : i < 12
      · rw [if_pos hi, if_pos hi]; exact U _ (by unfold ow; rw [if_neg (by omega), if_neg (by omega), if_neg (by omega), if_neg (by omega), if_neg (by omega), if_pos (by omega)]; omega)
      · rw [if_neg hi, if_neg hi]
    rw [e]
  rw [if_neg h7, if_neg h7]
  have e : tr 12 (fun i => upd w j v (168 + 2 * (12 * ((r - 17) / 3) + i) + 1)) = tr 12 (fun i => w (168 + 2 * (12 * ((r - 17) / 3) + i) + 1)) := by
    funext i
    unfold tr
    by_cases hi : i < 12
    · rw [if_pos hi, if_pos hi]; exact U _ (by unfold ow; rw [if_neg (by omega), if_neg (by omega), if_neg (by omega), if_neg (by omega), if_neg (by omega), if_pos (by omega)]; omega)
    · rw [if_neg hi, if_neg hi]
  rw [e]

theorem wo_lt {k : Nat} (hk : k < 11) : 1 ≤ wo k ∧ wo k + 41 ≤ 455 := by unfold wo; split <;> (try split) <;> omega
theorem wo_apart {k k' : Nat} (hk : k < 11) (hk' : k' < 11) (h : ¬ k = k') : wo k + 41 ≤ wo k' ∨ wo k' + 41 ≤ wo k := by
  unfold wo
  by_cases a : k < 2 <;> by_cases b : k' < 2 <;> by_cases c : k < 9 <;> by_cases d : k' < 9 <;> simp only [a, b, c, d, if_true, if_false] <;> omega
theorem wo_inj {k k' r r' : Nat} (hk : k < 11) (hk' : k' < 11) (hr : r < 41) (hr' : r' < 41) (h : wo k + r = wo k' + r') : k = k' ∧ r = r' := by
  by_cases e : k = k'
  · subst e; exact ⟨rfl, by omega⟩
  · have := wo_apart hk hk' e; omega
/-- an offset below 459 is that of a world's cell, or one of these -/
def inW (o : Nat) : Prop := (1 ≤ o ∧ o < 83) ∨ (85 ≤ o ∧ o < 372) ∨ (373 ≤ o ∧ o < 455)
theorem inW_of {o : Nat} (h : inW o) : ∃ k r, k < 11 ∧ r < 41 ∧ o = wo k + r := by
  rcases h with h | h | h
  · refine ⟨(o - 1) / 41, (o - 1) % 41, by omega, by omega, ?_⟩
    unfold wo; rw [if_pos (by omega)]; omega
  · refine ⟨2 + (o - 85) / 41, (o - 85) % 41, by omega, by omega, ?_⟩
    unfold wo; rw [if_neg (by omega), if_pos (by omega)]; omega
  · refine ⟨9 + (o - 373) / 41, (o - 373) % 41, by omega, by omega, ?_⟩
    unfold wo; rw [if_neg (by omega), if_neg (by omega)]; omega
theorem wo_inW {k r : Nat} (hk : k < 11) (hr : r < 41) : inW (wo k + r) := by
  unfold inW wo
  by_cases a : k < 2 <;> by_cases c : k < 9 <;> simp only [a, c, if_true, if_false] <;> omega
theorem pcT_W {E : EE} {B k r : Nat} {g : GS} (hk : k < 11) (hr : r < 41) : pcT E B g (wo k + r) = pw E B k (g.1 k) r := by
  unfold wo
  by_cases a : k < 2
  · rw [if_pos a]
    unfold pcT
    rw [if_neg (by omega), if_pos (by omega), show (1 + 41 * k + r - 1) / 41 = k by omega, show (1 + 41 * k + r - 1) % 41 = r by omega]
  rw [if_neg a]
  by_cases b : k < 9
  · rw [if_pos b]
    unfold pcT
    rw [if_neg (by omega), if_neg (by omega), if_neg (by omega), if_neg (by omega), if_pos (by omega), show 2 + (85 + 41 * (k - 2) + r - 85) / 41 = k by omega, show (85 + 41 * (k - 2) + r - 85) % 41 = r by omega]
  · rw [if_neg b]
    unfold pcT
    rw [if_neg (by omega), if_neg (by omega), if_neg (by omega), if_neg (by omega), if_neg (by omega), if_neg (by omega), if_pos (by omega), show 9 + (373 + 41 * (k - 9) + r - 373) / 41 = k by omega, show (373 + 41 * (k - 9) + r - 373) % 41 = r by omega]
/-- cells that no world has are the same whatever the worlds hold -/
theorem pcT_notW {E : EE} {B o : Nat} {g : GS} {f : Nat → Row} (h : ¬ inW o) : pcT E B (f, g.2) o = pcT E B g o := by
  unfold inW at h
  unfold pcT
  by_cases h0 : o = 0
  · rw [if_pos h0, if_pos h0]
  rw [if_neg h0, if_neg h0, if_neg (show ¬ o < 83 by omega), if_neg (show ¬ o < 83 by omega)]
  by_cases h1 : o = 83
  · rw [if_pos h1, if_pos h1]
  rw [if_neg h1, if_neg h1]
  by_cases h2 : o = 84
  · rw [if_pos h2, if_pos h2]
  rw [if_neg h2, if_neg h2, if_neg (show ¬ o < 372 by omega), if_neg (show ¬ o < 372 by omega)]
  by_cases h3 : o = 372
  · rw [if_pos h3, if_pos h3]
  rw [if_neg h3, if_neg h3, if_neg (show ¬ o < 455 by omega), if_neg (show ¬ o < 455 by omega)]
theorem upW_1 {g : GS} {k : Nat} {w : Row} : (upW g k w).1 k = w := if_pos rfl
theorem upW_ne {g : GS} {k k' : Nat} {w : Row} (h : ¬ k' = k) : (upW g k w).1 k' = g.1 k' := if_neg h
theorem upW_self {g : GS} {k : Nat} : upW g k (g.1 k) = g := by
  unfold upW
  refine Prod.ext (funext fun k' => ?_) rfl
  show (if k' = k then g.1 k else g.1 k') = g.1 k'
  by_cases h : k' = k
  · rw [if_pos h, h]
  · rw [if_neg h]
theorem upW_upW {g : GS} {k : Nat} {w w' : Row} : upW (upW g k w) k w' = upW g k w' := by
  unfold upW
  refine Prod.ext (funext fun k' => ?_) rfl
  show (if k' = k then w' else if k' = k then w else g.1 k') = if k' = k then w' else g.1 k'
  by_cases h : k' = k
  · rw [if_pos h, if_pos h]
  · rw [if_neg h, if_neg h, if_neg h]
/-- a store into a world's cell, in the picture -/
theorem pcT_up {E : EE} {B k j : Nat} {g : GS} {w : Row} {v : Int32} {e : va_E} (hk : k < 11) (hj : ow j < 41) (he : pw E B k (upd w j v) (ow j) = e) : va_up (pcT E B (upW g k w)) (wo k + ow j) e = pcT E B (upW g k (upd w j v)) := by
  funext o
  by_cases ho : o = wo k + ow j
  · subst ho
    rw [pcT_W hk hj, upW_1, he]; exact if_pos rfl
  · rw [show va_up (pcT E B (upW g k w)) (wo k + ow j) e o = pcT E B (upW g k w) o from if_neg ho]
    by_cases hi : inW o
    · obtain ⟨k', r, hk', hr, rfl⟩ := inW_of hi
      rw [pcT_W hk' hr, pcT_W hk' hr]
      by_cases hkk : k' = k
      · subst hkk
        rw [upW_1, upW_1, pw_ow (fun q => ho (by rw [q])) hr]
      · rw [upW_ne hkk, upW_ne hkk]
    · exact (pcT_notW (g := g) hi).trans (pcT_notW (g := g) hi).symm
end
section
/-! the other cells of the picture -/
theorem pcT_0 {E : EE} {B : Nat} {g : GS} : pcT E B g 0 = .inr (6, [.ref (B + wo 0), .ref (B + wo 1), .ref (B + 83), .ref (B + 372), .ref (B + 455), .ref (B + 456), .ref (B + 458)]) := rfl
theorem pcT_83 {E : EE} {B : Nat} {g : GS} : pcT E B g 83 = .inr (2, [.ref (B + 84), .int (g.2.1 0), .int (g.2.1 1)]) := rfl
theorem pcT_84 {E : EE} {B : Nat} {g : GS} : pcT E B g 84 = .inl (E.2 4, 7, rfs 7 (fun i => B + wo (2 + i))) := rfl
theorem pcT_372 {E : EE} {B : Nat} {g : GS} : pcT E B g 372 = .inl (E.2 4, 2, rfs 2 (fun i => B + wo (9 + i))) := rfl
theorem pcT_455 {E : EE} {B : Nat} {g : GS} : pcT E B g 455 = .inl (E.2 1, 2, .inl (tr 2 (fun j => g.2.1 (10 + j)))) := rfl
theorem pcT_456 {E : EE} {B : Nat} {g : GS} : pcT E B g 456 = .inr (4, [.ref (B + 457), .int (g.2.1 3)]) := rfl
theorem pcT_457 {E : EE} {B : Nat} {g : GS} : pcT E B g 457 = .inl (E.2 0, 80, .inl (tr 80 (fun j => g.2.1 (100 + j)))) := rfl
theorem pcT_458 {E : EE} {B : Nat} {g : GS} : pcT E B g 458 = .inr (3, [.ref (B + 456), .int (g.2.1 4), .int (g.2.1 5), .int (g.2.1 6), .int (g.2.1 7), .int (g.2.1 8)]) := rfl
theorem pcT_459 {E : EE} {B : Nat} {g : GS} : pcT E B g 459 = .inr (7, [.ref (B + 460), .int (g.2.2.2 0), .ref (B + 461), .ref (B + 462), .int (g.2.2.2 1), .int (g.2.2.2 2), .int (g.2.2.2 3), .int (g.2.2.2 4), .int (g.2.2.2 5), .int (g.2.2.2 6), .ref (B + 463)]) := rfl
theorem pcT_460 {E : EE} {B : Nat} {g : GS} : pcT E B g 460 = .inl (E.2 0, 3600, .inl (tr 3600 (fun j => g.2.2.1 (j / 360) (j % 360)))) := rfl
theorem pcT_461 {E : EE} {B : Nat} {g : GS} : pcT E B g 461 = .inl (E.2 1, 2, .inl (tr 2 (fun j => g.2.2.2 (10 + j)))) := rfl
theorem pcT_462 {E : EE} {B : Nat} {g : GS} : pcT E B g 462 = .inl (E.2 0, 80, .inl (tr 80 (fun j => g.2.2.2 (100 + j)))) := rfl
theorem pcT_463 {E : EE} {B : Nat} {g : GS} : pcT E B g 463 = .inl (E.2 0, 8, .inl (tr 8 (fun j => g.2.2.2 (200 + j)))) := rfl
theorem pcT_off {E : EE} {B o : Nat} {g : GS} (h : ¬ inW o) (h2 : o < 464) : o = 0 ∨ o = 83 ∨ o = 84 ∨ o = 372 ∨ o = 455 ∨ o = 456 ∨ o = 457 ∨ o = 458 ∨ o = 459 ∨ o = 460 ∨ o = 461 ∨ o = 462 ∨ o = 463 := by
  unfold inW at h; omega
/-- which cell holds the int j of the class's other cells, of the reference's -/
def oc (j : Nat) : Nat := if j < 2 then 83 else if j < 4 then 456 else if j < 9 then 458 else if j < 12 then 455 else 457
def oR (j : Nat) : Nat := if j < 7 then 459 else if j < 12 then 461 else if j < 200 then 462 else 463
theorem tr_eq {n : Nat} {f f' : Row} (h : ∀ j, j < n → f j = f' j) : tr n f = tr n f' := by
  funext j
  unfold tr
  by_cases hj : j < n
  · rw [if_pos hj, if_pos hj, h j hj]
  · rw [if_neg hj, if_neg hj]
theorem pcT_C {E : EE} {B j o : Nat} {g : GS} {c : Row} {v : Int32} (h : ¬ o = oc j) (ho : o < 464) : pcT E B (upC g (upd c j v)) o = pcT E B (upC g c) o := by
  have U : ∀ i, oc i = o → upd c j v i = c i := fun i hi => if_neg (fun q => h (by rw [← q]; exact hi.symm))
  by_cases hi : inW o
  · obtain ⟨k', r, hk', hr, rfl⟩ := inW_of hi
    rw [pcT_W hk' hr, pcT_W hk' hr]; rfl
  rcases pcT_off (E := E) (B := B) (g := g) hi ho with rfl | rfl | rfl | rfl | rfl | rfl | rfl | rfl | rfl | rfl | rfl | rfl | rfl
  · rfl
  · rw [pcT_83, pcT_83]; show Sum.inr (2, [Value.ref (B + 84), .int (upd c j v 0), .int (upd c j v 1)]) = _; rw [U 0 rfl, U 1 rfl]; rfl
  · rfl
  · rfl
  · rw [pcT_455, pcT_455]; show Sum.inl (E.2 1, 2, Sum.inl (tr 2 (fun i => upd c j v (10 + i)))) = _; rw [tr_eq (f' := fun i => c (10 + i)) (fun i hi => U (10 + i) (by unfold oc; rw [if_neg (by omega), if_neg (by omega), if_neg (by omega), if_pos (by omega)]))]; rfl
  · rw [pcT_456, pcT_456]; show Sum.inr (4, [Value.ref (B + 457), .int (upd c j v 3)]) = _; rw [U 3 rfl]; rfl
  · rw [pcT_457, pcT_457]; show Sum.inl (E.2 0, 80, Sum.inl (tr 80 (fun i => upd c j v (100 + i)))) = _; rw [tr_eq (f' := fun i => c (100 + i)) (fun i hi => U (100 + i) (by unfold oc; rw [if_neg (by omega), if_neg (by omega), if_neg (by omega), if_neg (by omega)]))]; rfl
  · rw [pcT_458, pcT_458]; show Sum.inr (3, [Value.ref (B + 456), .int (upd c j v 4), .int (upd c j v 5), .int (upd c j v 6), .int (upd c j v 7), .int (upd c j v 8)]) = _; rw [U 4 rfl, U 5 rfl, U 6 rfl, U 7 rfl, U 8 rfl]; rfl
  · rfl
  · rfl
  · rfl
  · rfl
  · rfl
theorem pcT_R {E : EE} {B j o : Nat} {g : GS} {c : Row} {v : Int32} (h : ¬ o = oR j) (ho : o < 464) : pcT E B (upR g (upd c j v)) o = pcT E B (upR g c) o := by
  have U : ∀ i, oR i = o → upd c j v i = c i := fun i hi => if_neg (fun q => h (by rw [← q]; exact hi.symm))
  by_cases hi : inW o
  · obtain ⟨k', r, hk', hr, rfl⟩ := inW_of hi
    rw [pcT_W hk' hr, pcT_W hk' hr]; rfl
  rcases pcT_off (E := E) (B := B) (g := g) hi ho with rfl | rfl | rfl | rfl | rfl | rfl | rfl | rfl | rfl | rfl | rfl | rfl | rfl
  · rfl
  · rfl
  · rfl
  · rfl
  · rfl
  · rfl
  · rfl
  · rfl
  · rw [pcT_459, pcT_459]; show Sum.inr (7, [Value.ref (B + 460), .int (upd c j v 0), .ref (B + 461), .ref (B + 462), .int (upd c j v 1), .int (upd c j v 2), .int (upd c j v 3), .int (upd c j v 4), .int (upd c j v 5), .int (upd c j v 6), .ref (B + 463)]) = _; rw [U 0 rfl, U 1 rfl, U 2 rfl, U 3 rfl, U 4 rfl, U 5 rfl, U 6 rfl]; rfl
  · rfl
  · rw [pcT_461, pcT_461]; show Sum.inl (E.2 1, 2, Sum.inl (tr 2 (fun i => upd c j v (10 + i)))) = _; rw [tr_eq (f' := fun i => c (10 + i)) (fun i hi => U (10 + i) (by unfold oR; rw [if_neg (by omega), if_pos (by omega)]))]; rfl
  · rw [pcT_462, pcT_462]; show Sum.inl (E.2 0, 80, Sum.inl (tr 80 (fun i => upd c j v (100 + i)))) = _; rw [tr_eq (f' := fun i => c (100 + i)) (fun i hi => U (100 + i) (by unfold oR; rw [if_neg (by omega), if_neg (by omega), if_pos (by omega)]))]; rfl
  · rw [pcT_463, pcT_463]; show Sum.inl (E.2 0, 8, Sum.inl (tr 8 (fun i => upd c j v (200 + i)))) = _; rw [tr_eq (f' := fun i => c (200 + i)) (fun i hi => U (200 + i) (by unfold oR; rw [if_neg (by omega), if_neg (by omega), if_neg (by omega)]))]; rfl
/-- the rows of the reference stand in one array -/
theorem pcT_S {E : EE} {B o : Nat} {g : GS} {t : Nat} {w : Row} (h : ¬ o = 460) (ho : o < 464) : pcT E B (upS g t w) o = pcT E B g o := by
  by_cases hi : inW o
  · obtain ⟨k', r, hk', hr, rfl⟩ := inW_of hi
    rw [pcT_W hk' hr, pcT_W hk' hr]; rfl
  rcases pcT_off (E := E) (B := B) (g := g) hi ho with rfl | rfl | rfl | rfl | rfl | rfl | rfl | rfl | rfl | rfl | rfl | rfl | rfl <;> first | rfl | exact absurd rfl h
theorem upS_1 {g : GS} {k : Nat} {w : Row} : (upS g k w).2.2.1 k = w := if_pos rfl
theorem upS_ne {g : GS} {k k' : Nat} {w : Row} (h : ¬ k' = k) : (upS g k w).2.2.1 k' = g.2.2.1 k' := if_neg h
theorem upS_fun {t : Nat} {f : Nat → Row} (k : Nat) (w : Row) (h : f t = w ∨ ¬ t = k) : True := trivial
theorem upS_self {g : GS} {k : Nat} : upS g k (g.2.2.1 k) = g := by
  unfold upS
  have : (fun t' => if t' = k then g.2.2.1 k else g.2.2.1 t') = g.2.2.1 := by
    funext k'
    by_cases h : k' = k
    · rw [if_pos h, h]
    · rw [if_neg h]
  rw [this]
theorem upS_upS {g : GS} {k : Nat} {w w' : Row} : upS (upS g k w) k w' = upS g k w' := by
  have : (fun t' => if t' = k then w' else (upS g k w).2.2.1 t') = (fun t' => if t' = k then w' else g.2.2.1 t') := by
    funext k'
    by_cases h : k' = k
    · rw [if_pos h, if_pos h]
    · rw [if_neg h, if_neg h]; exact upS_ne h
  show ((upS g k w).1, (upS g k w).2.1, (fun t' => if t' = k then w' else (upS g k w).2.2.1 t'), (upS g k w).2.2.2) = _
  rw [this]; rfl
theorem pcT_upC {E : EE} {B j : Nat} {g : GS} {c : Row} {v : Int32} {e : va_E} (hj : oc j < 464) (he : pcT E B (upC g (upd c j v)) (oc j) = e) : wl B 464 (va_up (pcT E B (upC g c)) (oc j) e) = wl B 464 (pcT E B (upC g (upd c j v))) := by
  apply List.map_congr_left
  intro o ho
  have hl := List.mem_range.mp ho
  by_cases h : o = oc j
  · subst h; rw [he]; exact congrArg _ (if_pos rfl)
  · rw [pcT_C h hl]; exact congrArg _ (if_neg h)
theorem pcT_upR {E : EE} {B j : Nat} {g : GS} {c : Row} {v : Int32} {e : va_E} (hj : oR j < 464) (he : pcT E B (upR g (upd c j v)) (oR j) = e) : wl B 464 (va_up (pcT E B (upR g c)) (oR j) e) = wl B 464 (pcT E B (upR g (upd c j v))) := by
  apply List.map_congr_left
  intro o ho
  have hl := List.mem_range.mp ho
  by_cases h : o = oR j
  · subst h; rw [he]; exact congrArg _ (if_pos rfl)
  · rw [pcT_R h hl]; exact congrArg _ (if_neg h)
theorem pcT_upS {E : EE} {B t : Nat} {g : GS} {w w' : Row} {e : va_E} (he : pcT E B (upS g t w') 460 = e) : wl B 464 (va_up (pcT E B (upS g t w)) 460 e) = wl B 464 (pcT E B (upS g t w')) := by
  apply List.map_congr_left
  intro o ho
  have hl := List.mem_range.mp ho
  by_cases h : o = 460
  · subst h; rw [he]; exact congrArg _ (if_pos rfl)
  · rw [pcT_S h hl]; refine congrArg _ ((if_neg h).trans (pcT_S h hl))
end
section
/-! the machine's rows over that picture -/
def NW (U : State) : Prop := va_Nw (.fieldLinkNest RX5 34 RX6 "FIRST_SETTINGS" "[I" RX6) U ∧ va_Nw (.fieldLinkNest RX5 76 RX6 "LEAST_SETTINGS" "[I" RX6) U ∧ va_Nw (.fieldLinkNest RX5 79 RX6 "MOST_SETTINGS" "[I" RX6) U ∧ va_Nw (.methodLinkNest RX6 36 yX4_init RX6) U ∧ va_Nw (.methodLinkNest RX5 72 yX6_isBelow RX6) U ∧ va_AO RX0 U ∧ va_AO RX1 U ∧ va_AO RX5 U
theorem NW.warm {s U : State} (hW : s.WarmedH U.vm) (h : NW s) : NW U := ⟨va_Nw.warmF hW h.1, va_Nw.warmF hW h.2.1, va_Nw.warmF hW h.2.2.1, va_Nw.warmM hW h.2.2.2.1, va_Nw.warmM hW h.2.2.2.2.1, va_AO.moved hW.alike h.2.2.2.2.2.1, va_AO.moved hW.alike h.2.2.2.2.2.2.1, va_AO.moved hW.alike h.2.2.2.2.2.2.2⟩
theorem va_AO.same {C : String} {u U : State} (h : u.vm = U.vm) (hz : va_AO C u) : va_AO C U := va_AO.moved (by rw [h]; exact Vm.Alike.refl _) hz
theorem NW.same {s U : State} (hW : s.vm = U.vm) (h : NW s) : NW U := ⟨va_Nw.same rfl hW h.1, va_Nw.same rfl hW h.2.1, va_Nw.same rfl hW h.2.2.1, va_Nw.same rfl hW h.2.2.2.1, va_Nw.same rfl hW h.2.2.2.2.1, va_AO.same hW h.2.2.2.2.2.1, va_AO.same hW h.2.2.2.2.2.2.1, va_AO.same hW h.2.2.2.2.2.2.2⟩
/-- the three rows of numbers that the class keeps as statics -/
def st_first : Row := fun j => match j with | 0 => 3 | 1 => 1 | 2 => 2 | _ => 5
def st_least : Row := fun j => match j with | 0 => 0 | 1 => 0 | 2 => 0 | _ => 1
def st_most : Row := fun j => match j with | 0 => 50 | 1 => 20 | 2 => 50 | _ => 20
def ST1 (n : String) (f : Row) (B : Nat) (U : State) (H : Heap) : Prop := ∃ t : Nat, va_Z RX6 n "[I" (.ref t) (fB B) U H ∧ va_T .int t 4 (fun j => .int (f j)) (fB B) U H
def ST (B : Nat) (U : State) (H : Heap) : Prop := ST1 "FIRST_SETTINGS" st_first B U H ∧ ST1 "LEAST_SETTINGS" st_least B U H ∧ ST1 "MOST_SETTINGS" st_most B U H
theorem ST1.to {n : String} {f : Row} {B : Nat} {u U : State} {H H1 : Heap} (hvm : u.vm.Alike U.vm) (hq : ∀ a : Nat, a < H.size → ¬ fB B a → H1[a]? = H[a]?) (h : ST1 n f B u H) : ST1 n f B U H1 := by
  obtain ⟨t, h1, h2⟩ := h
  exact ⟨t, (h1.moved hvm).kept hq, (h2.moved hvm).kept hq⟩
theorem ST.to {B : Nat} {u U : State} {H H1 : Heap} (hvm : u.vm.Alike U.vm) (hq : ∀ a : Nat, a < H.size → ¬ fB B a → H1[a]? = H[a]?) (h : ST B u H) : ST B U H1 := ⟨h.1.to hvm hq, h.2.1.to hvm hq, h.2.2.to hvm hq⟩
def BPx (E : EE) (B : Nat) (U : State) : Prop := va_K E.1 vwCl (tys E) U ∧ NW U ∧ ST B U U.heap ∧ B ≤ U.heap.size
def BP (E : EE) (B n : Nat) (f : Nat → va_E) (U : State) : Prop := va_P E.1 vwCl (wl B n f) U.heap ∧ BPx E B U ∧ U.heap.size = B + n
theorem BPx.at {E : EE} {B : Nat} {s U : State} {H : Heap} {locs : List Loc} (h : BPx E B s) (hS : va_S (fB B) s.heap H locs) (hU : U.heap = H) (hW : s.WarmedH U.vm) : BPx E B U := by
  obtain ⟨h1, h2, h3, h4⟩ := h
  refine ⟨va_K.moved hW.alike h1, h2.warm hW, ?_, ?_⟩
  · rw [hU]; exact h3.to hW.alike (fun a ha hn => hS.2.1 a ha hn)
  · rw [hU]; exact Nat.le_trans h4 hS.1
theorem BPx.same {E : EE} {B : Nat} {s U : State} (h : BPx E B s) (hU : U.heap = s.heap) (hv : s.vm = U.vm) : BPx E B U := by
  obtain ⟨h1, h2, h3, h4⟩ := h
  have ha : s.vm.Alike U.vm := by rw [hv]; exact Vm.Alike.refl _
  refine ⟨va_K.moved ha h1, h2.same hv, ?_, by rw [hU]; exact h4⟩
  rw [hU]; exact h3.to ha (fun _ _ _ => rfl)
def JL (E : EE) (B : Nat) (s : State) (n : Nat) (f : Nat → va_E) (H : Heap) (locs : List Loc) : Prop := va_P E.1 vwCl (wl B n f) H ∧ va_S (fB B) s.heap H locs ∧ H.size = B + n
abbrev JG (E : EE) (B : Nat) (s : State) (g : GS) (H : Heap) (locs : List Loc) : Prop := JL E B s 464 (pcT E B g) H locs
theorem JL.BP {E : EE} {B n : Nat} {s U : State} {f : Nat → va_E} {H : Heap} {locs : List Loc} (h : JL E B s n f H locs) (hx : BPx E B s) (hU : U.heap = H) (hW : s.WarmedH U.vm) : BP E B n f U := ⟨by rw [hU]; exact h.1, hx.at h.2.1 hU hW, by rw [hU]; exact h.2.2⟩
def Cx (p : Program) (s : State) (m : MethodId) (args : Array Value) (c : Code) (cc : ByteArray) (nL : Nat) (own : String) (E : EE) (B : Nat) : Prop :=
  p.tables.exec = Jvm.exec ∧ c.code = cc ∧ c.maxLocals = nL ∧ s.vm.findClass own = some m.cls ∧ (∀ w ∈ TW, w.before args s = true) ∧ BPx E B s
abbrev rmm (fr lo mc ms : Nat) : Room := { frames := fr, cells := mc, slots := ms, locals := lo }
/-- a contract: from the picture f of n cells, with these arguments, the method answers rv and leaves the picture f' of n' cells -/
def Ct (l : Launch) (y : MethodName) (cb : ByteArray) (maxL : Nat) (ret : Option FieldType) (fr lo mc ms : Nat) (E : EE) (B : Nat) (av : List Value) (n : Nat) (f : Nat → va_E) (rv : Option Value) (n' : Nat) (f' : Nat → va_E) : Prop :=
  Met l y (wsm y cb maxL ret) (rmm fr lo mc ms) (va_Pc av (BP E B n f)) (fun _ st oc t => (oc = .returned rv ∧ BP E B n' f' t) ∧ va_F (fB B) st t) mc ms (fB B)
abbrev CG (l : Launch) (y : MethodName) (cb : ByteArray) (maxL : Nat) (ret : Option FieldType) (fr lo : Nat) (E : EE) (B : Nat) (av : List Value) (g : GS) (rv : Option Value) (g' : GS) : Prop :=
  Ct l y cb maxL ret fr lo 0 0 E B av 464 (pcT E B g) rv 464 (pcT E B g')
theorem Pc_blind {E : EE} {B n : Nat} {f : Nat → va_E} {av : List Value} : FrameBlind (va_Pc av (BP E B n f)) := fun a U g mk h => ⟨h.1, h.2.1, h.2.2.1.same rfl rfl, h.2.2.2⟩
section MR
variable {p : Program} {l : Launch} {e : Env} {R : Room} {s : State} {m : MethodId} {args : Array Value} {below : List Frame} {meth : Method} {c : Code} {H : Heap} {locs : List Loc} {cells slots : Nat} {Q : State → Prop}
variable {cc : ByteArray} {nL : Nat} {own : String} {E : EE} {B : Nat} {pc : Nat} {ls : Array Slot} {rest : List Value} {n : Nat} {f : Nat → va_E}
theorem rget (X : Cx p s m args c cc nL own E B) (hJ : JL E B s n f H locs) {o ci index : Nat} {fs : List Value} {v : Value} {ref C : String} {T : u_T} {N : Nat} (hc : vwCl[ci]? = some (C, T, N)) (hin : ∀ w ∈ u_ws C T N, w ∈ TW) (k : Nat) (hk : k < N) (hlink : Cond.fieldLink own index ref (T k).2.1 (T k).2.2.1 ∈ TW) (href : ref = (T k).1) (ho : o < n) (hf : f o = .inr (ci, fs)) (hv : fs[k]? = some v) (hdg : decode cc pc = .ok (.getfield index, 3))
    (kk : W p l e R s m args below meth c H locs cells slots Q (F0 m (pc + 3) ls (v :: rest))) : W p l e R s m args below meth c H locs cells slots Q (F0 m pc ls (.ref (B + o) :: rest)) :=
  va_get (D := E.1) (tys := tys E) X.1 X.2.1 X.2.2.2.2.1 hin X.2.2.2.1 X.2.2.2.2.2.1 hJ.1 o (by rw [wl_at ho, hf]) hc k hk (X.2.2.2.2.1 _ hlink) (by rw [href]; exact fun _ h => h) hv hdg kk
theorem rput (X : Cx p s m args c cc nL own E B) (hJ : JL E B s n f H locs) {o ci index : Nat} {fs : List Value} {v : Value} {ref C : String} {T : u_T} {N : Nat} {ty0 : Nat → FieldType} (hc : vwCl[ci]? = some (C, T, N)) (hin : ∀ w ∈ u_ws C T N, w ∈ TW) (hty : ∀ k, k < N → parseFieldDescriptor (T k).2.2.1 = some (ty0 k)) (hnm : ∀ a, a < N → ∀ b, b < N → a ≠ b → (T a).2.1 ≠ (T b).2.1) (k : Nat) (hk : k < N) (hlink : Cond.fieldLink own index ref (T k).2.1 (T k).2.2.1 ∈ TW) (href : ref = (T k).1) (hfin : (T k).2.2.2 = false) (hn : narrow (ty0 k) v = v) (hfit : fits (ty0 k) v = true) (ho : o < n) (hf : f o = .inr (ci, fs)) (hl : k < fs.length) (hdg : decode cc pc = .ok (.putfield index, 3))
    (kk : ∀ (H1 : Heap) (locs1 : List Loc), JL E B s n (va_up f o (.inr (ci, fs.set k v))) H1 locs1 → W p l e R s m args below meth c H1 locs1 cells slots Q (F0 m (pc + 3) ls rest)) : W p l e R s m args below meth c H locs cells slots Q (F0 m pc ls (v :: .ref (B + o) :: rest)) := by
  have hexec := X.1
  have hb := X.2.1
  have hts := X.2.2.2.2.1
  have hown := X.2.2.2.1
  have hK := X.2.2.2.2.2.1
  have he : (wl B n f)[o]? = some (B + o, .inr (ci, fs)) := by rw [wl_at ho, hf]
  have hap := va_apart (own := own) hts hin ty0 hty hnm hK hc
  obtain ⟨r, h1, cell, q1, q2, q3, q4⟩ := hJ.1 o _ he
  have hr : r = (C, T, N) := Option.some.inj (h1.symm.trans hc)
  subst hr
  obtain ⟨hS, hfc, kC, hkC, hkind⟩ := hK.1 ci _ hc
  obtain ⟨cf, kf, fi, fd, hi, hsl⟩ := hS k hk
  have hlay := hts _ (hin _ (u_in_lay hk))
  unfold u_lay at hlay
  rw [if_neg (by rw [hfin]; decide)] at hlay
  have hst := (u_facts hfc hkC (u_lays hts hin hk) hi).1
  have h6 := u_store hfc hkC hkind hlay hi (hty k hk) hn hfit
  refine W.putK hexec hb (f := fd) ⟨hown, hts _ hlink, ⟨_, _, _, by rw [href]; exact hi⟩, hst⟩ (by rw [q2]; exact h6) q1 q3 (by rw [hsl]; exact k2_hasslot (q4 k hk)) rfl rfl hdg fun H' e1 e2 e3 => ?_
  rw [hsl] at e1 ⊢
  refine kk H' _ ⟨?_, hJ.2.1.put e2 e3 (Nat.le_add_right B o), e2.trans hJ.2.2⟩
  rw [← wl_set ho]
  exact hJ.1.set wl_D he ⟨_, hc, t_OB.to (V := updV (vp_V fs) k v) ⟨_, e1, q2, q3, t_set q4 hap hk v⟩ (fun j _ => vp_updV_set hl v j)⟩ e3
theorem rald (X : Cx p s m args c cc nL own E B) (hJ : JL E B s n f H locs) {o N : Nat} {a : Row} (ho : o < n) (hf : f o = .inl (E.2 0, N, .inl a)) {i : Int32} {j : Nat} (hi : i = nI j) (hj : j < N) (hN : N < 2 ^ 31) (hdg : decode cc pc = .ok (.iaload, 1))
    (kk : W p l e R s m args below meth c H locs cells slots Q (F0 m (pc + 1) ls (.int (a j) :: rest))) : W p l e R s m args below meth c H locs cells slots Q (F0 m pc ls (.int i :: .ref (B + o) :: rest)) := by
  subst hi
  refine va_iald (D := E.1) (tys := tys E) X.1 X.2.1 X.2.2.2.2.2.1 hJ.1 o 0 (by rw [wl_at ho, hf]) rfl (vp_in_nI hj hN) hdg ?_
  rw [nI_clamp (by omega)]
  exact kk
theorem rast (X : Cx p s m args c cc nL own E B) (hJ : JL E B s n f H locs) {o N : Nat} {a : Row} (ho : o < n) (hf : f o = .inl (E.2 0, N, .inl a)) {i x : Int32} {j : Nat} (hi : i = nI j) (hj : j < N) (hN : N < 2 ^ 31) (hdg : decode cc pc = .ok (.iastore, 1))
    (kk : ∀ (H1 : Heap) (locs1 : List Loc), JL E B s n (va_up f o (.inl (E.2 0, N, .inl (upd a j x)))) H1 locs1 → W p l e R s m args below meth c H1 locs1 cells slots Q (F0 m (pc + 1) ls rest)) : W p l e R s m args below meth c H locs cells slots Q (F0 m pc ls (.int x :: .int i :: .ref (B + o) :: rest)) := by
  subst hi
  have he : (wl B n f)[o]? = some (B + o, .inl (E.2 0, N, .inl a)) := by rw [wl_at ho, hf]
  have hin := vp_in_nI hj hN
  refine W.iast X.1 X.2.1 (hJ.1 o _ he) ((X.2.2.2.2.2.1.2 0 _ rfl).1 N (fun j => .int (a j))) (fun q => by cases q) (by show ¬ (nI j < 0 ∨ (arrV _ _ _).slots.size ≤ _); rw [arrV_size]; exact hin) rfl rfl hdg fun H1 e z oq => ?_
  refine kk H1 _ ⟨?_, hJ.2.1.put z oq (Nat.le_add_right B o), z.trans hJ.2.2⟩
  rw [← wl_set ho]
  refine hJ.1.set wl_D he ?_ oq
  show H1[B + o]? = some (vp_cell _ _)
  rw [e, nI_clamp (by omega), vp_cell_i, vp_cell_i, arrV_store]
  congr 2
  funext q
  by_cases hq : q = j
  · subst hq; simp [updV, upd]
  · simp [updV, upd, hq]
theorem rzld (X : Cx p s m args c cc nL own E B) (hJ : JL E B s n f H locs) {o N : Nat} {a : Row} (ho : o < n) (hf : f o = .inl (E.2 1, N, .inl a)) {i : Int32} {j : Nat} (hi : i = nI j) (hj : j < N) (hN : N < 2 ^ 31) (hdg : decode cc pc = .ok (.baload, 1))
    (kk : W p l e R s m args below meth c H locs cells slots Q (F0 m (pc + 1) ls (.int (a j) :: rest))) : W p l e R s m args below meth c H locs cells slots Q (F0 m pc ls (.int i :: .ref (B + o) :: rest)) := by
  subst hi
  refine va_zald (D := E.1) (tys := tys E) X.1 X.2.1 X.2.2.2.2.2.1 hJ.1 o 1 (by rw [wl_at ho, hf]) rfl (vp_in_nI hj hN) hdg ?_
  rw [nI_clamp (by omega)]
  exact kk
theorem rzst (X : Cx p s m args c cc nL own E B) (hJ : JL E B s n f H locs) {o N : Nat} {a : Row} (ho : o < n) (hf : f o = .inl (E.2 1, N, .inl a)) {i x : Int32} {j : Nat} (hi : i = nI j) (hx : narrow .boolean (.int x) = .int x) (hj : j < N) (hN : N < 2 ^ 31) (hdg : decode cc pc = .ok (.bastore, 1))
    (kk : ∀ (H1 : Heap) (locs1 : List Loc), JL E B s n (va_up f o (.inl (E.2 1, N, .inl (upd a j x)))) H1 locs1 → W p l e R s m args below meth c H1 locs1 cells slots Q (F0 m (pc + 1) ls rest)) : W p l e R s m args below meth c H locs cells slots Q (F0 m pc ls (.int x :: .int i :: .ref (B + o) :: rest)) := by
  subst hi
  have he : (wl B n f)[o]? = some (B + o, .inl (E.2 1, N, .inl a)) := by rw [wl_at ho, hf]
  have hin := vp_in_nI hj hN
  refine W.zast X.1 X.2.1 (hJ.1 o _ he) ((X.2.2.2.2.2.1.2 1 _ rfl).1 N (fun j => .int (a j))) (fun q => by cases q) (by show ¬ (nI j < 0 ∨ (arrV _ _ _).slots.size ≤ _); rw [arrV_size]; exact hin) rfl rfl hdg fun H1 e z oq => ?_
  refine kk H1 _ ⟨?_, hJ.2.1.put z oq (Nat.le_add_right B o), z.trans hJ.2.2⟩
  rw [← wl_set ho]
  refine hJ.1.set wl_D he ?_ oq
  show H1[B + o]? = some (vp_cell _ _)
  rw [e, nI_clamp (by omega), hx, vp_cell_i, vp_cell_i, arrV_store]
  congr 2
  funext q
  by_cases hq : q = j
  · subst hq; simp [updV, upd]
  · simp [updV, upd, hq]
theorem raldq (X : Cx p s m args c cc nL own E B) (hJ : JL E B s n f H locs) {o N t0 : Nat} {cA : ClassId} {C : String} {a : Nat → Nat} (ht : (tys E)[t0]? = some (cA, .object C)) (ho : o < n) (hf : f o = .inl (cA, N, rfs N a)) {i : Int32} {j : Nat} (hi : i = nI j) (hj : j < N) (hN : N < 2 ^ 31) (hdg : decode cc pc = .ok (.aaload, 1))
    (kk : W p l e R s m args below meth c H locs cells slots Q (F0 m (pc + 1) ls (.ref (a j) :: rest))) : W p l e R s m args below meth c H locs cells slots Q (F0 m pc ls (.int i :: .ref (B + o) :: rest)) := by
  subst hi
  refine va_aldq (D := E.1) (tys := tys E) X.1 X.2.1 X.2.2.2.2.2.1 hJ.1 o t0 (f := fun j => if j < N then some (a j) else none) (n := N) (by rw [wl_at ho, hf]; rfl) ht (vp_in_nI hj hN) hdg ?_
  rw [nI_clamp (by omega), if_pos hj]
  exact kk

theorem rputF (X : Cx p s m args c cc nL own E B) (hin2 : meth.name = "<init>") (hJ : JL E B s n f H locs) {o ci index : Nat} {fs : List Value} {v : Value} {ref C : String} {T : u_T} {N : Nat} {ty0 : Nat → FieldType} (hc : vwCl[ci]? = some (C, T, N)) (hin : ∀ w ∈ u_ws C T N, w ∈ TW) (hty : ∀ k, k < N → parseFieldDescriptor (T k).2.2.1 = some (ty0 k)) (hnm : ∀ a, a < N → ∀ b, b < N → a ≠ b → (T a).2.1 ≠ (T b).2.1) (k : Nat) (hk : k < N) (hlink : Cond.fieldLink own index ref (T k).2.1 (T k).2.2.1 ∈ TW) (href : ref = (T k).1) (hfin : (T k).2.2.2 = true) (hdecl : (T k).1 = own) (hn : narrow (ty0 k) v = v) (hfit : fits (ty0 k) v = true) (ho : o < n) (hf : f o = .inr (ci, fs)) (hl : k < fs.length) (hdg : decode cc pc = .ok (.putfield index, 3))
    (kk : ∀ (H1 : Heap) (locs1 : List Loc), JL E B s n (va_up f o (.inr (ci, fs.set k v))) H1 locs1 → W p l e R s m args below meth c H1 locs1 cells slots Q (F0 m (pc + 3) ls rest)) : W p l e R s m args below meth c H locs cells slots Q (F0 m pc ls (v :: .ref (B + o) :: rest)) := by
  have hexec := X.1
  have hb := X.2.1
  have hts := X.2.2.2.2.1
  have hown := X.2.2.2.1
  have hK := X.2.2.2.2.2.1
  have he : (wl B n f)[o]? = some (B + o, .inr (ci, fs)) := by rw [wl_at ho, hf]
  have hap := va_apart (own := own) hts hin ty0 hty hnm hK hc
  obtain ⟨r, h1, cell, q1, q2, q3, q4⟩ := hJ.1 o _ he
  have hr : r = (C, T, N) := Option.some.inj (h1.symm.trans hc)
  subst hr
  obtain ⟨hS, hfc, kC, hkC, hkind⟩ := hK.1 ci _ hc
  obtain ⟨cf, kf, fi, fd, hi, hsl⟩ := hS k hk
  have hlay := hts _ (hin _ (u_in_lay hk))
  unfold u_lay at hlay
  rw [if_pos hfin] at hlay
  have hst := (u_facts hfc hkC (u_lays hts hin hk) hi).1
  have hcf : m.cls = cf := by
    obtain ⟨_, _, c', _, _, _, -, -, hf', -, -, -, hown2, -⟩ := Cond.laysFinal_spec hlay
    have e1 : c' = cf := by have := hi.symm.trans hf'; simp at this; exact this.1.symm
    rw [hdecl] at hown2
    rw [← e1]; exact Option.some.inj (hown.symm.trans hown2)
  have h6 := u_fits hfc hkC hkind (Or.inr hlay) hi (hty k hk) hn hfit
  refine W.putFinK hexec hb hown (hts _ hlink) (by rw [href]; exact hi) hst hcf hin2 (by rw [q2]; exact h6) q1 q3 (by rw [hsl]; exact k2_hasslot (q4 k hk)) rfl rfl hdg fun H' e1 e2 e3 => ?_
  rw [hsl] at e1 ⊢
  refine kk H' _ ⟨?_, hJ.2.1.put e2 e3 (Nat.le_add_right B o), e2.trans hJ.2.2⟩
  rw [← wl_set ho]
  exact hJ.1.set wl_D he ⟨_, hc, t_OB.to (V := updV (vp_V fs) k v) ⟨_, e1, q2, q3, t_set q4 hap hk v⟩ (fun j _ => vp_updV_set hl v j)⟩ e3
theorem JL.push {s : State} {H H1 : Heap} {locs : List Loc} {e : va_E} (hJ : JL E B s n f H locs) (hB : B ≤ s.heap.size) (z : H1.size = H.size + 1) (oq : ∀ q, q < H.size → H1[q]? = H[q]?) (he : va_at E.1 vwCl (B + n, e) H1) : JL E B s (n + 1) (va_up f n e) H1 locs := by
  refine ⟨?_, ⟨by have := hJ.2.1.1; omega, fun q h1 h2 => (oq q (Nat.lt_of_lt_of_le h1 hJ.2.1.1)).trans (hJ.2.1.2.1 q h1 h2), hJ.2.1.2.2⟩, by have := hJ.2.2; omega⟩
  rw [← wl_push]
  refine va_P.app (hJ.1.kept (fun k x hx => oq x.1 ((hJ.1 k x hx).lt))) (fun k x hx => ?_)
  have hz : k < 1 := (List.getElem?_eq_some_iff.mp hx).1
  rw [show k = 0 by omega] at hx
  cases hx
  exact he
theorem rnew (X : Cx p s m args c cc nL own E B) (hJ : JL E B s n f H locs) {ci index : Nat} {fs : List Value} {C : String} {T : u_T} {N : Nat} {ty0 : Nat → FieldType} (hc : vwCl[ci]? = some (C, T, N)) (hin : ∀ w ∈ u_ws C T N, w ∈ TW) (hty : ∀ k, k < N → parseFieldDescriptor (T k).2.2.1 = some (ty0 k)) (hcl : Cond.classLink own index C ∈ TW) (hinst : Cond.instantiable C N ∈ TW) (hini : Cond.initialized C ∈ TW) (hfs : ∀ j, j < N → defaultValue (ty0 j) = vp_V fs j) (hcells : cells + 1 ≤ R.cells) (hslots : slots + N ≤ R.slots) (hdg : decode cc pc = .ok (.new index, 3))
    (kk : ∀ (H1 : Heap), JL E B s (n + 1) (va_up f n (.inr (ci, fs))) H1 locs → W p l e R s m args below meth c H1 locs (cells + 1) (slots + N) Q (F0 m (pc + 3) ls (.ref (B + n) :: rest))) : W p l e R s m args below meth c H locs cells slots Q (F0 m pc ls rest) := by
  have hts := X.2.2.2.2.1
  have hK := X.2.2.2.2.2.1
  have hKn := hK.1 ci _ hc
  refine W.newcK X.1 X.2.1 X.2.2.2.1 (hts _ hcl) (hts _ hinst) (hts _ hini) rfl hdg hcells hslots hKn.2.1 hJ.2.2 fun H1 kC hkC e1 z1 o1 => ?_
  refine kk H1 (hJ.push X.2.2.2.2.2.2.2.2 (by rw [hJ.2.2]; exact z1) (by rw [hJ.2.2]; exact o1) ⟨_, hc, (u_born ty0 hts hin hKn hkC e1 hty).to hfs⟩)
theorem rnewa (X : Cx p s m args c cc nL own E B) (hJ : JL E B s n f H locs) {atype : ArrayType} {t0 : Nat} {ty : FieldType} (harr : Cond.arrayClass (newarray.typeOf atype) ∈ TW) (hty : newarray.typeOf atype = ty) (ht : (tys E)[t0]? = some (E.2 t0, ty)) (hra : va_RA s (E.2 t0) ty → s.vm.findClass ("[" ++ ty.toString) = some (E.2 t0)) (hd0 : defaultValue ty = .int 0) {i : Int32} {N : Nat} (hi : i = nI N) (hN : N < 10000) (hcb : componentBytes ty ≤ 8) (hcells : cells + 1 ≤ R.cells) (hslots : slots + N ≤ R.slots) (hdg : decode cc pc = .ok (.newarray atype, 2))
    (kk : ∀ (H1 : Heap), JL E B s (n + 1) (va_up f n (.inl (E.2 t0, N, .inl (fun _ => 0)))) H1 locs → W p l e R s m args below meth c H1 locs (cells + 1) (slots + N) Q (F0 m (pc + 2) ls (.ref (B + n) :: rest))) : W p l e R s m args below meth c H locs cells slots Q (F0 m pc ls (.int i :: rest)) := by
  subst hi
  subst hty
  have hK := X.2.2.2.2.2.1
  refine va_newaK X.1 X.2.1 (X.2.2.2.2.1 _ harr) rfl hdg rfl (nI_pos (by omega)) (nI_clamp (by omega)) ?_ hcells hslots hJ.2.2 fun H1 cA e1 z1 o1 hAr hNm => ?_
  · have : N * componentBytes (newarray.typeOf atype) ≤ 10000 * 8 := Nat.mul_le_mul (by omega) hcb
    omega
  · have hc : cA = E.2 t0 := Option.some.inj (hNm.symm.trans (hra (hK.2 t0 _ ht).2))
    subst hc
    refine kk H1 (hJ.push X.2.2.2.2.2.2.2.2 (by rw [hJ.2.2]; exact z1) (by rw [hJ.2.2]; exact o1) ?_)
    show H1[B + n]? = some (vp_cell _ _)
    rw [e1, hd0, vp_cell_i]
theorem ranew (X : Cx p s m args c cc nL own E B) (hJ : JL E B s n f H locs) {C : String} {index t0 : Nat} (hcl : Cond.classLink own index C ∈ TW) (hao : va_AO C s) (ht : (tys E)[t0]? = some (E.2 t0, .object C)) {i : Int32} {N : Nat} (hi : i = nI N) (hN : N < 10000) (hcells : cells + 1 ≤ R.cells) (hslots : slots + N ≤ R.slots) (hdg : decode cc pc = .ok (.anewarray index, 3))
    (kk : ∀ (H1 : Heap), JL E B s (n + 1) (va_up f n (.inl (E.2 t0, N, .inr (.inr (.inr (.inr (fun _ => none))))))) H1 locs → W p l e R s m args below meth c H1 locs (cells + 1) (slots + N) Q (F0 m (pc + 3) ls (.ref (B + n) :: rest))) : W p l e R s m args below meth c H locs cells slots Q (F0 m pc ls (.int i :: rest)) := by
  subst hi
  have hK := X.2.2.2.2.2.1
  have hnc : (nI N).toNatClampNeg = N := nI_clamp (by omega)
  refine W.anew X.1 X.2.1 X.2.2.2.1 (X.2.2.2.2.1 _ hcl) (va_AO.use hao) rfl hdg rfl (nI_pos (by omega)) (by rw [hnc]; omega) hcells (by rw [hnc]; exact hslots) fun cA kA comp h1 h2 h3 h4 => ?_
  obtain ⟨kA', comp', g1, g2, g3, g4⟩ := (hK.2 t0 _ ht).2
  have hc : cA = E.2 t0 := Option.some.inj (h1.symm.trans g4)
  subst hc
  have hw := kk (H.push { cls := E.2 t0, slots := Array.replicate N .null, vm := .none }) (hJ.push X.2.2.2.2.2.2.2.2 (by simp) (fun q hq => by rw [Array.getElem?_push, if_neg (Nat.ne_of_lt hq)]) (by
    show _ = some (vp_cell _ _)
    rw [← hJ.2.2, Array.getElem?_push_size, vp_cell_q]
    exact congrArg some (arrV_new _ _ _)))
  rw [hnc, hJ.2.2]
  exact hw
theorem rastq (X : Cx p s m args c cc nL own E B) (hJ : JL E B s n f H locs) {o ov N t0 ci : Nat} {cA : ClassId} {r : vw_C} {vs : List Value} {a : Nat → Option Nat} (ht : (tys E)[t0]? = some (cA, .object r.1)) (hc : vwCl[ci]? = some r) (ho : o < n) (hf : f o = .inl (cA, N, .inr (.inr (.inr (.inr a))))) (hov : ov < n) (hfv : f ov = .inr (ci, vs)) {i : Int32} {j : Nat} (hi : i = nI j) (hj : j < N) (hN : N < 2 ^ 31) (hdg : decode cc pc = .ok (.aastore, 1))
    (kk : ∀ (H1 : Heap) (locs1 : List Loc), JL E B s n (va_up f o (.inl (cA, N, .inr (.inr (.inr (.inr (va_up a j (some (B + ov))))))))) H1 locs1 → W p l e R s m args below meth c H1 locs1 cells slots Q (F0 m (pc + 1) ls rest)) : W p l e R s m args below meth c H locs cells slots Q (F0 m pc ls (.ref (B + ov) :: .int i :: .ref (B + o) :: rest)) := by
  subst hi
  have hK := X.2.2.2.2.2.1
  have hin := vp_in_nI hj hN
  have ha : (wl B n f)[o]? = some (B + o, .inl (cA, N, .inr (.inr (.inr (.inr a))))) := by rw [wl_at ho, hf]
  have hv : (wl B n f)[ov]? = some (B + ov, .inr (ci, vs)) := by rw [wl_at hov, hfv]
  have hlt : (nI j).toNatClampNeg < N := Nat.not_le.mp fun q => hin (Or.inr q)
  have h0 : ¬ nI j < 0 := fun q => hin (Or.inl q)
  obtain ⟨r', hr', cellV, g1, g2, g3, -⟩ := hJ.1 ov _ hv
  have hcls := (hK.1 ci r hc).2
  obtain ⟨kA, comp, k1, k2, k3, -⟩ := (hK.2 t0 _ ht).2
  have hcomp : comp = E.1.1 ci := Option.some.inj (k3.symm.trans hcls.1)
  subst hcomp
  obtain ⟨kC, hkC, -⟩ := hcls.2
  refine W.aast X.1 X.2.1 (hJ.1 o _ ha) (fun q h => by cases h) (fun h => by cases h) k1 k2 rfl hkC ⟨h0, by show _ < (arrV _ _ _).slots.size; rw [arrV_size]; exact hlt⟩ g1 (fun q h => by rw [g3] at h; cases h) (by rw [g2]; exact hkC) (by rw [g2]; exact va_assign hcls) rfl rfl hdg fun H1 e z oq => ?_
  refine kk H1 _ ⟨?_, hJ.2.1.put z oq (Nat.le_add_right B o), z.trans hJ.2.2⟩
  rw [← wl_set ho]
  refine hJ.1.set wl_D ha ?_ oq
  show H1[B + o]? = some (vp_cell _ _)
  rw [e, nI_clamp (by omega), vp_cell_q, vp_cell_q, arrV_store]
  congr 2
  funext q
  by_cases hq : q = j
  · subst hq; simp [updV, va_up, va_rf]
  · simp [updV, va_up, hq]
theorem rcopy (X : Cx p s m args c cc nL own E B) (hJ : JL E B s n f H locs) (hml : nL = ls.size) {index o0 o1 N0 N1 : Nat} {a b : Row} (hlink : Cond.methodLink own index arraycopyName ∈ TW) (hnat : Cond.native arraycopyName ∈ TW) (hstat : Cond.static arraycopyName ∈ TW) (hini : Cond.initialized "java/lang/System" ∈ TW)
    (ho0 : o0 < n) (ho1 : o1 < n) (hf0 : f o0 = .inl (E.2 0, N0, .inl a)) (hf1 : f o1 = .inl (E.2 0, N1, .inl b)) {z k : Int32} {K : Nat} (hz : z = 0) (hk : k = nI K) (hK0 : K ≤ N0) (hK1 : K ≤ N1) (hKb : K < 2 ^ 31) (hframes : 1 ≤ R.frames) (hlocals : (rest.map fun v => v.category).sum + (nativeFrameWords "java/lang/System" "arraycopy" 5 + 11) ≤ R.locals) (hdg : decode cc pc = .ok (.invokestatic index, 3))
    (kk : ∀ (H1 : Heap) (locs1 : List Loc), JL E B s n (va_up f o1 (.inl (E.2 0, N1, .inl (va_cpy a b 0 0 K)))) H1 locs1 → W p l e R s m args below meth c H1 locs1 cells slots Q (F0 m (pc + 3) ls rest)) : W p l e R s m args below meth c H locs cells slots Q (F0 m pc ls (.int k :: .int z :: .ref (B + o1) :: .int z :: .ref (B + o0) :: rest)) := by
  subst hz
  subst hk
  have hts := X.2.2.2.2.1
  have hKv := X.2.2.2.2.2.1
  have hnc : (nI K).toNatClampNeg = K := nI_clamp hKb
  have hc0 : H[B + o0]? = some (vp_cell (E.2 0) (N0, .inl a)) := by have := hJ.1 o0 (B + o0, .inl (E.2 0, N0, .inl a)) (by rw [wl_at ho0, hf0]); exact this
  have he : (wl B n f)[o1]? = some (B + o1, .inl (E.2 0, N1, .inl b)) := by rw [wl_at ho1, hf1]
  have hc1 : H[B + o1]? = some (vp_cell (E.2 0) (N1, .inl b)) := hJ.1 o1 _ he
  obtain ⟨-, k0, hk0, cm0, hkk0⟩ := (hKv.2 0 _ rfl).1 N0 (fun j => .int (a j))
  obtain ⟨-, k1, hk1, cm1, hkk1⟩ := (hKv.2 0 _ rfl).1 N1 (fun j => .int (b j))
  intro T hT Xs
  have h3 : ¬ nI K < 0 := nI_pos hKb
  have hti : (nI K).toInt = (K : Int) := nI_toInt hKb
  obtain ⟨vm', X', step⟩ := Xs.arraycopy X.1 X.2.2.2.1 (hts _ hlink) (hts _ hnat) (hts _ hstat) (hts _ hini) (src := B + o0) (dst := B + o1) (cs := vp_cell (E.2 0) (N0, .inl a)) (cd := vp_cell (E.2 0) (N1, .inl b)) (srcPos := 0) (destPos := 0) (n := nI K) (by rw [hT]; exact hc0) (by rw [hT]; exact hc1)
    (fun _ h => by cases h) (fun _ h => by cases h) (fun h => by cases h) (fun h => by cases h) hk0 hk1 hkk0 hkk1 (by simp [refKind]) (by decide) (by decide) h3
    (by rw [hti]; show ¬ _ > ((arrV (E.2 0) N0 (fun j => .int (a j))).slots.size : Int); rw [arrV_size]; simp; omega)
    (by rw [hti]; show ¬ _ > ((arrV (E.2 0) N1 (fun j => .int (b j))).slots.size : Int); rw [arrV_size]; simp; omega)
    (fun vm₁ _ i hi => by
      rw [hnc] at hi
      have e : (vp_cell (E.2 0) (N0, .inl a)).slots.getD ((0 : Int32).toNatClampNeg + i) .null = .int (a ((0 : Int32).toNatClampNeg + i)) := by
        show (arrV (E.2 0) N0 (fun j => .int (a j))).slots.getD _ _ = _
        rw [Array.getD_eq_getD_getElem?, arrV_read _ _ (by show 0 + i < N0; omega)]
        rfl
      refine ⟨?_, ?_⟩
      · rw [e]; rfl
      · rw [e]; exact trivial)
    (g := F0 m pc ls (.int (nI K) :: .int 0 :: .ref (B + o1) :: .int 0 :: .ref (B + o0) :: rest)) rfl (by rw [X.2.2.1, hml]) (rest := rest) rfl (by rw [X.2.1]; exact hdg) hframes (by show 2 * 0 + _ + _ ≤ _; omega)
  have e1 : copied (vp_cell (E.2 0) (N0, .inl a)) (vp_cell (E.2 0) (N1, .inl b)) 0 0 (nI K) = vp_cell (E.2 0) (N1, .inl (va_cpy a b 0 0 K)) := by
    have h4 : (0 : Int32).toNatClampNeg + (nI K).toNatClampNeg ≤ N0 := by rw [hnc]; show 0 + K ≤ N0; omega
    have h6 : copied (vp_cell (E.2 0) (N0, .inl a)) (vp_cell (E.2 0) (N1, .inl b)) 0 0 (nI K) = vp_cell (E.2 0) (N1, .inl (va_cpy a b (0 : Int32).toNatClampNeg (0 : Int32).toNatClampNeg (nI K).toNatClampNeg)) := va_copied (fun z => .int z) (E.2 0) (E.2 0) a b h4
    rw [hnc] at h6
    exact h6
  rw [e1] at X' step
  have hl : B + o1 < H.size := (Array.getElem?_eq_some_iff.mp hc1).1
  have hheap : ((T.setVm vm').setCell (B + o1) (vp_cell (E.2 0) (N1, .inl (va_cpy a b 0 0 K)))).heap = H.setIfInBounds (B + o1) (vp_cell (E.2 0) (N1, .inl (va_cpy a b 0 0 K))) := by rw [← hT]; rfl
  have oq : ∀ q : Nat, q ≠ B + o1 → (H.setIfInBounds (B + o1) (vp_cell (E.2 0) (N1, .inl (va_cpy a b 0 0 K))))[q]? = H[q]? := fun q hq => by simp [Array.getElem?_setIfInBounds, Ne.symm hq]
  obtain ⟨t, a1, b1⟩ := kk _ _ ⟨by
      rw [← wl_set ho1]
      exact hJ.1.set wl_D he (show (H.setIfInBounds (B + o1) _)[B + o1]? = some _ by simp [Array.getElem?_setIfInBounds, hl]) oq, ⟨by simp; exact hJ.2.1.1, fun q g1 g2 => by
      rw [oq q (fun e => g2 (by rw [e]; exact Nat.le_add_right B o1))]
      exact hJ.2.1.2.1 q g1 g2, fun q hq => by
      rcases List.mem_append.mp hq with h | h
      · exact hJ.2.1.2.2 q h
      · obtain ⟨z, -, hz⟩ := List.mem_map.mp h
        rw [← hz]
        exact Nat.le_add_right B o1⟩, by simp; exact hJ.2.2⟩ _ hheap X'
  exact ⟨t, step t a1, b1⟩
end MR
end
section
/-! contracts: how one is begun and ended, how one is used at a call -/
theorem tw_min_s : Cond.static Lib.Math.min.name ∈ TW := tw (i := 355) (by decide +kernel) (by decide)
theorem tw_min_c : Cond.code Lib.Math.min.name Lib.Math.min.code 2 (some .int) ∈ TW := tw (i := 356) (by decide +kernel) (by decide)
theorem tw_min_i : Cond.initialized "java/lang/Math" ∈ TW := tw (i := 71) (by decide +kernel) (by decide)
theorem tw_max_s : Cond.static Lib.Math.max.name ∈ TW := tw (i := 614) (by decide +kernel) (by decide)
theorem tw_max_c : Cond.code Lib.Math.max.name Lib.Math.max.code 2 (some .int) ∈ TW := tw (i := 615) (by decide +kernel) (by decide)
theorem tw_abs_s : Cond.static Lib.Math.abs.name ∈ TW := tw (i := 479) (by decide +kernel) (by decide)
theorem tw_abs_c : Cond.code Lib.Math.abs.name Lib.Math.abs.code 1 (some .int) ∈ TW := tw (i := 480) (by decide +kernel) (by decide)
section MK
variable {l : Launch} {y : MethodName} {cb : ByteArray} {maxL fr lo mc ms n n' : Nat} {ret : Option FieldType} {E : EE} {B : Nat} {av : List Value} {f f' : Nat → va_E}
theorem mkI {r : Int32} {ty : FieldType} {own : String} (how : y.cls = own) (hy : plainName y.cls = true) (hret : ret = some ty) (hnar : narrow ty (.int r) = .int r) (hlen : (lg_sl av).length ≤ maxL)
    (body : ∀ (p : Program) (e : Env) (s : State) (m : MethodId) (args : Array Value) (below : List Frame) (meth : Method) (c : Code) (Q : State → Prop), Cx p s m args c cb maxL own E B →
      (∀ {H : Heap} {locs : List Loc} {pc : Nat} {ls : Array Slot} {v : Int32}, JL E B s n' f' H locs → v = r → decode cb pc = .ok (.ireturn, 1) → W p l e (rmm fr lo mc ms) s m args below meth c H locs mc ms Q (F0 m pc ls [.int v])) →
      ∀ ls : Array Slot, lv_has ls maxL (lv_args 0 av) → JL E B s n f s.heap [] → W p l e (rmm fr lo mc ms) s m args below meth c s.heap [] 0 0 Q (F0 m 0 ls [])) : Ct l y cb maxL ret fr lo mc ms E B av n f (some (.int r)) n' f' := by
  refine Met.ofW (cc := cb) (maxL := maxL) (ret := ret) hy rfl ?_
  intro p e s m args below meth c s₁ B₁ hml hv
  obtain ⟨rfl, hP, hBx, hsz⟩ := hv
  have hts0 := atoms_spec (ws := wsm y cb maxL ret) B₁.pre
  have hlocks := B₁.notSynchronized
  have hX : Cx p s m av.toArray c cb maxL own E B := ⟨B₁.exec, B₁.bytes, hml, by rw [← how]; exact findClass_of_methodNamed B₁.named, fun w hw => hts0 w (List.mem_cons_of_mem _ hw), hBx⟩
  have hl := lv_entry av (n := maxL) hlen
  rw [lg_entry_eq]
  refine body p e s m av.toArray below meth c _ hX ?_ _ hl ⟨hP, va_S.rf, hsz⟩
  intro H locs pc ls v hJ hvr hdg
  subst hvr
  exact W.zret B₁.exec B₁.bytes (B₁.returns.trans hret) hnar (fun t ht hW => ⟨⟨rfl, hJ.BP hBx ht hW⟩, hJ.2.1.F ht⟩) hJ.2.1.2.2 hdg hlocks
theorem mkV {own : String} (how : y.cls = own) (hy : plainName y.cls = true) (hret : ret = none) (hlen : (lg_sl av).length ≤ maxL)
    (body : ∀ (p : Program) (e : Env) (s : State) (m : MethodId) (args : Array Value) (below : List Frame) (meth : Method) (c : Code) (Q : State → Prop), Cx p s m args c cb maxL own E B → meth.name = y.name →
      (∀ {H : Heap} {locs : List Loc} {pc : Nat} {ls : Array Slot}, JL E B s n' f' H locs → decode cb pc = .ok (.return_, 1) → W p l e (rmm fr lo mc ms) s m args below meth c H locs mc ms Q (F0 m pc ls [])) →
      ∀ ls : Array Slot, lv_has ls maxL (lv_args 0 av) → JL E B s n f s.heap [] → W p l e (rmm fr lo mc ms) s m args below meth c s.heap [] 0 0 Q (F0 m 0 ls [])) : Ct l y cb maxL ret fr lo mc ms E B av n f none n' f' := by
  refine Met.ofW (cc := cb) (maxL := maxL) (ret := ret) hy rfl ?_
  intro p e s m args below meth c s₁ B₁ hml hv
  obtain ⟨rfl, hP, hBx, hsz⟩ := hv
  have hts0 := atoms_spec (ws := wsm y cb maxL ret) B₁.pre
  have hlocks := B₁.notSynchronized
  have hX : Cx p s m av.toArray c cb maxL own E B := ⟨B₁.exec, B₁.bytes, hml, by rw [← how]; exact findClass_of_methodNamed B₁.named, fun w hw => hts0 w (List.mem_cons_of_mem _ hw), hBx⟩
  have hl := lv_entry av (n := maxL) hlen
  rw [lg_entry_eq]
  refine body p e s m av.toArray below meth c _ hX (name_of_methodNamed B₁.named B₁.method).1 ?_ _ hl ⟨hP, va_S.rf, hsz⟩
  intro H locs pc ls hJ hdg
  exact W.vret B₁.exec B₁.bytes (B₁.returns.trans hret) (fun t ht hW => ⟨⟨rfl, hJ.BP hBx ht hW⟩, hJ.2.1.F ht⟩) hJ.2.1.2.2 hdg hlocks
theorem mkR {r : Option Nat} {ty : FieldType} {own : String} (how : y.cls = own) (hy : plainName y.cls = true) (hret : ret = some ty) (hty : ∃ C, ty = .object C) (hlen : (lg_sl av).length ≤ maxL)
    (body : ∀ (p : Program) (e : Env) (s : State) (m : MethodId) (args : Array Value) (below : List Frame) (meth : Method) (c : Code) (Q : State → Prop), Cx p s m args c cb maxL own E B →
      (∀ {H : Heap} {locs : List Loc} {pc : Nat} {ls : Array Slot} {v : Value}, JL E B s n' f' H locs → v = va_rf r → decode cb pc = .ok (.areturn, 1) → W p l e (rmm fr lo mc ms) s m args below meth c H locs mc ms Q (F0 m pc ls [v])) →
      ∀ ls : Array Slot, lv_has ls maxL (lv_args 0 av) → JL E B s n f s.heap [] → W p l e (rmm fr lo mc ms) s m args below meth c s.heap [] 0 0 Q (F0 m 0 ls [])) : Ct l y cb maxL ret fr lo mc ms E B av n f (some (va_rf r)) n' f' := by
  refine Met.ofW (cc := cb) (maxL := maxL) (ret := ret) hy rfl ?_
  intro p e s m args below meth c s₁ B₁ hml hv
  obtain ⟨rfl, hP, hBx, hsz⟩ := hv
  have hts0 := atoms_spec (ws := wsm y cb maxL ret) B₁.pre
  have hlocks := B₁.notSynchronized
  have hX : Cx p s m av.toArray c cb maxL own E B := ⟨B₁.exec, B₁.bytes, hml, by rw [← how]; exact findClass_of_methodNamed B₁.named, fun w hw => hts0 w (List.mem_cons_of_mem _ hw), hBx⟩
  have hl := lv_entry av (n := maxL) hlen
  rw [lg_entry_eq]
  refine body p e s m av.toArray below meth c _ hX ?_ _ hl ⟨hP, va_S.rf, hsz⟩
  intro H locs pc ls v hJ hvr hdg
  subst hvr
  obtain ⟨C, hC⟩ := hty
  exact W.aret B₁.exec B₁.bytes (B₁.returns.trans hret) (Or.inl ⟨C, hC⟩) (by cases r with | none => exact Or.inl rfl | some a => exact Or.inr ⟨a, rfl⟩) (fun t ht hW => ⟨⟨rfl, hJ.BP hBx ht hW⟩, hJ.2.1.F ht⟩) hJ.2.1.2.2 hdg hlocks
end MK
section CL
variable {p : Program} {l : Launch} {e : Env} {R : Room} {s : State} {m : MethodId} {args : Array Value} {below : List Frame} {meth : Method} {c : Code} {H : Heap} {locs : List Loc} {cells slots : Nat} {Q : State → Prop}
variable {cc : ByteArray} {nL : Nat} {own : String} {E : EE} {B : Nat} {pc : Nat} {ls : Array Slot} {rest st : List Value} {n n' : Nat} {f f' : Nat → va_E}
variable {y : MethodName} {cb : ByteArray} {maxL fr lo mc ms index : Nat} {ret : Option FieldType} {rv : Option Value} {As : List Value} {o : Nat}
theorem call_go (hr : va_Run p l e R s m args below meth c H locs cells slots mc ms (F0 m pc ls st) rest (fun st oc t => (oc = .returned rv ∧ BP E B n' f' t) ∧ va_F (fB B) st t) (fB B)) (hJ : JL E B s n f H locs)
    (kk : ∀ (H1 : Heap) (locs1 : List Loc), JL E B s n' f' H1 locs1 → W p l e R s m args below meth c H1 locs1 (cells + mc) (slots + ms) Q (F0 m (pc + 3) ls (rv.toList ++ rest))) : W p l e R s m args below meth c H locs cells slots Q (F0 m pc ls st) := by
  intro T hT X
  obtain ⟨v, st₀, t, T', L, h0, X', hL, e1, e2, ⟨⟨hv, hBP⟩, hz, hk⟩, stp⟩ := hr T hT X
  cases hv
  rw [h0] at hz hk
  have hS := hJ.2.1
  obtain ⟨t2, a1, b1⟩ := kk T'.heap (locs ++ L) ⟨by rw [e1]; exact hBP.1, ⟨Nat.le_trans hS.1 (by rw [e1]; exact hz), fun q h1 h2 => by rw [e1, hk q (Nat.lt_of_lt_of_le h1 hS.1) h2]; exact hS.2.1 q h1 h2, fun q hq => by
      rcases List.mem_append.mp hq with h | h
      · exact hS.2.2 q h
      · exact hL q h⟩, by rw [e1]; exact hBP.2.2⟩ T' rfl X'
  exact ⟨t2, stp t2 a1, b1⟩
theorem good_wsV (hlink : Cond.methodLink own index y ∈ TW) (hinst : Cond.instanceMethod y ∈ TW) (hsel : Cond.selects y.cls y y ∈ TW) (hini : Cond.initialized y.cls ∈ TW) (hcode : Cond.code y cb maxL ret ∈ TW) : GoodIn TW (wsV own index y.cls y (wsm y cb maxL ret)) := by
  intro w hw
  unfold wsV at hw
  rcases List.mem_append.mp hw with h | h
  · have hm : w ∈ TW := by
      simp only [List.mem_cons, List.not_mem_nil, or_false] at h
      rcases h with rfl | rfl | rfl | rfl <;> assumption
    exact ⟨hm, good_TW hm⟩
  · exact good_sub hcode w h
theorem rcallV (X : Cx p s m args c cc nL own E B) (hJ : JL E B s n f H locs) (hC : Ct l y cb maxL ret fr lo mc ms E B (.ref (B + o) :: As) n f rv n' f') (hlink : Cond.methodLink own index y ∈ TW) (hinst : Cond.instanceMethod y ∈ TW) (hsel : Cond.selects y.cls y y ∈ TW) (hini : Cond.initialized y.cls ∈ TW) (hcode : Cond.code y cb maxL ret ∈ TW)
    (hd : y.cls ≠ "java/lang/invoke/MethodHandle" ∧ y.cls ≠ "java/lang/invoke/VarHandle" ∧ (parseMethodDescriptor y.desc).map (fun d => d.parameters.length) = some As.length) {ci : Nat} {fs : List Value} {r : vw_C} (hcl : vwCl[ci]? = some r) (hr1 : r.1 = y.cls) (ho : o < n) (hf : f o = .inr (ci, fs)) (hls : ls.size = nL) (hfr : fr + 1 ≤ R.frames ∧ 8 + (maxL + 11) + lo ≤ R.locals) (hcs : cells + mc ≤ R.cells ∧ slots + ms ≤ R.slots) (hst : st = As.reverse ++ .ref (B + o) :: rest) (hW : (rest.map fun v => v.category).sum ≤ 8) (hdg : decode cc pc = .ok (.invokevirtual index, 3))
    (kk : ∀ (H1 : Heap) (locs1 : List Loc), JL E B s n' f' H1 locs1 → W p l e R s m args below meth c H1 locs1 (cells + mc) (slots + ms) Q (F0 m (pc + 3) ls (rv.toList ++ rest))) : W p l e R s m args below meth c H locs cells slots Q (F0 m pc ls st) := by
  have hts := X.2.2.2.2.1
  refine call_go (va_runV (C := y.cls) (As := As) (rest := rest) ⟨X.1, X.2.1, X.2.2.1, X.2.2.2.1, hts⟩ hC (cwV As.length hts (good_wsV hlink hinst hsel hini hcode) rfl rfl rfl ⟨rfl, hd⟩ hfr) ⟨Pc_blind, ?_, fun U hU hWm => ⟨rfl, hJ.BP X.2.2.2.2.2 hU hWm⟩⟩ rfl rfl hls hst (lv_room hW) hdg hcs) hJ kk
  obtain ⟨cell, h1, h2, h3⟩ := va_recv (q0 := o) X.2.2.2.2.2.1 hJ.1 hcl (by rw [wl_at ho, hf])
  exact ⟨cell, h1, h2, by rw [← hr1]; exact h3⟩
theorem rcallS (X : Cx p s m args c cc nL own E B) (hJ : JL E B s n f H locs) (hC : Ct l y cb maxL ret fr lo mc ms E B As n f rv n' f') (hown : y.cls = own) (hlink : Cond.methodLink own index y ∈ TW) (hstat : Cond.static y ∈ TW) (hini : Cond.initialized own ∈ TW) (hcode : Cond.code y cb maxL ret ∈ TW)
    (hd : y.cls ≠ "java/lang/invoke/MethodHandle" ∧ y.cls ≠ "java/lang/invoke/VarHandle" ∧ (parseMethodDescriptor y.desc).map (fun d => d.parameters.length) = some As.length) (hls : ls.size = nL) (hfr : fr + 1 ≤ R.frames ∧ 8 + (maxL + 11) + lo ≤ R.locals) (hcs : cells + mc ≤ R.cells ∧ slots + ms ≤ R.slots) (hst : st = As.reverse ++ rest) (hW : (rest.map fun v => v.category).sum ≤ 8) (hdg : decode cc pc = .ok (.invokestatic index, 3))
    (kk : ∀ (H1 : Heap) (locs1 : List Loc), JL E B s n' f' H1 locs1 → W p l e R s m args below meth c H1 locs1 (cells + mc) (slots + ms) Q (F0 m (pc + 3) ls (rv.toList ++ rest))) : W p l e R s m args below meth c H locs cells slots Q (F0 m pc ls st) := by
  have hts := X.2.2.2.2.1
  have hG : GoodIn TW (wsS own index y (wsm y cb maxL ret)) := by
    intro w hw
    unfold wsS at hw
    rcases List.mem_append.mp hw with h | h
    · have hm : w ∈ TW := by
        simp only [List.mem_cons, List.not_mem_nil, or_false] at h
        rcases h with rfl | rfl | rfl <;> assumption
      exact ⟨hm, good_TW hm⟩
    · exact good_sub hcode w h
  exact call_go (va_runS (As := As) (rest := rest) ⟨X.1, X.2.1, X.2.2.1, X.2.2.2.1, hts⟩ hC (cwS As.length hts hG rfl rfl rfl ⟨hown, hd⟩ hfr) ⟨Pc_blind, fun U hU hWm => ⟨rfl, hJ.BP X.2.2.2.2.2 hU hWm⟩⟩ rfl rfl hls hst (lv_room hW) hdg hcs) hJ kk
theorem rcallSN {host : String} (X : Cx p s m args c cc nL own E B) (hJ : JL E B s n f H locs) (hC : Ct l y cb maxL ret fr lo mc ms E B As n f rv n' f') (hl : va_Nw (.methodLinkNest own index y host) s) (hstat : Cond.static y ∈ TW) (hini : Cond.initialized y.cls ∈ TW) (hcode : Cond.code y cb maxL ret ∈ TW)
    (hd : y.cls ≠ "java/lang/invoke/MethodHandle" ∧ y.cls ≠ "java/lang/invoke/VarHandle" ∧ (parseMethodDescriptor y.desc).map (fun d => d.parameters.length) = some As.length) (hls : ls.size = nL) (hfr : fr + 1 ≤ R.frames ∧ 8 + (maxL + 11) + lo ≤ R.locals) (hcs : cells + mc ≤ R.cells ∧ slots + ms ≤ R.slots) (hst : st = As.reverse ++ rest) (hW : (rest.map fun v => v.category).sum ≤ 8) (hdg : decode cc pc = .ok (.invokestatic index, 3))
    (kk : ∀ (H1 : Heap) (locs1 : List Loc), JL E B s n' f' H1 locs1 → W p l e R s m args below meth c H1 locs1 (cells + mc) (slots + ms) Q (F0 m (pc + 3) ls (rv.toList ++ rest))) : W p l e R s m args below meth c H locs cells slots Q (F0 m pc ls st) := by
  have hts := X.2.2.2.2.1
  exact call_go (va_runSN (As := As) (rest := rest) ⟨X.1, X.2.1, X.2.2.1, X.2.2.2.1, hts⟩ hC ⟨va_cnB As.length hts (good_sub hcode) rfl rfl rfl hl (hts _ hini) hd hfr, hts _ hstat, trivial⟩ ⟨Pc_blind, fun U hU hWm => ⟨rfl, hJ.BP X.2.2.2.2.2 hU hWm⟩⟩ rfl rfl hls hst (lv_room hW) hdg hcs) hJ kk
theorem rcallI (X : Cx p s m args c cc nL own E B) (hJ : JL E B s n f H locs) {b : Nat} (hC : Ct l y cb maxL none fr lo mc ms E B (.ref b :: As) n f none n' f') (hy1 : y.name = "<init>") (hlink : Cond.methodLink own index y ∈ TW) (hinst : Cond.instanceMethod y ∈ TW) (hini : Cond.initialized y.cls ∈ TW) (hcode : Cond.code y cb maxL none ∈ TW)
    (hd : y.cls ≠ "java/lang/invoke/MethodHandle" ∧ y.cls ≠ "java/lang/invoke/VarHandle" ∧ (parseMethodDescriptor y.desc).map (fun d => d.parameters.length) = some As.length) (hls : ls.size = nL) (hfr : fr + 1 ≤ R.frames ∧ 8 + (maxL + 11) + lo ≤ R.locals) (hcs : cells + mc ≤ R.cells ∧ slots + ms ≤ R.slots) (hst : st = As.reverse ++ .ref b :: rest) (hW : (rest.map fun v => v.category).sum ≤ 8) (hdg : decode cc pc = .ok (.invokespecial index, 3))
    (kk : ∀ (H1 : Heap) (locs1 : List Loc), JL E B s n' f' H1 locs1 → W p l e R s m args below meth c H1 locs1 (cells + mc) (slots + ms) Q (F0 m (pc + 3) ls rest)) : W p l e R s m args below meth c H locs cells slots Q (F0 m pc ls st) := by
  have hts := X.2.2.2.2.1
  exact call_go (va_runI (As := As) (rest := rest) ⟨X.1, X.2.1, X.2.2.1, X.2.2.2.1, hts⟩ hC (cwI As.length hts (good_sub hcode) rfl rfl rfl (hts _ hini) (hts _ hlink) (hts _ hinst) hy1 hd hfr) ⟨Pc_blind, fun U hU hWm => ⟨rfl, hJ.BP X.2.2.2.2.2 hU hWm⟩⟩ rfl rfl hls hst (lv_room hW) hdg hcs) hJ kk
theorem rcallIN {host : String} (X : Cx p s m args c cc nL own E B) (hJ : JL E B s n f H locs) {b : Nat} (hC : Ct l y cb maxL none fr lo mc ms E B (.ref b :: As) n f none n' f') (hy1 : y.name = "<init>") (hl : va_Nw (.methodLinkNest own index y host) s) (hinst : Cond.instanceMethod y ∈ TW) (hini : Cond.initialized y.cls ∈ TW) (hcode : Cond.code y cb maxL none ∈ TW)
    (hd : y.cls ≠ "java/lang/invoke/MethodHandle" ∧ y.cls ≠ "java/lang/invoke/VarHandle" ∧ (parseMethodDescriptor y.desc).map (fun d => d.parameters.length) = some As.length) (hls : ls.size = nL) (hfr : fr + 1 ≤ R.frames ∧ 8 + (maxL + 11) + lo ≤ R.locals) (hcs : cells + mc ≤ R.cells ∧ slots + ms ≤ R.slots) (hst : st = As.reverse ++ .ref b :: rest) (hW : (rest.map fun v => v.category).sum ≤ 8) (hdg : decode cc pc = .ok (.invokespecial index, 3))
    (kk : ∀ (H1 : Heap) (locs1 : List Loc), JL E B s n' f' H1 locs1 → W p l e R s m args below meth c H1 locs1 (cells + mc) (slots + ms) Q (F0 m (pc + 3) ls rest)) : W p l e R s m args below meth c H locs cells slots Q (F0 m pc ls st) := by
  have hts := X.2.2.2.2.1
  exact call_go (va_runIN (As := As) (rest := rest) ⟨X.1, X.2.1, X.2.2.1, X.2.2.2.1, hts⟩ hC ⟨va_cnB As.length hts (good_sub hcode) rfl rfl rfl hl (hts _ hini) hd hfr, hy1, hts _ hinst⟩ ⟨Pc_blind, fun U hU hWm => ⟨rfl, hJ.BP X.2.2.2.2.2 hU hWm⟩⟩ rfl rfl hls hst (lv_room hW) hdg hcs) hJ kk
theorem robj (X : Cx p s m args c cc nL own E B) {b : Nat} (hlink : Cond.methodLink own index objectInit ∈ TW) (hinst : Cond.instanceMethod objectInit ∈ TW) (hcode : Cond.code objectInit ⟨#[0xb1]⟩ 1 none ∈ TW) (hls : ls.size = nL) (hfr : 1 ≤ R.frames ∧ (rest.map fun v => v.category).sum + 12 ≤ R.locals) (hcs : cells ≤ R.cells ∧ slots ≤ R.slots) (hdg : decode cc pc = .ok (.invokespecial index, 3))
    (kk : W p l e R s m args below meth c H locs cells slots Q (F0 m (pc + 3) ls rest)) : W p l e R s m args below meth c H locs cells slots Q (F0 m pc ls (.ref b :: rest)) := by
  have hts := X.2.2.2.2.1
  refine W.objInit X.1 X.2.1 X.2.2.2.1 (hts _ hlink) (hts _ hinst) (hts _ hcode) rfl (by rw [X.2.2.1]; exact hls) rfl hdg hfr.1 (by show 2 * 0 + _ + 12 ≤ _; have := hfr.2; omega) ?_
  exact kk

theorem rgetsN (X : Cx p s m args c cc nL own E B) (hJ : JL E B s n f H locs) {nm host : String} {a : Row} (hS : ST1 nm a B s s.heap) (hl : va_Nw (.fieldLinkNest own index RX6 nm "[I" host) s) (hdg : decode cc pc = .ok (.getstatic index, 3))
    (kk : ∀ t : Nat, va_T .int t 4 (fun j => .int (a j)) (fB B) s s.heap → W p l e R s m args below meth c H locs cells slots Q (F0 m (pc + 3) ls (.ref t :: rest))) : W p l e R s m args below meth c H locs cells slots Q (F0 m pc ls rest) := by
  obtain ⟨t, hZ, hT⟩ := hS
  exact va_getsN X.1 X.2.1 hZ hJ.2.1 X.2.2.2.1 (va_Nw.use rfl hl) (fun _ h => h) hdg (kk t hT)
theorem rsld (X : Cx p s m args c cc nL own E B) (hJ : JL E B s n f H locs) {a : Row} {t j : Nat} (hT : va_T .int t 4 (fun j => .int (a j)) (fB B) s s.heap) {i : Int32} (hi : i = nI j) (hj : j < 4) (hdg : decode cc pc = .ok (.iaload, 1))
    (kk : W p l e R s m args below meth c H locs cells slots Q (F0 m (pc + 1) ls (.int (a j) :: rest))) : W p l e R s m args below meth c H locs cells slots Q (F0 m pc ls (.int i :: .ref t :: rest)) := by
  subst hi
  obtain ⟨cell, h1, h2, h3, h4, h5, h6, h7⟩ := hT
  have hlt := (Array.getElem?_eq_some_iff.mp h1).1
  have hin := vp_in_nI (n := j) (N := 4) hj (by omega)
  refine W.iald (v := .int (a j)) X.1 X.2.1 (by rw [hJ.2.1.2.1 t hlt h7]; exact h1) h2 h3 ?_ ?_ rfl rfl hdg kk
  · rw [nI_clamp (by omega)]
    intro q
    rcases q with q | q
    · exact nI_pos (n := j) (by omega) q
    · omega
  · rw [nI_clamp (by omega)]; exact h6 j hj
theorem rmin (X : Cx p s m args c cc nL own E B) (hlink : Cond.methodLink own index Lib.Math.min.name ∈ TW) (hls : ls.size = nL) (hfr : 1 ≤ R.frames ∧ (rest.map fun v => v.category).sum + 13 ≤ R.locals) (hcs : cells ≤ R.cells ∧ slots ≤ R.slots) {x y : Int32} (hdg : decode cc pc = .ok (.invokestatic index, 3))
    (kk : W p l e R s m args below meth c H locs cells slots Q (F0 m (pc + 3) ls (.int (if y < x then y else x) :: rest))) : W p l e R s m args below meth c H locs cells slots Q (F0 m pc ls (.int y :: .int x :: rest)) :=
  va_mmin X.1 X.2.1 (by rw [X.2.2.1, hls]) X.2.2.2.1 (X.2.2.2.2.1 _ hlink) (X.2.2.2.2.1 _ tw_min_s) (X.2.2.2.2.1 _ tw_min_i) (X.2.2.2.2.1 _ tw_min_c) hfr.1 hfr.2 hcs.1 hcs.2 hdg kk
theorem rmax (X : Cx p s m args c cc nL own E B) (hlink : Cond.methodLink own index Lib.Math.max.name ∈ TW) (hls : ls.size = nL) (hfr : 1 ≤ R.frames ∧ (rest.map fun v => v.category).sum + 13 ≤ R.locals) (hcs : cells ≤ R.cells ∧ slots ≤ R.slots) {x y : Int32} (hdg : decode cc pc = .ok (.invokestatic index, 3))
    (kk : W p l e R s m args below meth c H locs cells slots Q (F0 m (pc + 3) ls (.int (if x < y then y else x) :: rest))) : W p l e R s m args below meth c H locs cells slots Q (F0 m pc ls (.int y :: .int x :: rest)) :=
  va_mmax X.1 X.2.1 (by rw [X.2.2.1, hls]) X.2.2.2.1 (X.2.2.2.2.1 _ hlink) (X.2.2.2.2.1 _ tw_max_s) (X.2.2.2.2.1 _ tw_min_i) (X.2.2.2.2.1 _ tw_max_c) hfr.1 hfr.2 hcs.1 hcs.2 hdg kk
end CL
end
section
/-! reading and writing at the picture, a theorem a link of the constant pools -/
theorem inT0 : ∀ w ∈ u_ws RX0 TX0 9, w ∈ TW := by
  intro w hw
  obtain ⟨k, hk, rfl⟩ := List.mem_map.mp hw
  have hk := List.mem_range.mp hk
  have h0 : u_lay RX0 TX0 0 ∈ TW := tw (i := 123) (by decide +kernel) (by decide +kernel)
  have h1 : u_lay RX0 TX0 1 ∈ TW := tw (i := 125) (by decide +kernel) (by decide +kernel)
  have h2 : u_lay RX0 TX0 2 ∈ TW := tw (i := 127) (by decide +kernel) (by decide +kernel)
  have h3 : u_lay RX0 TX0 3 ∈ TW := tw (i := 129) (by decide +kernel) (by decide +kernel)
  have h4 : u_lay RX0 TX0 4 ∈ TW := tw (i := 131) (by decide +kernel) (by decide +kernel)
  have h5 : u_lay RX0 TX0 5 ∈ TW := tw (i := 133) (by decide +kernel) (by decide +kernel)
  have h6 : u_lay RX0 TX0 6 ∈ TW := tw (i := 135) (by decide +kernel) (by decide +kernel)
  have h7 : u_lay RX0 TX0 7 ∈ TW := tw (i := 137) (by decide +kernel) (by decide +kernel)
  have h8 : u_lay RX0 TX0 8 ∈ TW := tw (i := 139) (by decide +kernel) (by decide +kernel)
  match k, hk with
  | 0, _ => exact h0
  | 1, _ => exact h1
  | 2, _ => exact h2
  | 3, _ => exact h3
  | 4, _ => exact h4
  | 5, _ => exact h5
  | 6, _ => exact h6
  | 7, _ => exact h7
  | 8, _ => exact h8
  | k + 9, hk => exact absurd hk (by omega)
theorem inT1 : ∀ w ∈ u_ws RX1 TX1 11, w ∈ TW := by
  intro w hw
  obtain ⟨k, hk, rfl⟩ := List.mem_map.mp hw
  have hk := List.mem_range.mp hk
  have h0 : u_lay RX1 TX1 0 ∈ TW := tw (i := 169) (by decide +kernel) (by decide +kernel)
  have h1 : u_lay RX1 TX1 1 ∈ TW := tw (i := 171) (by decide +kernel) (by decide +kernel)
  have h2 : u_lay RX1 TX1 2 ∈ TW := tw (i := 173) (by decide +kernel) (by decide +kernel)
  have h3 : u_lay RX1 TX1 3 ∈ TW := tw (i := 175) (by decide +kernel) (by decide +kernel)
  have h4 : u_lay RX1 TX1 4 ∈ TW := tw (i := 177) (by decide +kernel) (by decide +kernel)
  have h5 : u_lay RX1 TX1 5 ∈ TW := tw (i := 179) (by decide +kernel) (by decide +kernel)
  have h6 : u_lay RX1 TX1 6 ∈ TW := tw (i := 181) (by decide +kernel) (by decide +kernel)
  have h7 : u_lay RX1 TX1 7 ∈ TW := tw (i := 183) (by decide +kernel) (by decide +kernel)
  have h8 : u_lay RX1 TX1 8 ∈ TW := tw (i := 185) (by decide +kernel) (by decide +kernel)
  have h9 : u_lay RX1 TX1 9 ∈ TW := tw (i := 187) (by decide +kernel) (by decide +kernel)
  have h10 : u_lay RX1 TX1 10 ∈ TW := tw (i := 189) (by decide +kernel) (by decide +kernel)
  match k, hk with
  | 0, _ => exact h0
  | 1, _ => exact h1
  | 2, _ => exact h2
  | 3, _ => exact h3
  | 4, _ => exact h4
  | 5, _ => exact h5
  | 6, _ => exact h6
  | 7, _ => exact h7
  | 8, _ => exact h8
  | 9, _ => exact h9
  | 10, _ => exact h10
  | k + 11, hk => exact absurd hk (by omega)
theorem inT2 : ∀ w ∈ u_ws RX2 TX2 3, w ∈ TW := by
  intro w hw
  obtain ⟨k, hk, rfl⟩ := List.mem_map.mp hw
  have hk := List.mem_range.mp hk
  have h0 : u_lay RX2 TX2 0 ∈ TW := tw (i := 240) (by decide +kernel) (by decide +kernel)
  have h1 : u_lay RX2 TX2 1 ∈ TW := tw (i := 242) (by decide +kernel) (by decide +kernel)
  have h2 : u_lay RX2 TX2 2 ∈ TW := tw (i := 244) (by decide +kernel) (by decide +kernel)
  match k, hk with
  | 0, _ => exact h0
  | 1, _ => exact h1
  | 2, _ => exact h2
  | k + 3, hk => exact absurd hk (by omega)
theorem inT3 : ∀ w ∈ u_ws RX3 TX3 6, w ∈ TW := by
  intro w hw
  obtain ⟨k, hk, rfl⟩ := List.mem_map.mp hw
  have hk := List.mem_range.mp hk
  have h0 : u_lay RX3 TX3 0 ∈ TW := tw (i := 279) (by decide +kernel) (by decide +kernel)
  have h1 : u_lay RX3 TX3 1 ∈ TW := tw (i := 281) (by decide +kernel) (by decide +kernel)
  have h2 : u_lay RX3 TX3 2 ∈ TW := tw (i := 283) (by decide +kernel) (by decide +kernel)
  have h3 : u_lay RX3 TX3 3 ∈ TW := tw (i := 285) (by decide +kernel) (by decide +kernel)
  have h4 : u_lay RX3 TX3 4 ∈ TW := tw (i := 287) (by decide +kernel) (by decide +kernel)
  have h5 : u_lay RX3 TX3 5 ∈ TW := tw (i := 289) (by decide +kernel) (by decide +kernel)
  match k, hk with
  | 0, _ => exact h0
  | 1, _ => exact h1
  | 2, _ => exact h2
  | 3, _ => exact h3
  | 4, _ => exact h4
  | 5, _ => exact h5
  | k + 6, hk => exact absurd hk (by omega)
theorem inT4 : ∀ w ∈ u_ws RX4 TX4 2, w ∈ TW := by
  intro w hw
  obtain ⟨k, hk, rfl⟩ := List.mem_map.mp hw
  have hk := List.mem_range.mp hk
  have h0 : u_lay RX4 TX4 0 ∈ TW := tw (i := 257) (by decide +kernel) (by decide +kernel)
  have h1 : u_lay RX4 TX4 1 ∈ TW := tw (i := 259) (by decide +kernel) (by decide +kernel)
  match k, hk with
  | 0, _ => exact h0
  | 1, _ => exact h1
  | k + 2, hk => exact absurd hk (by omega)
theorem inT5 : ∀ w ∈ u_ws RX5 TX5 11, w ∈ TW := by
  intro w hw
  obtain ⟨k, hk, rfl⟩ := List.mem_map.mp hw
  have hk := List.mem_range.mp hk
  have h0 : u_lay RX5 TX5 0 ∈ TW := tw (i := 204) (by decide +kernel) (by decide +kernel)
  have h1 : u_lay RX5 TX5 1 ∈ TW := tw (i := 206) (by decide +kernel) (by decide +kernel)
  have h2 : u_lay RX5 TX5 2 ∈ TW := tw (i := 208) (by decide +kernel) (by decide +kernel)
  have h3 : u_lay RX5 TX5 3 ∈ TW := tw (i := 210) (by decide +kernel) (by decide +kernel)
  have h4 : u_lay RX5 TX5 4 ∈ TW := tw (i := 212) (by decide +kernel) (by decide +kernel)
  have h5 : u_lay RX5 TX5 5 ∈ TW := tw (i := 214) (by decide +kernel) (by decide +kernel)
  have h6 : u_lay RX5 TX5 6 ∈ TW := tw (i := 216) (by decide +kernel) (by decide +kernel)
  have h7 : u_lay RX5 TX5 7 ∈ TW := tw (i := 218) (by decide +kernel) (by decide +kernel)
  have h8 : u_lay RX5 TX5 8 ∈ TW := tw (i := 220) (by decide +kernel) (by decide +kernel)
  have h9 : u_lay RX5 TX5 9 ∈ TW := tw (i := 222) (by decide +kernel) (by decide +kernel)
  have h10 : u_lay RX5 TX5 10 ∈ TW := tw (i := 224) (by decide +kernel) (by decide +kernel)
  match k, hk with
  | 0, _ => exact h0
  | 1, _ => exact h1
  | 2, _ => exact h2
  | 3, _ => exact h3
  | 4, _ => exact h4
  | 5, _ => exact h5
  | 6, _ => exact h6
  | 7, _ => exact h7
  | 8, _ => exact h8
  | 9, _ => exact h9
  | 10, _ => exact h10
  | k + 11, hk => exact absurd hk (by omega)
theorem inT6 : ∀ w ∈ u_ws RX6 TX6 7, w ∈ TW := by
  intro w hw
  obtain ⟨k, hk, rfl⟩ := List.mem_map.mp hw
  have hk := List.mem_range.mp hk
  have h0 : u_lay RX6 TX6 0 ∈ TW := tw (i := 299) (by decide +kernel) (by decide +kernel)
  have h1 : u_lay RX6 TX6 1 ∈ TW := tw (i := 301) (by decide +kernel) (by decide +kernel)
  have h2 : u_lay RX6 TX6 2 ∈ TW := tw (i := 303) (by decide +kernel) (by decide +kernel)
  have h3 : u_lay RX6 TX6 3 ∈ TW := tw (i := 305) (by decide +kernel) (by decide +kernel)
  have h4 : u_lay RX6 TX6 4 ∈ TW := tw (i := 307) (by decide +kernel) (by decide +kernel)
  have h5 : u_lay RX6 TX6 5 ∈ TW := tw (i := 309) (by decide +kernel) (by decide +kernel)
  have h6 : u_lay RX6 TX6 6 ∈ TW := tw (i := 311) (by decide +kernel) (by decide +kernel)
  match k, hk with
  | 0, _ => exact h0
  | 1, _ => exact h1
  | 2, _ => exact h2
  | 3, _ => exact h3
  | 4, _ => exact h4
  | 5, _ => exact h5
  | 6, _ => exact h6
  | k + 7, hk => exact absurd hk (by omega)
theorem inT7 : ∀ w ∈ u_ws RX7 TX7 11, w ∈ TW := by
  intro w hw
  obtain ⟨k, hk, rfl⟩ := List.mem_map.mp hw
  have hk := List.mem_range.mp hk
  have h0 : u_lay RX7 TX7 0 ∈ TW := tw (i := 750) (by decide +kernel) (by decide +kernel)
  have h1 : u_lay RX7 TX7 1 ∈ TW := tw (i := 752) (by decide +kernel) (by decide +kernel)
  have h2 : u_lay RX7 TX7 2 ∈ TW := tw (i := 754) (by decide +kernel) (by decide +kernel)
  have h3 : u_lay RX7 TX7 3 ∈ TW := tw (i := 756) (by decide +kernel) (by decide +kernel)
  have h4 : u_lay RX7 TX7 4 ∈ TW := tw (i := 758) (by decide +kernel) (by decide +kernel)
  have h5 : u_lay RX7 TX7 5 ∈ TW := tw (i := 760) (by decide +kernel) (by decide +kernel)
  have h6 : u_lay RX7 TX7 6 ∈ TW := tw (i := 762) (by decide +kernel) (by decide +kernel)
  have h7 : u_lay RX7 TX7 7 ∈ TW := tw (i := 764) (by decide +kernel) (by decide +kernel)
  have h8 : u_lay RX7 TX7 8 ∈ TW := tw (i := 766) (by decide +kernel) (by decide +kernel)
  have h9 : u_lay RX7 TX7 9 ∈ TW := tw (i := 768) (by decide +kernel) (by decide +kernel)
  have h10 : u_lay RX7 TX7 10 ∈ TW := tw (i := 770) (by decide +kernel) (by decide +kernel)
  match k, hk with
  | 0, _ => exact h0
  | 1, _ => exact h1
  | 2, _ => exact h2
  | 3, _ => exact h3
  | 4, _ => exact h4
  | 5, _ => exact h5
  | 6, _ => exact h6
  | 7, _ => exact h7
  | 8, _ => exact h8
  | 9, _ => exact h9
  | 10, _ => exact h10
  | k + 11, hk => exact absurd hk (by omega)
abbrev bF (w : Row) (i : Nat) : List Value := [.int (nI i), .int (w (20 + 7 * i)), .int (w (20 + 7 * i + 1)), .int (w (20 + 7 * i + 2)), .int (w (20 + 7 * i + 3)), .int (w (360 + i)), .int (w (20 + 7 * i + 4)), .int (w (20 + 7 * i + 5)), .int (w (20 + 7 * i + 6))]
abbrev cF (B k : Nat) (w : Row) (i : Nat) : List Value := [.int (nI i), .int (w (104 + 8 * i)), .int (w (104 + 8 * i + 1)), .int (w (104 + 8 * i + 2)), .int (w (104 + 8 * i + 3)), .int (w (104 + 8 * i + 4)), .int (w (104 + 8 * i + 5)), .int (w (104 + 8 * i + 6)), .int (w (104 + 8 * i + 7)), .ref (B + (wo k + (18 + 3 * i))), .ref (B + (wo k + (19 + 3 * i)))]
abbrev wF (B k : Nat) (w : Row) : List Value := [.ref (B + (wo k + 1)), .ref (B + (wo k + 2)), .ref (B + (wo k + 3)), .ref (B + (wo k + 4)), .int (w 10), .int (w 5), .int (w 6), .int (w 7), .int (w 4), .int (w 8), .int (w 9)]
abbrev hF (B : Nat) (w : Row) : List Value := [.ref (B + 84), .int (w 0), .int (w 1)]
abbrev oF (B : Nat) (w : Row) : List Value := [.ref (B + 456), .int (w 4), .int (w 5), .int (w 6), .int (w 7), .int (w 8)]
abbrev pF (B : Nat) (w : Row) : List Value := [.ref (B + 457), .int (w 3)]
abbrev xF (B : Nat) : List Value := [.ref (B + wo 0), .ref (B + wo 1), .ref (B + 83), .ref (B + 372), .ref (B + 455), .ref (B + 456), .ref (B + 458)]
abbrev mF (B : Nat) (w : Row) : List Value := [.ref (B + 460), .int (w 0), .ref (B + 461), .ref (B + 462), .int (w 1), .int (w 2), .int (w 3), .int (w 4), .int (w 5), .int (w 6), .ref (B + 463)]
section AT
variable {E : EE} {B k i : Nat} {g : GS} {w : Row}
theorem pw_B (hi : i < 12) : pw E B k w (5 + i) = .inr (0, bF w i) := by
  unfold pw
  rw [if_neg (by omega), if_neg (by omega), if_neg (by omega), if_neg (by omega), if_neg (by omega), if_pos (by omega), show 5 + i - 5 = i by omega]
theorem pw_C (hi : i < 8) : pw E B k w (17 + 3 * i) = .inr (1, cF B k w i) := by
  unfold pw
  rw [if_neg (by omega), if_neg (by omega), if_neg (by omega), if_neg (by omega), if_neg (by omega), if_neg (by omega), if_pos (by omega), show (17 + 3 * i - 17) / 3 = i by omega]
theorem pw_lo (hi : i < 8) : pw E B k w (18 + 3 * i) = .inl (E.2 0, 12, .inl (tr 12 (fun j => w (168 + 2 * (12 * i + j))))) := by
  unfold pw
  rw [if_neg (by omega), if_neg (by omega), if_neg (by omega), if_neg (by omega), if_neg (by omega), if_neg (by omega), if_neg (by omega), if_pos (by omega), show (18 + 3 * i - 17) / 3 = i by omega]
theorem pw_hi (hi : i < 8) : pw E B k w (19 + 3 * i) = .inl (E.2 0, 12, .inl (tr 12 (fun j => w (168 + 2 * (12 * i + j) + 1)))) := by
  unfold pw
  rw [if_neg (by omega), if_neg (by omega), if_neg (by omega), if_neg (by omega), if_neg (by omega), if_neg (by omega), if_neg (by omega), if_neg (by omega), show (19 + 3 * i - 17) / 3 = i by omega]
theorem at_B (hk : k < 11) (hi : i < 12) (hw : g.1 k = w) : pcT E B g (wo k + (5 + i)) = .inr (0, bF w i) := by rw [pcT_W hk (by omega), hw, pw_B hi]
theorem at_C (hk : k < 11) (hi : i < 8) (hw : g.1 k = w) : pcT E B g (wo k + (17 + 3 * i)) = .inr (1, cF B k w i) := by rw [pcT_W hk (by omega), hw, pw_C hi]
theorem at_lo (hk : k < 11) (hi : i < 8) (hw : g.1 k = w) : pcT E B g (wo k + (18 + 3 * i)) = .inl (E.2 0, 12, .inl (tr 12 (fun j => w (168 + 2 * (12 * i + j))))) := by rw [pcT_W hk (by omega), hw, pw_lo hi]
theorem at_hi (hk : k < 11) (hi : i < 8) (hw : g.1 k = w) : pcT E B g (wo k + (19 + 3 * i)) = .inl (E.2 0, 12, .inl (tr 12 (fun j => w (168 + 2 * (12 * i + j) + 1)))) := by rw [pcT_W hk (by omega), hw, pw_hi hi]
theorem at_W (hk : k < 11) (hw : g.1 k = w) : pcT E B g (wo k) = .inr (5, wF B k w) := by
  have := pcT_W (E := E) (B := B) (g := g) (r := 0) hk (by omega)
  rw [hw] at this
  exact this
theorem at_stg (hk : k < 11) (hw : g.1 k = w) : pcT E B g (wo k + 1) = .inl (E.2 0, 4, .inl (tr 4 w)) := by rw [pcT_W hk (by omega), hw]; rfl
theorem at_brs (hk : k < 11) : pcT E B g (wo k + 2) = .inl (E.2 2, 12, rfs 12 (fun i => B + (wo k + (5 + i)))) := by rw [pcT_W hk (by omega)]; rfl
theorem at_cts (hk : k < 11) : pcT E B g (wo k + 3) = .inl (E.2 3, 8, rfs 8 (fun i => B + (wo k + (17 + 3 * i)))) := by rw [pcT_W hk (by omega)]; rfl
theorem at_line (hk : k < 11) (hw : g.1 k = w) : pcT E B g (wo k + 4) = .inl (E.2 0, 8, .inl (tr 8 (fun j => w (12 + j)))) := by rw [pcT_W hk (by omega), hw]; rfl
theorem at_H (hw : g.2.1 = w) : pcT E B g 83 = .inr (2, hF B w) := by rw [pcT_83, hw]
theorem at_O (hw : g.2.1 = w) : pcT E B g 458 = .inr (3, oF B w) := by rw [pcT_458, hw]
theorem at_P (hw : g.2.1 = w) : pcT E B g 456 = .inr (4, pF B w) := by rw [pcT_456, hw]
theorem at_X : pcT E B g 0 = .inr (6, xF B) := pcT_0
theorem at_M (hw : g.2.2.2 = w) : pcT E B g 459 = .inr (7, mF B w) := by rw [pcT_459, hw]
theorem lt_W {r : Nat} (hk : k < 11) (hr : r < 41) : wo k + r < 464 := by have := wo_lt hk; omega
theorem lt_W0 (hk : k < 11) : wo k < 464 := by have := wo_lt hk; omega
theorem ow_B {f : Nat} (hi : i < 12) (hf : f < 7) : ow (20 + 7 * i + f) = 5 + i := by
  unfold ow; rw [if_neg (by omega), if_neg (by omega), if_neg (by omega), if_pos (by omega)]; omega
theorem ow_Bw (hi : i < 12) : ow (360 + i) = 5 + i := by
  unfold ow; rw [if_neg (by omega), if_neg (by omega), if_neg (by omega), if_neg (by omega), if_neg (by omega), if_neg (by omega)]; omega
theorem ow_C {f : Nat} (hi : i < 8) (hf : f < 8) : ow (104 + 8 * i + f) = 17 + 3 * i := by
  unfold ow; rw [if_neg (by omega), if_neg (by omega), if_neg (by omega), if_neg (by omega), if_pos (by omega)]; omega
theorem ow_lo {j : Nat} (hi : i < 8) (hj : j < 12) : ow (168 + 2 * (12 * i + j)) = 18 + 3 * i := by
  unfold ow; rw [if_neg (by omega), if_neg (by omega), if_neg (by omega), if_neg (by omega), if_neg (by omega), if_pos (by omega)]; omega
theorem ow_hi {j : Nat} (hi : i < 8) (hj : j < 12) : ow (168 + 2 * (12 * i + j) + 1) = 19 + 3 * i := by
  unfold ow; rw [if_neg (by omega), if_neg (by omega), if_neg (by omega), if_neg (by omega), if_neg (by omega), if_pos (by omega)]; omega
theorem ow_line {j : Nat} (hj : j < 8) : ow (12 + j) = 4 := by
  unfold ow; rw [if_neg (by omega), if_neg (by omega), if_pos (by omega)]
theorem ow_set {j : Nat} (hj : j < 4) : ow j = 1 := by unfold ow; rw [if_pos hj]
theorem tr_upd {n j : Nat} {a b : Row} {v : Int32} (h : ∀ i, i < n → b i = upd a j v i) : upd (tr n a) j v = upd (tr n a) j v := rfl
theorem tr_put {n j : Nat} {a b : Row} {v : Int32} (hj : j < n) (h : ∀ i, i < n → b i = if i = j then v else a i) : tr n b = upd (tr n a) j v := by
  funext i
  unfold tr upd
  by_cases hi : i < n
  · rw [if_pos hi, h i hi]
    show _ = if i = j then v else if i < n then a i else 0
    rw [if_pos hi]
  · rw [if_neg hi, if_neg (by omega)]
    show _ = if i < n then a i else 0
    rw [if_neg hi]
theorem JL.upW {s : State} {H : Heap} {locs : List Loc} {j r : Nat} {v : Int32} {e : va_E} (h : JL E B s 464 (va_up (pcT E B (upW g k w)) (wo k + r) e) H locs) (hk : k < 11) (hr : r < 41) (ho : ow j = r) (he : pw E B k (upd w j v) r = e) : JG E B s (upW g k (upd w j v)) H locs := by
  subst ho
  rw [pcT_up hk hr he] at h
  exact h
theorem JL.upC {s : State} {H : Heap} {locs : List Loc} {j r : Nat} {v : Int32} {e : va_E} (h : JL E B s 464 (va_up (pcT E B (upC g w)) r e) H locs) (ho : oc j = r) (hr : r < 464) (he : pcT E B (upC g (upd w j v)) r = e) : JG E B s (upC g (upd w j v)) H locs := by
  subst ho
  have := pcT_upC (v := v) hr he
  exact ⟨by rw [← this]; exact h.1, h.2⟩
theorem JL.upR {s : State} {H : Heap} {locs : List Loc} {j r : Nat} {v : Int32} {e : va_E} (h : JL E B s 464 (va_up (pcT E B (upR g w)) r e) H locs) (ho : oR j = r) (hr : r < 464) (he : pcT E B (upR g (upd w j v)) r = e) : JG E B s (upR g (upd w j v)) H locs := by
  subst ho
  have := pcT_upR (v := v) hr he
  exact ⟨by rw [← this]; exact h.1, h.2⟩
theorem JL.upS {s : State} {H : Heap} {locs : List Loc} {w' : Row} {t : Nat} {e : va_E} (h : JL E B s 464 (va_up (pcT E B (upS g t w)) 460 e) H locs) (he : pcT E B (upS g t w') 460 = e) : JG E B s (upS g t w') H locs := by
  have := pcT_upS (E := E) (B := B) (t := t) (g := g) (w := w) (w' := w') he
  exact ⟨by rw [← this]; exact h.1, h.2⟩
theorem at_s {t : Nat} (hw : g.2.2.1 t = w) : ∀ j, j < 360 → g.2.2.1 ((360 * t + j) / 360) ((360 * t + j) % 360) = w j := by
  intro j hj
  rw [show (360 * t + j) / 360 = t by omega, show (360 * t + j) % 360 = j by omega, hw]
end AT
section LK
variable {p : Program} {l : Launch} {e : Env} {R : Room} {s : State} {m : MethodId} {args : Array Value} {below : List Frame} {meth : Method} {c : Code} {H : Heap} {locs : List Loc} {cells slots : Nat} {Q : State → Prop}
variable {cc : ByteArray} {nL : Nat} {E : EE} {B : Nat} {pc : Nat} {ls : Array Slot} {rest : List Value} {n : Nat} {f : Nat → va_E} {g : GS} {k : Nat} {w : Row} {v : Int32} {own : String}

theorem ld_set (X : Cx p s m args c cc nL own E B) (hJ : JG E B s g H locs) (hk : k < 11) (hw : g.1 k = w) {x : Int32} {j : Nat} (hi : x = nI j) (hj : j < 4) (hdg : decode cc pc = .ok (.iaload, 1))
    (kk : W p l e R s m args below meth c H locs cells slots Q (F0 m (pc + 1) ls (.int (w j) :: rest))) : W p l e R s m args below meth c H locs cells slots Q (F0 m pc ls (.int x :: .ref (B + (wo k + 1)) :: rest)) :=
  rald X hJ (lt_W hk (by omega)) (at_stg hk hw) hi hj (by decide) hdg (by rw [tr_at hj]; exact kk)
theorem ld_line (X : Cx p s m args c cc nL own E B) (hJ : JG E B s g H locs) (hk : k < 11) (hw : g.1 k = w) {x : Int32} {j : Nat} (hi : x = nI j) (hj : j < 8) (hdg : decode cc pc = .ok (.iaload, 1))
    (kk : W p l e R s m args below meth c H locs cells slots Q (F0 m (pc + 1) ls (.int (w (12 + j)) :: rest))) : W p l e R s m args below meth c H locs cells slots Q (F0 m pc ls (.int x :: .ref (B + (wo k + 4)) :: rest)) :=
  rald X hJ (lt_W hk (by omega)) (at_line hk hw) hi hj (by decide) hdg (by rw [tr_at hj]; exact kk)
theorem ld_lo (X : Cx p s m args c cc nL own E B) (hJ : JG E B s g H locs) {i : Nat} (hk : k < 11) (hic : i < 8) (hw : g.1 k = w) {x : Int32} {j : Nat} (hi : x = nI j) (hj : j < 12) (hdg : decode cc pc = .ok (.iaload, 1))
    (kk : W p l e R s m args below meth c H locs cells slots Q (F0 m (pc + 1) ls (.int (w (168 + 2 * (12 * i + j))) :: rest))) : W p l e R s m args below meth c H locs cells slots Q (F0 m pc ls (.int x :: .ref (B + (wo k + (18 + 3 * i))) :: rest)) :=
  rald X hJ (lt_W hk (by omega)) (at_lo hk hic hw) hi hj (by decide) hdg (by rw [tr_at hj]; exact kk)
theorem ld_hi (X : Cx p s m args c cc nL own E B) (hJ : JG E B s g H locs) {i : Nat} (hk : k < 11) (hic : i < 8) (hw : g.1 k = w) {x : Int32} {j : Nat} (hi : x = nI j) (hj : j < 12) (hdg : decode cc pc = .ok (.iaload, 1))
    (kk : W p l e R s m args below meth c H locs cells slots Q (F0 m (pc + 1) ls (.int (w (168 + 2 * (12 * i + j) + 1)) :: rest))) : W p l e R s m args below meth c H locs cells slots Q (F0 m pc ls (.int x :: .ref (B + (wo k + (19 + 3 * i))) :: rest)) :=
  rald X hJ (lt_W hk (by omega)) (at_hi hk hic hw) hi hj (by decide) hdg (by rw [tr_at hj]; exact kk)
theorem ld_codes (X : Cx p s m args c cc nL own E B) (hJ : JG E B s g H locs) (hw : g.2.1 = w) {x : Int32} {j : Nat} (hi : x = nI j) (hj : j < 80) (hdg : decode cc pc = .ok (.iaload, 1))
    (kk : W p l e R s m args below meth c H locs cells slots Q (F0 m (pc + 1) ls (.int (w (100 + j)) :: rest))) : W p l e R s m args below meth c H locs cells slots Q (F0 m pc ls (.int x :: .ref (B + 457) :: rest)) :=
  rald X hJ (by omega) (show _ = _ from by rw [pcT_457, hw]) hi hj (by decide) hdg (by rw [tr_at hj]; exact kk)
theorem ld_saved (X : Cx p s m args c cc nL own E B) (hJ : JG E B s g H locs) (hw : g.2.1 = w) {x : Int32} {j : Nat} (hi : x = nI j) (hj : j < 2) (hdg : decode cc pc = .ok (.baload, 1))
    (kk : W p l e R s m args below meth c H locs cells slots Q (F0 m (pc + 1) ls (.int (w (10 + j)) :: rest))) : W p l e R s m args below meth c H locs cells slots Q (F0 m pc ls (.int x :: .ref (B + 455) :: rest)) :=
  rzld X hJ (by omega) (show _ = _ from by rw [pcT_455, hw]) hi hj (by decide) hdg (by rw [tr_at hj]; exact kk)
theorem ld_isSaved (X : Cx p s m args c cc nL own E B) (hJ : JG E B s g H locs) (hw : g.2.2.2 = w) {x : Int32} {j : Nat} (hi : x = nI j) (hj : j < 2) (hdg : decode cc pc = .ok (.baload, 1))
    (kk : W p l e R s m args below meth c H locs cells slots Q (F0 m (pc + 1) ls (.int (w (10 + j)) :: rest))) : W p l e R s m args below meth c H locs cells slots Q (F0 m pc ls (.int x :: .ref (B + 461) :: rest)) :=
  rzld X hJ (by omega) (show _ = _ from by rw [pcT_461, hw]) hi hj (by decide) hdg (by rw [tr_at hj]; exact kk)
theorem ld_text (X : Cx p s m args c cc nL own E B) (hJ : JG E B s g H locs) (hw : g.2.2.2 = w) {x : Int32} {j : Nat} (hi : x = nI j) (hj : j < 80) (hdg : decode cc pc = .ok (.iaload, 1))
    (kk : W p l e R s m args below meth c H locs cells slots Q (F0 m (pc + 1) ls (.int (w (100 + j)) :: rest))) : W p l e R s m args below meth c H locs cells slots Q (F0 m pc ls (.int x :: .ref (B + 462) :: rest)) :=
  rald X hJ (by omega) (show _ = _ from by rw [pcT_462, hw]) hi hj (by decide) hdg (by rw [tr_at hj]; exact kk)
theorem ld_away (X : Cx p s m args c cc nL own E B) (hJ : JG E B s g H locs) (hw : g.2.2.2 = w) {x : Int32} {j : Nat} (hi : x = nI j) (hj : j < 8) (hdg : decode cc pc = .ok (.iaload, 1))
    (kk : W p l e R s m args below meth c H locs cells slots Q (F0 m (pc + 1) ls (.int (w (200 + j)) :: rest))) : W p l e R s m args below meth c H locs cells slots Q (F0 m pc ls (.int x :: .ref (B + 463) :: rest)) :=
  rald X hJ (by omega) (show _ = _ from by rw [pcT_463, hw]) hi hj (by decide) hdg (by rw [tr_at hj]; exact kk)
theorem ld_s (X : Cx p s m args c cc nL own E B) (hJ : JG E B s g H locs) {t : Nat} (ht : t < 10) (hw : g.2.2.1 t = w) {x : Int32} {j : Nat} (hi : x = nI (360 * t + j)) (hj : j < 360) (hdg : decode cc pc = .ok (.iaload, 1))
    (kk : W p l e R s m args below meth c H locs cells slots Q (F0 m (pc + 1) ls (.int (w j) :: rest))) : W p l e R s m args below meth c H locs cells slots Q (F0 m pc ls (.int x :: .ref (B + 460) :: rest)) :=
  rald X hJ (by omega) pcT_460 hi (by omega) (by decide) hdg (by rw [tr_at (by omega), at_s hw j hj]; exact kk)
theorem ld_brs (X : Cx p s m args c cc nL own E B) (hJ : JG E B s g H locs) (hk : k < 11) {x : Int32} {j : Nat} (hi : x = nI j) (hj : j < 12) (hdg : decode cc pc = .ok (.aaload, 1))
    (kk : W p l e R s m args below meth c H locs cells slots Q (F0 m (pc + 1) ls (.ref (B + (wo k + (5 + j))) :: rest))) : W p l e R s m args below meth c H locs cells slots Q (F0 m pc ls (.int x :: .ref (B + (wo k + 2)) :: rest)) :=
  raldq (t0 := 2) X hJ rfl (lt_W hk (by omega)) (at_brs hk) hi hj (by decide) hdg kk
theorem ld_cts (X : Cx p s m args c cc nL own E B) (hJ : JG E B s g H locs) (hk : k < 11) {x : Int32} {j : Nat} (hi : x = nI j) (hj : j < 8) (hdg : decode cc pc = .ok (.aaload, 1))
    (kk : W p l e R s m args below meth c H locs cells slots Q (F0 m (pc + 1) ls (.ref (B + (wo k + (17 + 3 * j))) :: rest))) : W p l e R s m args below meth c H locs cells slots Q (F0 m pc ls (.int x :: .ref (B + (wo k + 3)) :: rest)) :=
  raldq (t0 := 3) X hJ rfl (lt_W hk (by omega)) (at_cts hk) hi hj (by decide) hdg kk
theorem ld_states (X : Cx p s m args c cc nL own E B) (hJ : JG E B s g H locs)  {x : Int32} {j : Nat} (hi : x = nI j) (hj : j < 7) (hdg : decode cc pc = .ok (.aaload, 1))
    (kk : W p l e R s m args below meth c H locs cells slots Q (F0 m (pc + 1) ls (.ref (B + wo (2 + j)) :: rest))) : W p l e R s m args below meth c H locs cells slots Q (F0 m pc ls (.int x :: .ref (B + 84) :: rest)) :=
  raldq (t0 := 4) X hJ rfl (by omega) pcT_84 hi hj (by decide) hdg kk
theorem ld_slots (X : Cx p s m args c cc nL own E B) (hJ : JG E B s g H locs)  {x : Int32} {j : Nat} (hi : x = nI j) (hj : j < 2) (hdg : decode cc pc = .ok (.aaload, 1))
    (kk : W p l e R s m args below meth c H locs cells slots Q (F0 m (pc + 1) ls (.ref (B + wo (9 + j)) :: rest))) : W p l e R s m args below meth c H locs cells slots Q (F0 m pc ls (.int x :: .ref (B + 372) :: rest)) :=
  raldq (t0 := 4) X hJ rfl (by omega) pcT_372 hi hj (by decide) hdg kk
theorem st_set (X : Cx p s m args c cc nL own E B) (hJ : JG E B s (upW g k w) H locs) (hk : k < 11) {x : Int32} {j : Nat} (hi : x = nI j) (hj : j < 4) (hdg : decode cc pc = .ok (.iastore, 1))
    (kk : ∀ (H1 : Heap) (locs1 : List Loc), JG E B s (upW g k (upd w (j) v)) H1 locs1 → W p l e R s m args below meth c H1 locs1 cells slots Q (F0 m (pc + 1) ls rest)) : W p l e R s m args below meth c H locs cells slots Q (F0 m pc ls (.int v :: .int x :: .ref (B + (wo k + 1)) :: rest)) :=
  rast X hJ (lt_W hk (by omega)) (at_stg hk upW_1) hi hj (by decide) hdg (fun H1 locs1 h => kk H1 locs1 (h.upW hk (by omega) (ow_set hj) (by show Sum.inl (E.2 0, 4, Sum.inl (tr 4 _)) = _; rw [tr_put (a := w) (b := upd w j v) hj (fun _ _ => rfl)])))
theorem st_line (X : Cx p s m args c cc nL own E B) (hJ : JG E B s (upW g k w) H locs) (hk : k < 11) {x : Int32} {j : Nat} (hi : x = nI j) (hj : j < 8) (hdg : decode cc pc = .ok (.iastore, 1))
    (kk : ∀ (H1 : Heap) (locs1 : List Loc), JG E B s (upW g k (upd w (12 + j) v)) H1 locs1 → W p l e R s m args below meth c H1 locs1 cells slots Q (F0 m (pc + 1) ls rest)) : W p l e R s m args below meth c H locs cells slots Q (F0 m pc ls (.int v :: .int x :: .ref (B + (wo k + 4)) :: rest)) :=
  rast X hJ (lt_W hk (by omega)) (at_line hk upW_1) hi hj (by decide) hdg (fun H1 locs1 h => kk H1 locs1 (h.upW hk (by omega) (ow_line hj) (by show Sum.inl (E.2 0, 8, Sum.inl (tr 8 _)) = _; rw [tr_put (a := fun j => w (12 + j)) (v := v) hj (fun i _ => by show (if 12 + i = 12 + j then v else w (12 + i)) = _; by_cases q : i = j <;> simp [q])])))
theorem st_lo (X : Cx p s m args c cc nL own E B) (hJ : JG E B s (upW g k w) H locs) {i : Nat} (hk : k < 11) (hic : i < 8) {x : Int32} {j : Nat} (hi : x = nI j) (hj : j < 12) (hdg : decode cc pc = .ok (.iastore, 1))
    (kk : ∀ (H1 : Heap) (locs1 : List Loc), JG E B s (upW g k (upd w (168 + 2 * (12 * i + j)) v)) H1 locs1 → W p l e R s m args below meth c H1 locs1 cells slots Q (F0 m (pc + 1) ls rest)) : W p l e R s m args below meth c H locs cells slots Q (F0 m pc ls (.int v :: .int x :: .ref (B + (wo k + (18 + 3 * i))) :: rest)) :=
  rast X hJ (lt_W hk (by omega)) (at_lo hk hic upW_1) hi hj (by decide) hdg (fun H1 locs1 h => kk H1 locs1 (h.upW hk (by omega) (ow_lo hic hj) (by rw [pw_lo hic, tr_put (a := fun q => w (168 + 2 * (12 * i + q))) (v := v) hj (fun q _ => by show (if 168 + 2 * (12 * i + q) = 168 + 2 * (12 * i + j) then v else w (168 + 2 * (12 * i + q))) = _; by_cases z : q = j; (· rw [if_pos (by omega), if_pos z]); (· rw [if_neg (by omega), if_neg z]))])))
theorem st_hi (X : Cx p s m args c cc nL own E B) (hJ : JG E B s (upW g k w) H locs) {i : Nat} (hk : k < 11) (hic : i < 8) {x : Int32} {j : Nat} (hi : x = nI j) (hj : j < 12) (hdg : decode cc pc = .ok (.iastore, 1))
    (kk : ∀ (H1 : Heap) (locs1 : List Loc), JG E B s (upW g k (upd w (168 + 2 * (12 * i + j) + 1) v)) H1 locs1 → W p l e R s m args below meth c H1 locs1 cells slots Q (F0 m (pc + 1) ls rest)) : W p l e R s m args below meth c H locs cells slots Q (F0 m pc ls (.int v :: .int x :: .ref (B + (wo k + (19 + 3 * i))) :: rest)) :=
  rast X hJ (lt_W hk (by omega)) (at_hi hk hic upW_1) hi hj (by decide) hdg (fun H1 locs1 h => kk H1 locs1 (h.upW hk (by omega) (ow_hi hic hj) (by rw [pw_hi hic, tr_put (a := fun q => w (168 + 2 * (12 * i + q) + 1)) (v := v) hj (fun q _ => by show (if 168 + 2 * (12 * i + q) + 1 = 168 + 2 * (12 * i + j) + 1 then v else w (168 + 2 * (12 * i + q) + 1)) = _; by_cases z : q = j; (· rw [if_pos (by omega), if_pos z]); (· rw [if_neg (by omega), if_neg z]))])))
theorem st_codes (X : Cx p s m args c cc nL own E B) (hJ : JG E B s (upC g w) H locs)  {x : Int32} {j : Nat} (hi : x = nI j) (hj : j < 80) (hdg : decode cc pc = .ok (.iastore, 1))
    (kk : ∀ (H1 : Heap) (locs1 : List Loc), JG E B s (upC g (upd w (100 + j) v)) H1 locs1 → W p l e R s m args below meth c H1 locs1 cells slots Q (F0 m (pc + 1) ls rest)) : W p l e R s m args below meth c H locs cells slots Q (F0 m pc ls (.int v :: .int x :: .ref (B + 457) :: rest)) :=
  rast X hJ (by omega) (show _ = _ from pcT_457) hi hj (by decide) hdg (fun H1 locs1 h => kk H1 locs1 (h.upC (by unfold oc; rw [if_neg (by omega), if_neg (by omega), if_neg (by omega), if_neg (by omega)]) (by omega) (by rw [pcT_457]; show Sum.inl (E.2 0, 80, Sum.inl (tr 80 (fun i => upd w (100 + j) v (100 + i)))) = _; rw [tr_put (a := fun i => w (100 + i)) (v := v) hj (fun i _ => by show (if 100 + i = 100 + j then v else w (100 + i)) = _; by_cases q : i = j <;> simp [q])]; rfl)))
theorem st_saved (X : Cx p s m args c cc nL own E B) (hJ : JG E B s (upC g w) H locs)  {x : Int32} {j : Nat} (hi : x = nI j) (hj : j < 2) (hx : narrow .boolean (.int v) = .int v) (hdg : decode cc pc = .ok (.bastore, 1))
    (kk : ∀ (H1 : Heap) (locs1 : List Loc), JG E B s (upC g (upd w (10 + j) v)) H1 locs1 → W p l e R s m args below meth c H1 locs1 cells slots Q (F0 m (pc + 1) ls rest)) : W p l e R s m args below meth c H locs cells slots Q (F0 m pc ls (.int v :: .int x :: .ref (B + 455) :: rest)) :=
  rzst X hJ (by omega) (show _ = _ from pcT_455) hi hx hj (by decide) hdg (fun H1 locs1 h => kk H1 locs1 (h.upC (by unfold oc; rw [if_neg (by omega), if_neg (by omega), if_neg (by omega), if_pos (by omega)]) (by omega) (by rw [pcT_455]; show Sum.inl (E.2 1, 2, Sum.inl (tr 2 (fun i => upd w (10 + j) v (10 + i)))) = _; rw [tr_put (a := fun i => w (10 + i)) (v := v) hj (fun i _ => by show (if 10 + i = 10 + j then v else w (10 + i)) = _; by_cases q : i = j <;> simp [q])]; rfl)))
theorem st_isSaved (X : Cx p s m args c cc nL own E B) (hJ : JG E B s (upR g w) H locs)  {x : Int32} {j : Nat} (hi : x = nI j) (hj : j < 2) (hx : narrow .boolean (.int v) = .int v) (hdg : decode cc pc = .ok (.bastore, 1))
    (kk : ∀ (H1 : Heap) (locs1 : List Loc), JG E B s (upR g (upd w (10 + j) v)) H1 locs1 → W p l e R s m args below meth c H1 locs1 cells slots Q (F0 m (pc + 1) ls rest)) : W p l e R s m args below meth c H locs cells slots Q (F0 m pc ls (.int v :: .int x :: .ref (B + 461) :: rest)) :=
  rzst X hJ (by omega) (show _ = _ from pcT_461) hi hx hj (by decide) hdg (fun H1 locs1 h => kk H1 locs1 (h.upR (by unfold oR; rw [if_neg (by omega), if_pos (by omega)]) (by omega) (by rw [pcT_461]; show Sum.inl (E.2 1, 2, Sum.inl (tr 2 (fun i => upd w (10 + j) v (10 + i)))) = _; rw [tr_put (a := fun i => w (10 + i)) (v := v) hj (fun i _ => by show (if 10 + i = 10 + j then v else w (10 + i)) = _; by_cases q : i = j <;> simp [q])]; rfl)))
theorem st_text (X : Cx p s m args c cc nL own E B) (hJ : JG E B s (upR g w) H locs)  {x : Int32} {j : Nat} (hi : x = nI j) (hj : j < 80) (hdg : decode cc pc = .ok (.iastore, 1))
    (kk : ∀ (H1 : Heap) (locs1 : List Loc), JG E B s (upR g (upd w (100 + j) v)) H1 locs1 → W p l e R s m args below meth c H1 locs1 cells slots Q (F0 m (pc + 1) ls rest)) : W p l e R s m args below meth c H locs cells slots Q (F0 m pc ls (.int v :: .int x :: .ref (B + 462) :: rest)) :=
  rast X hJ (by omega) (show _ = _ from pcT_462) hi hj (by decide) hdg (fun H1 locs1 h => kk H1 locs1 (h.upR (by unfold oR; rw [if_neg (by omega), if_neg (by omega), if_pos (by omega)]) (by omega) (by rw [pcT_462]; show Sum.inl (E.2 0, 80, Sum.inl (tr 80 (fun i => upd w (100 + j) v (100 + i)))) = _; rw [tr_put (a := fun i => w (100 + i)) (v := v) hj (fun i _ => by show (if 100 + i = 100 + j then v else w (100 + i)) = _; by_cases q : i = j <;> simp [q])]; rfl)))
theorem st_away (X : Cx p s m args c cc nL own E B) (hJ : JG E B s (upR g w) H locs)  {x : Int32} {j : Nat} (hi : x = nI j) (hj : j < 8) (hdg : decode cc pc = .ok (.iastore, 1))
    (kk : ∀ (H1 : Heap) (locs1 : List Loc), JG E B s (upR g (upd w (200 + j) v)) H1 locs1 → W p l e R s m args below meth c H1 locs1 cells slots Q (F0 m (pc + 1) ls rest)) : W p l e R s m args below meth c H locs cells slots Q (F0 m pc ls (.int v :: .int x :: .ref (B + 463) :: rest)) :=
  rast X hJ (by omega) (show _ = _ from pcT_463) hi hj (by decide) hdg (fun H1 locs1 h => kk H1 locs1 (h.upR (by unfold oR; rw [if_neg (by omega), if_neg (by omega), if_neg (by omega)]) (by omega) (by rw [pcT_463]; show Sum.inl (E.2 0, 8, Sum.inl (tr 8 (fun i => upd w (200 + j) v (200 + i)))) = _; rw [tr_put (a := fun i => w (200 + i)) (v := v) hj (fun i _ => by show (if 200 + i = 200 + j then v else w (200 + i)) = _; by_cases q : i = j <;> simp [q])]; rfl)))
theorem st_s (X : Cx p s m args c cc nL own E B) {t : Nat} (hJ : JG E B s (upS g t w) H locs) (ht : t < 10) {x : Int32} {j : Nat} (hi : x = nI (360 * t + j)) (hj : j < 360) (hdg : decode cc pc = .ok (.iastore, 1))
    (kk : ∀ (H1 : Heap) (locs1 : List Loc), JG E B s (upS g t (upd w j v)) H1 locs1 → W p l e R s m args below meth c H1 locs1 cells slots Q (F0 m (pc + 1) ls rest)) : W p l e R s m args below meth c H locs cells slots Q (F0 m pc ls (.int v :: .int x :: .ref (B + 460) :: rest)) := by
  refine rast X hJ (by omega) pcT_460 hi (j := 360 * t + j) (by omega) (by decide) hdg (fun H1 locs1 h => kk H1 locs1 (h.upS ?_))
  rw [pcT_460]
  have e : tr 3600 (fun i => (upS g t (upd w j v)).2.2.1 (i / 360) (i % 360)) = upd (tr 3600 (fun i => (upS g t w).2.2.1 (i / 360) (i % 360))) (360 * t + j) v := by
    refine tr_put (by omega) (fun i hi => ?_)
    by_cases h1 : i / 360 = t
    · rw [h1, upS_1, upS_1]
      show (if i % 360 = j then v else w (i % 360)) = _
      by_cases h2 : i % 360 = j
      · rw [if_pos h2, if_pos (by omega)]
      · rw [if_neg h2, if_neg (by omega)]
    · rw [upS_ne h1, upS_ne h1, if_neg (by omega)]
  rw [e]
theorem gX6_10 (X : Cx p s m args c cc nL RX6 E B) (hJ : JG E B s g H locs)  (hdg : decode cc pc = .ok (.getfield 10, 3))
    (kk : W p l e R s m args below meth c H locs cells slots Q (F0 m (pc + 3) ls (.ref (B + wo 0) :: rest))) : W p l e R s m args below meth c H locs cells slots Q (F0 m pc ls (.ref (B + 0) :: rest)) :=
  rget X hJ rfl inT6 0 (by decide) (tw (i := 292) (by decide +kernel) (by decide)) rfl (by omega) at_X rfl hdg kk
theorem gX6_16 (X : Cx p s m args c cc nL RX6 E B) (hJ : JG E B s g H locs)  (hdg : decode cc pc = .ok (.getfield 16, 3))
    (kk : W p l e R s m args below meth c H locs cells slots Q (F0 m (pc + 3) ls (.ref (B + wo 1) :: rest))) : W p l e R s m args below meth c H locs cells slots Q (F0 m pc ls (.ref (B + 0) :: rest)) :=
  rget X hJ rfl inT6 1 (by decide) (tw (i := 293) (by decide +kernel) (by decide)) rfl (by omega) at_X rfl hdg kk
theorem gX6_22 (X : Cx p s m args c cc nL RX6 E B) (hJ : JG E B s g H locs)  (hdg : decode cc pc = .ok (.getfield 22, 3))
    (kk : W p l e R s m args below meth c H locs cells slots Q (F0 m (pc + 3) ls (.ref (B + 83) :: rest))) : W p l e R s m args below meth c H locs cells slots Q (F0 m pc ls (.ref (B + 0) :: rest)) :=
  rget X hJ rfl inT6 2 (by decide) (tw (i := 294) (by decide +kernel) (by decide)) rfl (by omega) at_X rfl hdg kk
theorem gX6_26 (X : Cx p s m args c cc nL RX6 E B) (hJ : JG E B s g H locs)  (hdg : decode cc pc = .ok (.getfield 26, 3))
    (kk : W p l e R s m args below meth c H locs cells slots Q (F0 m (pc + 3) ls (.ref (B + 372) :: rest))) : W p l e R s m args below meth c H locs cells slots Q (F0 m pc ls (.ref (B + 0) :: rest)) :=
  rget X hJ rfl inT6 3 (by decide) (tw (i := 295) (by decide +kernel) (by decide)) rfl (by omega) at_X rfl hdg kk
theorem gX6_30 (X : Cx p s m args c cc nL RX6 E B) (hJ : JG E B s g H locs)  (hdg : decode cc pc = .ok (.getfield 30, 3))
    (kk : W p l e R s m args below meth c H locs cells slots Q (F0 m (pc + 3) ls (.ref (B + 455) :: rest))) : W p l e R s m args below meth c H locs cells slots Q (F0 m pc ls (.ref (B + 0) :: rest)) :=
  rget X hJ rfl inT6 4 (by decide) (tw (i := 296) (by decide +kernel) (by decide)) rfl (by omega) at_X rfl hdg kk
theorem gX6_37 (X : Cx p s m args c cc nL RX6 E B) (hJ : JG E B s g H locs)  (hdg : decode cc pc = .ok (.getfield 37, 3))
    (kk : W p l e R s m args below meth c H locs cells slots Q (F0 m (pc + 3) ls (.ref (B + 456) :: rest))) : W p l e R s m args below meth c H locs cells slots Q (F0 m pc ls (.ref (B + 0) :: rest)) :=
  rget X hJ rfl inT6 5 (by decide) (tw (i := 297) (by decide +kernel) (by decide)) rfl (by omega) at_X rfl hdg kk
theorem gX6_46 (X : Cx p s m args c cc nL RX6 E B) (hJ : JG E B s g H locs)  (hdg : decode cc pc = .ok (.getfield 46, 3))
    (kk : W p l e R s m args below meth c H locs cells slots Q (F0 m (pc + 3) ls (.ref (B + 458) :: rest))) : W p l e R s m args below meth c H locs cells slots Q (F0 m pc ls (.ref (B + 0) :: rest)) :=
  rget X hJ rfl inT6 6 (by decide) (tw (i := 298) (by decide +kernel) (by decide)) rfl (by omega) at_X rfl hdg kk
theorem gX6_92 (X : Cx p s m args c cc nL RX6 E B) (hJ : JG E B s g H locs) (hw : g.2.1 = w) (hdg : decode cc pc = .ok (.getfield 92, 3))
    (kk : W p l e R s m args below meth c H locs cells slots Q (F0 m (pc + 3) ls (.int (w 3) :: rest))) : W p l e R s m args below meth c H locs cells slots Q (F0 m pc ls (.ref (B + 456) :: rest)) :=
  rget X hJ rfl inT4 1 (by decide) (tw (i := 256) (by decide +kernel) (by decide)) rfl (by omega) (at_P hw) rfl hdg kk
theorem pX6_92 (X : Cx p s m args c cc nL RX6 E B) (hJ : JG E B s (upC g w) H locs)  (hdg : decode cc pc = .ok (.putfield 92, 3))
    (kk : ∀ (H1 : Heap) (locs1 : List Loc), JG E B s (upC g (upd w (3) v)) H1 locs1 → W p l e R s m args below meth c H1 locs1 cells slots Q (F0 m (pc + 3) ls rest)) : W p l e R s m args below meth c H locs cells slots Q (F0 m pc ls (.int v :: .ref (B + 456) :: rest)) :=
  rput X hJ rfl inT4 tyX4_ok nmX4 1 (by decide) (tw (i := 256) (by decide +kernel) (by decide)) rfl rfl rfl rfl (by omega) (at_P rfl) (Nat.le_of_ble_eq_true rfl) hdg (fun H1 locs1 h => kk H1 locs1 (h.upC (show oc 3 = 456 from rfl) (by omega) rfl))
theorem gX6_119 (X : Cx p s m args c cc nL RX6 E B) (hJ : JG E B s g H locs) (hk : k < 11) {i : Nat} (hi : i < 12) (hw : g.1 k = w) (hdg : decode cc pc = .ok (.getfield 119, 3))
    (kk : W p l e R s m args below meth c H locs cells slots Q (F0 m (pc + 3) ls (.int (w (360 + i)) :: rest))) : W p l e R s m args below meth c H locs cells slots Q (F0 m pc ls (.ref (B + (wo k + (5 + i))) :: rest)) :=
  rget X hJ rfl inT0 5 (by decide) (tw (i := 116) (by decide +kernel) (by decide)) rfl (lt_W hk (by omega)) (at_B hk hi hw) rfl hdg kk
theorem pX6_119 (X : Cx p s m args c cc nL RX6 E B) (hJ : JG E B s (upW g k w) H locs) (hk : k < 11) {i : Nat} (hi : i < 12)  (hdg : decode cc pc = .ok (.putfield 119, 3))
    (kk : ∀ (H1 : Heap) (locs1 : List Loc), JG E B s (upW g k (upd w (360 + i) v)) H1 locs1 → W p l e R s m args below meth c H1 locs1 cells slots Q (F0 m (pc + 3) ls rest)) : W p l e R s m args below meth c H locs cells slots Q (F0 m pc ls (.int v :: .ref (B + (wo k + (5 + i))) :: rest)) :=
  rput X hJ rfl inT0 tyX0_ok nmX0 5 (by decide) (tw (i := 116) (by decide +kernel) (by decide)) rfl rfl rfl rfl (lt_W hk (by omega)) (at_B hk hi upW_1) (Nat.le_of_ble_eq_true rfl) hdg (fun H1 locs1 h => kk H1 locs1 (h.upW hk (by omega) (ow_Bw hi) (by rw [pw_B hi]; simp [upd]; try omega)))
theorem gX6_133 (X : Cx p s m args c cc nL RX6 E B) (hJ : JG E B s g H locs) (hw : g.2.1 = w) (hdg : decode cc pc = .ok (.getfield 133, 3))
    (kk : W p l e R s m args below meth c H locs cells slots Q (F0 m (pc + 3) ls (.int (w 1) :: rest))) : W p l e R s m args below meth c H locs cells slots Q (F0 m pc ls (.ref (B + 83) :: rest)) :=
  rget X hJ rfl inT2 2 (by decide) (tw (i := 239) (by decide +kernel) (by decide)) rfl (by omega) (at_H hw) rfl hdg kk
theorem pX6_133 (X : Cx p s m args c cc nL RX6 E B) (hJ : JG E B s (upC g w) H locs)  (hdg : decode cc pc = .ok (.putfield 133, 3))
    (kk : ∀ (H1 : Heap) (locs1 : List Loc), JG E B s (upC g (upd w (1) v)) H1 locs1 → W p l e R s m args below meth c H1 locs1 cells slots Q (F0 m (pc + 3) ls rest)) : W p l e R s m args below meth c H locs cells slots Q (F0 m pc ls (.int v :: .ref (B + 83) :: rest)) :=
  rput X hJ rfl inT2 tyX2_ok nmX2 2 (by decide) (tw (i := 239) (by decide +kernel) (by decide)) rfl rfl rfl rfl (by omega) (at_H rfl) (Nat.le_of_ble_eq_true rfl) hdg (fun H1 locs1 h => kk H1 locs1 (h.upC (show oc 1 = 83 from rfl) (by omega) rfl))
theorem gX6_158 (X : Cx p s m args c cc nL RX6 E B) (hJ : JG E B s g H locs) (hk : k < 11) {i : Nat} (hi : i < 12) (hw : g.1 k = w) (hdg : decode cc pc = .ok (.getfield 158, 3))
    (kk : W p l e R s m args below meth c H locs cells slots Q (F0 m (pc + 3) ls (.int (w (20 + 7 * i + 2)) :: rest))) : W p l e R s m args below meth c H locs cells slots Q (F0 m pc ls (.ref (B + (wo k + (5 + i))) :: rest)) :=
  rget X hJ rfl inT0 3 (by decide) (tw (i := 110) (by decide +kernel) (by decide)) rfl (lt_W hk (by omega)) (at_B hk hi hw) rfl hdg kk
theorem pX6_158 (X : Cx p s m args c cc nL RX6 E B) (hJ : JG E B s (upW g k w) H locs) (hk : k < 11) {i : Nat} (hi : i < 12)  (hdg : decode cc pc = .ok (.putfield 158, 3))
    (kk : ∀ (H1 : Heap) (locs1 : List Loc), JG E B s (upW g k (upd w (20 + 7 * i + 2) v)) H1 locs1 → W p l e R s m args below meth c H1 locs1 cells slots Q (F0 m (pc + 3) ls rest)) : W p l e R s m args below meth c H locs cells slots Q (F0 m pc ls (.int v :: .ref (B + (wo k + (5 + i))) :: rest)) :=
  rput X hJ rfl inT0 tyX0_ok nmX0 3 (by decide) (tw (i := 110) (by decide +kernel) (by decide)) rfl rfl rfl rfl (lt_W hk (by omega)) (at_B hk hi upW_1) (Nat.le_of_ble_eq_true rfl) hdg (fun H1 locs1 h => kk H1 locs1 (h.upW hk (by omega) (ow_B (f := 2) hi (by omega)) (by rw [pw_B hi]; simp [upd]; try omega)))
theorem gX6_204 (X : Cx p s m args c cc nL RX6 E B) (hJ : JG E B s g H locs) (hk : k < 11) (hw : g.1 k = w) (hdg : decode cc pc = .ok (.getfield 204, 3))
    (kk : W p l e R s m args below meth c H locs cells slots Q (F0 m (pc + 3) ls (.int (w 6) :: rest))) : W p l e R s m args below meth c H locs cells slots Q (F0 m pc ls (.ref (B + wo k) :: rest)) :=
  rget X hJ rfl inT5 6 (by decide) (tw (i := 199) (by decide +kernel) (by decide)) rfl (lt_W0 hk) (at_W hk hw) rfl hdg kk
theorem pX6_204 (X : Cx p s m args c cc nL RX6 E B) (hJ : JG E B s (upW g k w) H locs) (hk : k < 11)  (hdg : decode cc pc = .ok (.putfield 204, 3))
    (kk : ∀ (H1 : Heap) (locs1 : List Loc), JG E B s (upW g k (upd w (6) v)) H1 locs1 → W p l e R s m args below meth c H1 locs1 cells slots Q (F0 m (pc + 3) ls rest)) : W p l e R s m args below meth c H locs cells slots Q (F0 m pc ls (.int v :: .ref (B + wo k) :: rest)) :=
  rput X hJ rfl inT5 tyX5_ok nmX5 6 (by decide) (tw (i := 199) (by decide +kernel) (by decide)) rfl rfl rfl rfl (lt_W0 hk) (at_W hk upW_1) (Nat.le_of_ble_eq_true rfl) hdg (fun H1 locs1 h => kk H1 locs1 (JL.upW (r := 0) h hk (by omega) (show ow 6 = 0 from rfl) rfl))
theorem gX6_207 (X : Cx p s m args c cc nL RX6 E B) (hJ : JG E B s g H locs) (hk : k < 11) {i : Nat} (hi : i < 8) (hw : g.1 k = w) (hdg : decode cc pc = .ok (.getfield 207, 3))
    (kk : W p l e R s m args below meth c H locs cells slots Q (F0 m (pc + 3) ls (.int (nI i) :: rest))) : W p l e R s m args below meth c H locs cells slots Q (F0 m pc ls (.ref (B + (wo k + (17 + 3 * i))) :: rest)) :=
  rget X hJ rfl inT1 0 (by decide) (tw (i := 150) (by decide +kernel) (by decide)) rfl (lt_W hk (by omega)) (at_C hk hi hw) rfl hdg kk
theorem gX6_216 (X : Cx p s m args c cc nL RX6 E B) (hJ : JG E B s g H locs) (hk : k < 11) {i : Nat} (hi : i < 8) (hw : g.1 k = w) (hdg : decode cc pc = .ok (.getfield 216, 3))
    (kk : W p l e R s m args below meth c H locs cells slots Q (F0 m (pc + 3) ls (.int (w (104 + 8 * i)) :: rest))) : W p l e R s m args below meth c H locs cells slots Q (F0 m pc ls (.ref (B + (wo k + (17 + 3 * i))) :: rest)) :=
  rget X hJ rfl inT1 1 (by decide) (tw (i := 153) (by decide +kernel) (by decide)) rfl (lt_W hk (by omega)) (at_C hk hi hw) rfl hdg kk
theorem pX6_216 (X : Cx p s m args c cc nL RX6 E B) (hJ : JG E B s (upW g k w) H locs) (hk : k < 11) {i : Nat} (hi : i < 8)  (hdg : decode cc pc = .ok (.putfield 216, 3))
    (kk : ∀ (H1 : Heap) (locs1 : List Loc), JG E B s (upW g k (upd w (104 + 8 * i) v)) H1 locs1 → W p l e R s m args below meth c H1 locs1 cells slots Q (F0 m (pc + 3) ls rest)) : W p l e R s m args below meth c H locs cells slots Q (F0 m pc ls (.int v :: .ref (B + (wo k + (17 + 3 * i))) :: rest)) :=
  rput X hJ rfl inT1 tyX1_ok nmX1 1 (by decide) (tw (i := 153) (by decide +kernel) (by decide)) rfl rfl rfl rfl (lt_W hk (by omega)) (at_C hk hi upW_1) (Nat.le_of_ble_eq_true rfl) hdg (fun H1 locs1 h => kk H1 locs1 (h.upW hk (by omega) (ow_C (f := 0) hi (by omega)) (by rw [pw_C hi]; simp [upd]; try omega)))
theorem gX6_219 (X : Cx p s m args c cc nL RX6 E B) (hJ : JG E B s g H locs) (hk : k < 11) {i : Nat} (hi : i < 8) (hw : g.1 k = w) (hdg : decode cc pc = .ok (.getfield 219, 3))
    (kk : W p l e R s m args below meth c H locs cells slots Q (F0 m (pc + 3) ls (.int (w (104 + 8 * i + 1)) :: rest))) : W p l e R s m args below meth c H locs cells slots Q (F0 m pc ls (.ref (B + (wo k + (17 + 3 * i))) :: rest)) :=
  rget X hJ rfl inT1 2 (by decide) (tw (i := 156) (by decide +kernel) (by decide)) rfl (lt_W hk (by omega)) (at_C hk hi hw) rfl hdg kk
theorem pX6_219 (X : Cx p s m args c cc nL RX6 E B) (hJ : JG E B s (upW g k w) H locs) (hk : k < 11) {i : Nat} (hi : i < 8)  (hdg : decode cc pc = .ok (.putfield 219, 3))
    (kk : ∀ (H1 : Heap) (locs1 : List Loc), JG E B s (upW g k (upd w (104 + 8 * i + 1) v)) H1 locs1 → W p l e R s m args below meth c H1 locs1 cells slots Q (F0 m (pc + 3) ls rest)) : W p l e R s m args below meth c H locs cells slots Q (F0 m pc ls (.int v :: .ref (B + (wo k + (17 + 3 * i))) :: rest)) :=
  rput X hJ rfl inT1 tyX1_ok nmX1 2 (by decide) (tw (i := 156) (by decide +kernel) (by decide)) rfl rfl rfl rfl (lt_W hk (by omega)) (at_C hk hi upW_1) (Nat.le_of_ble_eq_true rfl) hdg (fun H1 locs1 h => kk H1 locs1 (h.upW hk (by omega) (ow_C (f := 1) hi (by omega)) (by rw [pw_C hi]; simp [upd]; try omega)))
theorem gX6_225 (X : Cx p s m args c cc nL RX6 E B) (hJ : JG E B s g H locs) (hw : g.2.1 = w) (hdg : decode cc pc = .ok (.getfield 225, 3))
    (kk : W p l e R s m args below meth c H locs cells slots Q (F0 m (pc + 3) ls (.int (w 5) :: rest))) : W p l e R s m args below meth c H locs cells slots Q (F0 m pc ls (.ref (B + 458) :: rest)) :=
  rget X hJ rfl inT3 2 (by decide) (tw (i := 272) (by decide +kernel) (by decide)) rfl (by omega) (at_O hw) rfl hdg kk
theorem pX6_225 (X : Cx p s m args c cc nL RX6 E B) (hJ : JG E B s (upC g w) H locs)  (hdg : decode cc pc = .ok (.putfield 225, 3))
    (kk : ∀ (H1 : Heap) (locs1 : List Loc), JG E B s (upC g (upd w (5) v)) H1 locs1 → W p l e R s m args below meth c H1 locs1 cells slots Q (F0 m (pc + 3) ls rest)) : W p l e R s m args below meth c H locs cells slots Q (F0 m pc ls (.int v :: .ref (B + 458) :: rest)) :=
  rput X hJ rfl inT3 tyX3_ok nmX3 2 (by decide) (tw (i := 272) (by decide +kernel) (by decide)) rfl rfl rfl rfl (by omega) (at_O rfl) (Nat.le_of_ble_eq_true rfl) hdg (fun H1 locs1 h => kk H1 locs1 (h.upC (show oc 5 = 458 from rfl) (by omega) rfl))
theorem gX6_228 (X : Cx p s m args c cc nL RX6 E B) (hJ : JG E B s g H locs) (hw : g.2.1 = w) (hdg : decode cc pc = .ok (.getfield 228, 3))
    (kk : W p l e R s m args below meth c H locs cells slots Q (F0 m (pc + 3) ls (.int (w 6) :: rest))) : W p l e R s m args below meth c H locs cells slots Q (F0 m pc ls (.ref (B + 458) :: rest)) :=
  rget X hJ rfl inT3 3 (by decide) (tw (i := 274) (by decide +kernel) (by decide)) rfl (by omega) (at_O hw) rfl hdg kk
theorem pX6_228 (X : Cx p s m args c cc nL RX6 E B) (hJ : JG E B s (upC g w) H locs)  (hdg : decode cc pc = .ok (.putfield 228, 3))
    (kk : ∀ (H1 : Heap) (locs1 : List Loc), JG E B s (upC g (upd w (6) v)) H1 locs1 → W p l e R s m args below meth c H1 locs1 cells slots Q (F0 m (pc + 3) ls rest)) : W p l e R s m args below meth c H locs cells slots Q (F0 m pc ls (.int v :: .ref (B + 458) :: rest)) :=
  rput X hJ rfl inT3 tyX3_ok nmX3 3 (by decide) (tw (i := 274) (by decide +kernel) (by decide)) rfl rfl rfl rfl (by omega) (at_O rfl) (Nat.le_of_ble_eq_true rfl) hdg (fun H1 locs1 h => kk H1 locs1 (h.upC (show oc 6 = 458 from rfl) (by omega) rfl))
theorem gX6_231 (X : Cx p s m args c cc nL RX6 E B) (hJ : JG E B s g H locs) (hw : g.2.1 = w) (hdg : decode cc pc = .ok (.getfield 231, 3))
    (kk : W p l e R s m args below meth c H locs cells slots Q (F0 m (pc + 3) ls (.int (w 7) :: rest))) : W p l e R s m args below meth c H locs cells slots Q (F0 m pc ls (.ref (B + 458) :: rest)) :=
  rget X hJ rfl inT3 4 (by decide) (tw (i := 276) (by decide +kernel) (by decide)) rfl (by omega) (at_O hw) rfl hdg kk
theorem pX6_231 (X : Cx p s m args c cc nL RX6 E B) (hJ : JG E B s (upC g w) H locs)  (hdg : decode cc pc = .ok (.putfield 231, 3))
    (kk : ∀ (H1 : Heap) (locs1 : List Loc), JG E B s (upC g (upd w (7) v)) H1 locs1 → W p l e R s m args below meth c H1 locs1 cells slots Q (F0 m (pc + 3) ls rest)) : W p l e R s m args below meth c H locs cells slots Q (F0 m pc ls (.int v :: .ref (B + 458) :: rest)) :=
  rput X hJ rfl inT3 tyX3_ok nmX3 4 (by decide) (tw (i := 276) (by decide +kernel) (by decide)) rfl rfl rfl rfl (by omega) (at_O rfl) (Nat.le_of_ble_eq_true rfl) hdg (fun H1 locs1 h => kk H1 locs1 (h.upC (show oc 7 = 458 from rfl) (by omega) rfl))
theorem gX6_234 (X : Cx p s m args c cc nL RX6 E B) (hJ : JG E B s g H locs) (hw : g.2.1 = w) (hdg : decode cc pc = .ok (.getfield 234, 3))
    (kk : W p l e R s m args below meth c H locs cells slots Q (F0 m (pc + 3) ls (.int (w 8) :: rest))) : W p l e R s m args below meth c H locs cells slots Q (F0 m pc ls (.ref (B + 458) :: rest)) :=
  rget X hJ rfl inT3 5 (by decide) (tw (i := 278) (by decide +kernel) (by decide)) rfl (by omega) (at_O hw) rfl hdg kk
theorem pX6_234 (X : Cx p s m args c cc nL RX6 E B) (hJ : JG E B s (upC g w) H locs)  (hdg : decode cc pc = .ok (.putfield 234, 3))
    (kk : ∀ (H1 : Heap) (locs1 : List Loc), JG E B s (upC g (upd w (8) v)) H1 locs1 → W p l e R s m args below meth c H1 locs1 cells slots Q (F0 m (pc + 3) ls rest)) : W p l e R s m args below meth c H locs cells slots Q (F0 m pc ls (.int v :: .ref (B + 458) :: rest)) :=
  rput X hJ rfl inT3 tyX3_ok nmX3 5 (by decide) (tw (i := 278) (by decide +kernel) (by decide)) rfl rfl rfl rfl (by omega) (at_O rfl) (Nat.le_of_ble_eq_true rfl) hdg (fun H1 locs1 h => kk H1 locs1 (h.upC (show oc 8 = 458 from rfl) (by omega) rfl))
theorem gX0_9 (X : Cx p s m args c cc nL RX0 E B) (hJ : JG E B s g H locs) (hk : k < 11) {i : Nat} (hi : i < 12) (hw : g.1 k = w) (hdg : decode cc pc = .ok (.getfield 9, 3))
    (kk : W p l e R s m args below meth c H locs cells slots Q (F0 m (pc + 3) ls (.int (nI i) :: rest))) : W p l e R s m args below meth c H locs cells slots Q (F0 m pc ls (.ref (B + (wo k + (5 + i))) :: rest)) :=
  rget X hJ rfl inT0 0 (by decide) (tw (i := 100) (by decide +kernel) (by decide)) rfl (lt_W hk (by omega)) (at_B hk hi hw) rfl hdg kk
theorem gX0_15 (X : Cx p s m args c cc nL RX0 E B) (hJ : JG E B s g H locs) (hk : k < 11) {i : Nat} (hi : i < 12) (hw : g.1 k = w) (hdg : decode cc pc = .ok (.getfield 15, 3))
    (kk : W p l e R s m args below meth c H locs cells slots Q (F0 m (pc + 3) ls (.int (w (20 + 7 * i)) :: rest))) : W p l e R s m args below meth c H locs cells slots Q (F0 m pc ls (.ref (B + (wo k + (5 + i))) :: rest)) :=
  rget X hJ rfl inT0 1 (by decide) (tw (i := 103) (by decide +kernel) (by decide)) rfl (lt_W hk (by omega)) (at_B hk hi hw) rfl hdg kk
theorem pX0_15 (X : Cx p s m args c cc nL RX0 E B) (hJ : JG E B s (upW g k w) H locs) (hk : k < 11) {i : Nat} (hi : i < 12)  (hdg : decode cc pc = .ok (.putfield 15, 3))
    (kk : ∀ (H1 : Heap) (locs1 : List Loc), JG E B s (upW g k (upd w (20 + 7 * i) v)) H1 locs1 → W p l e R s m args below meth c H1 locs1 cells slots Q (F0 m (pc + 3) ls rest)) : W p l e R s m args below meth c H locs cells slots Q (F0 m pc ls (.int v :: .ref (B + (wo k + (5 + i))) :: rest)) :=
  rput X hJ rfl inT0 tyX0_ok nmX0 1 (by decide) (tw (i := 103) (by decide +kernel) (by decide)) rfl rfl rfl rfl (lt_W hk (by omega)) (at_B hk hi upW_1) (Nat.le_of_ble_eq_true rfl) hdg (fun H1 locs1 h => kk H1 locs1 (h.upW hk (by omega) (ow_B (f := 0) hi (by omega)) (by rw [pw_B hi]; simp [upd]; try omega)))
theorem gX0_18 (X : Cx p s m args c cc nL RX0 E B) (hJ : JG E B s g H locs) (hk : k < 11) {i : Nat} (hi : i < 12) (hw : g.1 k = w) (hdg : decode cc pc = .ok (.getfield 18, 3))
    (kk : W p l e R s m args below meth c H locs cells slots Q (F0 m (pc + 3) ls (.int (w (20 + 7 * i + 1)) :: rest))) : W p l e R s m args below meth c H locs cells slots Q (F0 m pc ls (.ref (B + (wo k + (5 + i))) :: rest)) :=
  rget X hJ rfl inT0 2 (by decide) (tw (i := 105) (by decide +kernel) (by decide)) rfl (lt_W hk (by omega)) (at_B hk hi hw) rfl hdg kk
theorem pX0_18 (X : Cx p s m args c cc nL RX0 E B) (hJ : JG E B s (upW g k w) H locs) (hk : k < 11) {i : Nat} (hi : i < 12)  (hdg : decode cc pc = .ok (.putfield 18, 3))
    (kk : ∀ (H1 : Heap) (locs1 : List Loc), JG E B s (upW g k (upd w (20 + 7 * i + 1) v)) H1 locs1 → W p l e R s m args below meth c H1 locs1 cells slots Q (F0 m (pc + 3) ls rest)) : W p l e R s m args below meth c H locs cells slots Q (F0 m pc ls (.int v :: .ref (B + (wo k + (5 + i))) :: rest)) :=
  rput X hJ rfl inT0 tyX0_ok nmX0 2 (by decide) (tw (i := 105) (by decide +kernel) (by decide)) rfl rfl rfl rfl (lt_W hk (by omega)) (at_B hk hi upW_1) (Nat.le_of_ble_eq_true rfl) hdg (fun H1 locs1 h => kk H1 locs1 (h.upW hk (by omega) (ow_B (f := 1) hi (by omega)) (by rw [pw_B hi]; simp [upd]; try omega)))
theorem gX0_21 (X : Cx p s m args c cc nL RX0 E B) (hJ : JG E B s g H locs) (hk : k < 11) {i : Nat} (hi : i < 12) (hw : g.1 k = w) (hdg : decode cc pc = .ok (.getfield 21, 3))
    (kk : W p l e R s m args below meth c H locs cells slots Q (F0 m (pc + 3) ls (.int (w (20 + 7 * i + 2)) :: rest))) : W p l e R s m args below meth c H locs cells slots Q (F0 m pc ls (.ref (B + (wo k + (5 + i))) :: rest)) :=
  rget X hJ rfl inT0 3 (by decide) (tw (i := 107) (by decide +kernel) (by decide)) rfl (lt_W hk (by omega)) (at_B hk hi hw) rfl hdg kk
theorem pX0_21 (X : Cx p s m args c cc nL RX0 E B) (hJ : JG E B s (upW g k w) H locs) (hk : k < 11) {i : Nat} (hi : i < 12)  (hdg : decode cc pc = .ok (.putfield 21, 3))
    (kk : ∀ (H1 : Heap) (locs1 : List Loc), JG E B s (upW g k (upd w (20 + 7 * i + 2) v)) H1 locs1 → W p l e R s m args below meth c H1 locs1 cells slots Q (F0 m (pc + 3) ls rest)) : W p l e R s m args below meth c H locs cells slots Q (F0 m pc ls (.int v :: .ref (B + (wo k + (5 + i))) :: rest)) :=
  rput X hJ rfl inT0 tyX0_ok nmX0 3 (by decide) (tw (i := 107) (by decide +kernel) (by decide)) rfl rfl rfl rfl (lt_W hk (by omega)) (at_B hk hi upW_1) (Nat.le_of_ble_eq_true rfl) hdg (fun H1 locs1 h => kk H1 locs1 (h.upW hk (by omega) (ow_B (f := 2) hi (by omega)) (by rw [pw_B hi]; simp [upd]; try omega)))
theorem gX0_24 (X : Cx p s m args c cc nL RX0 E B) (hJ : JG E B s g H locs) (hk : k < 11) {i : Nat} (hi : i < 12) (hw : g.1 k = w) (hdg : decode cc pc = .ok (.getfield 24, 3))
    (kk : W p l e R s m args below meth c H locs cells slots Q (F0 m (pc + 3) ls (.int (w (20 + 7 * i + 3)) :: rest))) : W p l e R s m args below meth c H locs cells slots Q (F0 m pc ls (.ref (B + (wo k + (5 + i))) :: rest)) :=
  rget X hJ rfl inT0 4 (by decide) (tw (i := 111) (by decide +kernel) (by decide)) rfl (lt_W hk (by omega)) (at_B hk hi hw) rfl hdg kk
theorem pX0_24 (X : Cx p s m args c cc nL RX0 E B) (hJ : JG E B s (upW g k w) H locs) (hk : k < 11) {i : Nat} (hi : i < 12)  (hdg : decode cc pc = .ok (.putfield 24, 3))
    (kk : ∀ (H1 : Heap) (locs1 : List Loc), JG E B s (upW g k (upd w (20 + 7 * i + 3) v)) H1 locs1 → W p l e R s m args below meth c H1 locs1 cells slots Q (F0 m (pc + 3) ls rest)) : W p l e R s m args below meth c H locs cells slots Q (F0 m pc ls (.int v :: .ref (B + (wo k + (5 + i))) :: rest)) :=
  rput X hJ rfl inT0 tyX0_ok nmX0 4 (by decide) (tw (i := 111) (by decide +kernel) (by decide)) rfl rfl rfl rfl (lt_W hk (by omega)) (at_B hk hi upW_1) (Nat.le_of_ble_eq_true rfl) hdg (fun H1 locs1 h => kk H1 locs1 (h.upW hk (by omega) (ow_B (f := 3) hi (by omega)) (by rw [pw_B hi]; simp [upd]; try omega)))
theorem gX0_27 (X : Cx p s m args c cc nL RX0 E B) (hJ : JG E B s g H locs) (hk : k < 11) {i : Nat} (hi : i < 12) (hw : g.1 k = w) (hdg : decode cc pc = .ok (.getfield 27, 3))
    (kk : W p l e R s m args below meth c H locs cells slots Q (F0 m (pc + 3) ls (.int (w (360 + i)) :: rest))) : W p l e R s m args below meth c H locs cells slots Q (F0 m pc ls (.ref (B + (wo k + (5 + i))) :: rest)) :=
  rget X hJ rfl inT0 5 (by decide) (tw (i := 114) (by decide +kernel) (by decide)) rfl (lt_W hk (by omega)) (at_B hk hi hw) rfl hdg kk
theorem pX0_27 (X : Cx p s m args c cc nL RX0 E B) (hJ : JG E B s (upW g k w) H locs) (hk : k < 11) {i : Nat} (hi : i < 12)  (hdg : decode cc pc = .ok (.putfield 27, 3))
    (kk : ∀ (H1 : Heap) (locs1 : List Loc), JG E B s (upW g k (upd w (360 + i) v)) H1 locs1 → W p l e R s m args below meth c H1 locs1 cells slots Q (F0 m (pc + 3) ls rest)) : W p l e R s m args below meth c H locs cells slots Q (F0 m pc ls (.int v :: .ref (B + (wo k + (5 + i))) :: rest)) :=
  rput X hJ rfl inT0 tyX0_ok nmX0 5 (by decide) (tw (i := 114) (by decide +kernel) (by decide)) rfl rfl rfl rfl (lt_W hk (by omega)) (at_B hk hi upW_1) (Nat.le_of_ble_eq_true rfl) hdg (fun H1 locs1 h => kk H1 locs1 (h.upW hk (by omega) (ow_Bw hi) (by rw [pw_B hi]; simp [upd]; try omega)))
theorem gX0_30 (X : Cx p s m args c cc nL RX0 E B) (hJ : JG E B s g H locs) (hk : k < 11) {i : Nat} (hi : i < 12) (hw : g.1 k = w) (hdg : decode cc pc = .ok (.getfield 30, 3))
    (kk : W p l e R s m args below meth c H locs cells slots Q (F0 m (pc + 3) ls (.int (w (20 + 7 * i + 4)) :: rest))) : W p l e R s m args below meth c H locs cells slots Q (F0 m pc ls (.ref (B + (wo k + (5 + i))) :: rest)) :=
  rget X hJ rfl inT0 6 (by decide) (tw (i := 117) (by decide +kernel) (by decide)) rfl (lt_W hk (by omega)) (at_B hk hi hw) rfl hdg kk
theorem pX0_30 (X : Cx p s m args c cc nL RX0 E B) (hJ : JG E B s (upW g k w) H locs) (hk : k < 11) {i : Nat} (hi : i < 12)  (hdg : decode cc pc = .ok (.putfield 30, 3))
    (kk : ∀ (H1 : Heap) (locs1 : List Loc), JG E B s (upW g k (upd w (20 + 7 * i + 4) v)) H1 locs1 → W p l e R s m args below meth c H1 locs1 cells slots Q (F0 m (pc + 3) ls rest)) : W p l e R s m args below meth c H locs cells slots Q (F0 m pc ls (.int v :: .ref (B + (wo k + (5 + i))) :: rest)) :=
  rput X hJ rfl inT0 tyX0_ok nmX0 6 (by decide) (tw (i := 117) (by decide +kernel) (by decide)) rfl rfl rfl rfl (lt_W hk (by omega)) (at_B hk hi upW_1) (Nat.le_of_ble_eq_true rfl) hdg (fun H1 locs1 h => kk H1 locs1 (h.upW hk (by omega) (ow_B (f := 4) hi (by omega)) (by rw [pw_B hi]; simp [upd]; try omega)))
theorem gX0_33 (X : Cx p s m args c cc nL RX0 E B) (hJ : JG E B s g H locs) (hk : k < 11) {i : Nat} (hi : i < 12) (hw : g.1 k = w) (hdg : decode cc pc = .ok (.getfield 33, 3))
    (kk : W p l e R s m args below meth c H locs cells slots Q (F0 m (pc + 3) ls (.int (w (20 + 7 * i + 5)) :: rest))) : W p l e R s m args below meth c H locs cells slots Q (F0 m pc ls (.ref (B + (wo k + (5 + i))) :: rest)) :=
  rget X hJ rfl inT0 7 (by decide) (tw (i := 119) (by decide +kernel) (by decide)) rfl (lt_W hk (by omega)) (at_B hk hi hw) rfl hdg kk
theorem pX0_33 (X : Cx p s m args c cc nL RX0 E B) (hJ : JG E B s (upW g k w) H locs) (hk : k < 11) {i : Nat} (hi : i < 12)  (hdg : decode cc pc = .ok (.putfield 33, 3))
    (kk : ∀ (H1 : Heap) (locs1 : List Loc), JG E B s (upW g k (upd w (20 + 7 * i + 5) v)) H1 locs1 → W p l e R s m args below meth c H1 locs1 cells slots Q (F0 m (pc + 3) ls rest)) : W p l e R s m args below meth c H locs cells slots Q (F0 m pc ls (.int v :: .ref (B + (wo k + (5 + i))) :: rest)) :=
  rput X hJ rfl inT0 tyX0_ok nmX0 7 (by decide) (tw (i := 119) (by decide +kernel) (by decide)) rfl rfl rfl rfl (lt_W hk (by omega)) (at_B hk hi upW_1) (Nat.le_of_ble_eq_true rfl) hdg (fun H1 locs1 h => kk H1 locs1 (h.upW hk (by omega) (ow_B (f := 5) hi (by omega)) (by rw [pw_B hi]; simp [upd]; try omega)))
theorem gX0_36 (X : Cx p s m args c cc nL RX0 E B) (hJ : JG E B s g H locs) (hk : k < 11) {i : Nat} (hi : i < 12) (hw : g.1 k = w) (hdg : decode cc pc = .ok (.getfield 36, 3))
    (kk : W p l e R s m args below meth c H locs cells slots Q (F0 m (pc + 3) ls (.int (w (20 + 7 * i + 6)) :: rest))) : W p l e R s m args below meth c H locs cells slots Q (F0 m pc ls (.ref (B + (wo k + (5 + i))) :: rest)) :=
  rget X hJ rfl inT0 8 (by decide) (tw (i := 121) (by decide +kernel) (by decide)) rfl (lt_W hk (by omega)) (at_B hk hi hw) rfl hdg kk
theorem pX0_36 (X : Cx p s m args c cc nL RX0 E B) (hJ : JG E B s (upW g k w) H locs) (hk : k < 11) {i : Nat} (hi : i < 12)  (hdg : decode cc pc = .ok (.putfield 36, 3))
    (kk : ∀ (H1 : Heap) (locs1 : List Loc), JG E B s (upW g k (upd w (20 + 7 * i + 6) v)) H1 locs1 → W p l e R s m args below meth c H1 locs1 cells slots Q (F0 m (pc + 3) ls rest)) : W p l e R s m args below meth c H locs cells slots Q (F0 m pc ls (.int v :: .ref (B + (wo k + (5 + i))) :: rest)) :=
  rput X hJ rfl inT0 tyX0_ok nmX0 8 (by decide) (tw (i := 121) (by decide +kernel) (by decide)) rfl rfl rfl rfl (lt_W hk (by omega)) (at_B hk hi upW_1) (Nat.le_of_ble_eq_true rfl) hdg (fun H1 locs1 h => kk H1 locs1 (h.upW hk (by omega) (ow_B (f := 6) hi (by omega)) (by rw [pw_B hi]; simp [upd]; try omega)))
theorem gX1_9 (X : Cx p s m args c cc nL RX1 E B) (hJ : JG E B s g H locs) (hk : k < 11) {i : Nat} (hi : i < 8) (hw : g.1 k = w) (hdg : decode cc pc = .ok (.getfield 9, 3))
    (kk : W p l e R s m args below meth c H locs cells slots Q (F0 m (pc + 3) ls (.int (w (104 + 8 * i + 2)) :: rest))) : W p l e R s m args below meth c H locs cells slots Q (F0 m pc ls (.ref (B + (wo k + (17 + 3 * i))) :: rest)) :=
  rget X hJ rfl inT1 3 (by decide) (tw (i := 157) (by decide +kernel) (by decide)) rfl (lt_W hk (by omega)) (at_C hk hi hw) rfl hdg kk
theorem pX1_9 (X : Cx p s m args c cc nL RX1 E B) (hJ : JG E B s (upW g k w) H locs) (hk : k < 11) {i : Nat} (hi : i < 8)  (hdg : decode cc pc = .ok (.putfield 9, 3))
    (kk : ∀ (H1 : Heap) (locs1 : List Loc), JG E B s (upW g k (upd w (104 + 8 * i + 2) v)) H1 locs1 → W p l e R s m args below meth c H1 locs1 cells slots Q (F0 m (pc + 3) ls rest)) : W p l e R s m args below meth c H locs cells slots Q (F0 m pc ls (.int v :: .ref (B + (wo k + (17 + 3 * i))) :: rest)) :=
  rput X hJ rfl inT1 tyX1_ok nmX1 3 (by decide) (tw (i := 157) (by decide +kernel) (by decide)) rfl rfl rfl rfl (lt_W hk (by omega)) (at_C hk hi upW_1) (Nat.le_of_ble_eq_true rfl) hdg (fun H1 locs1 h => kk H1 locs1 (h.upW hk (by omega) (ow_C (f := 2) hi (by omega)) (by rw [pw_C hi]; simp [upd]; try omega)))
theorem gX1_15 (X : Cx p s m args c cc nL RX1 E B) (hJ : JG E B s g H locs) (hk : k < 11) {i : Nat} (hi : i < 8) (hw : g.1 k = w) (hdg : decode cc pc = .ok (.getfield 15, 3))
    (kk : W p l e R s m args below meth c H locs cells slots Q (F0 m (pc + 3) ls (.int (w (104 + 8 * i + 3)) :: rest))) : W p l e R s m args below meth c H locs cells slots Q (F0 m pc ls (.ref (B + (wo k + (17 + 3 * i))) :: rest)) :=
  rget X hJ rfl inT1 4 (by decide) (tw (i := 159) (by decide +kernel) (by decide)) rfl (lt_W hk (by omega)) (at_C hk hi hw) rfl hdg kk
theorem pX1_15 (X : Cx p s m args c cc nL RX1 E B) (hJ : JG E B s (upW g k w) H locs) (hk : k < 11) {i : Nat} (hi : i < 8)  (hdg : decode cc pc = .ok (.putfield 15, 3))
    (kk : ∀ (H1 : Heap) (locs1 : List Loc), JG E B s (upW g k (upd w (104 + 8 * i + 3) v)) H1 locs1 → W p l e R s m args below meth c H1 locs1 cells slots Q (F0 m (pc + 3) ls rest)) : W p l e R s m args below meth c H locs cells slots Q (F0 m pc ls (.int v :: .ref (B + (wo k + (17 + 3 * i))) :: rest)) :=
  rput X hJ rfl inT1 tyX1_ok nmX1 4 (by decide) (tw (i := 159) (by decide +kernel) (by decide)) rfl rfl rfl rfl (lt_W hk (by omega)) (at_C hk hi upW_1) (Nat.le_of_ble_eq_true rfl) hdg (fun H1 locs1 h => kk H1 locs1 (h.upW hk (by omega) (ow_C (f := 3) hi (by omega)) (by rw [pw_C hi]; simp [upd]; try omega)))
theorem gX1_18 (X : Cx p s m args c cc nL RX1 E B) (hJ : JG E B s g H locs) (hk : k < 11) {i : Nat} (hi : i < 8) (hw : g.1 k = w) (hdg : decode cc pc = .ok (.getfield 18, 3))
    (kk : W p l e R s m args below meth c H locs cells slots Q (F0 m (pc + 3) ls (.ref (B + (wo k + (18 + 3 * i))) :: rest))) : W p l e R s m args below meth c H locs cells slots Q (F0 m pc ls (.ref (B + (wo k + (17 + 3 * i))) :: rest)) :=
  rget X hJ rfl inT1 9 (by decide) (tw (i := 167) (by decide +kernel) (by decide)) rfl (lt_W hk (by omega)) (at_C hk hi hw) rfl hdg kk
theorem gX1_22 (X : Cx p s m args c cc nL RX1 E B) (hJ : JG E B s g H locs) (hk : k < 11) {i : Nat} (hi : i < 8) (hw : g.1 k = w) (hdg : decode cc pc = .ok (.getfield 22, 3))
    (kk : W p l e R s m args below meth c H locs cells slots Q (F0 m (pc + 3) ls (.ref (B + (wo k + (19 + 3 * i))) :: rest))) : W p l e R s m args below meth c H locs cells slots Q (F0 m pc ls (.ref (B + (wo k + (17 + 3 * i))) :: rest)) :=
  rget X hJ rfl inT1 10 (by decide) (tw (i := 168) (by decide +kernel) (by decide)) rfl (lt_W hk (by omega)) (at_C hk hi hw) rfl hdg kk
theorem gX1_25 (X : Cx p s m args c cc nL RX1 E B) (hJ : JG E B s g H locs) (hk : k < 11) {i : Nat} (hi : i < 8) (hw : g.1 k = w) (hdg : decode cc pc = .ok (.getfield 25, 3))
    (kk : W p l e R s m args below meth c H locs cells slots Q (F0 m (pc + 3) ls (.int (nI i) :: rest))) : W p l e R s m args below meth c H locs cells slots Q (F0 m pc ls (.ref (B + (wo k + (17 + 3 * i))) :: rest)) :=
  rget X hJ rfl inT1 0 (by decide) (tw (i := 148) (by decide +kernel) (by decide)) rfl (lt_W hk (by omega)) (at_C hk hi hw) rfl hdg kk
theorem gX1_28 (X : Cx p s m args c cc nL RX1 E B) (hJ : JG E B s g H locs) (hk : k < 11) {i : Nat} (hi : i < 8) (hw : g.1 k = w) (hdg : decode cc pc = .ok (.getfield 28, 3))
    (kk : W p l e R s m args below meth c H locs cells slots Q (F0 m (pc + 3) ls (.int (w (104 + 8 * i)) :: rest))) : W p l e R s m args below meth c H locs cells slots Q (F0 m pc ls (.ref (B + (wo k + (17 + 3 * i))) :: rest)) :=
  rget X hJ rfl inT1 1 (by decide) (tw (i := 151) (by decide +kernel) (by decide)) rfl (lt_W hk (by omega)) (at_C hk hi hw) rfl hdg kk
theorem pX1_28 (X : Cx p s m args c cc nL RX1 E B) (hJ : JG E B s (upW g k w) H locs) (hk : k < 11) {i : Nat} (hi : i < 8)  (hdg : decode cc pc = .ok (.putfield 28, 3))
    (kk : ∀ (H1 : Heap) (locs1 : List Loc), JG E B s (upW g k (upd w (104 + 8 * i) v)) H1 locs1 → W p l e R s m args below meth c H1 locs1 cells slots Q (F0 m (pc + 3) ls rest)) : W p l e R s m args below meth c H locs cells slots Q (F0 m pc ls (.int v :: .ref (B + (wo k + (17 + 3 * i))) :: rest)) :=
  rput X hJ rfl inT1 tyX1_ok nmX1 1 (by decide) (tw (i := 151) (by decide +kernel) (by decide)) rfl rfl rfl rfl (lt_W hk (by omega)) (at_C hk hi upW_1) (Nat.le_of_ble_eq_true rfl) hdg (fun H1 locs1 h => kk H1 locs1 (h.upW hk (by omega) (ow_C (f := 0) hi (by omega)) (by rw [pw_C hi]; simp [upd]; try omega)))
theorem gX1_31 (X : Cx p s m args c cc nL RX1 E B) (hJ : JG E B s g H locs) (hk : k < 11) {i : Nat} (hi : i < 8) (hw : g.1 k = w) (hdg : decode cc pc = .ok (.getfield 31, 3))
    (kk : W p l e R s m args below meth c H locs cells slots Q (F0 m (pc + 3) ls (.int (w (104 + 8 * i + 1)) :: rest))) : W p l e R s m args below meth c H locs cells slots Q (F0 m pc ls (.ref (B + (wo k + (17 + 3 * i))) :: rest)) :=
  rget X hJ rfl inT1 2 (by decide) (tw (i := 154) (by decide +kernel) (by decide)) rfl (lt_W hk (by omega)) (at_C hk hi hw) rfl hdg kk
theorem pX1_31 (X : Cx p s m args c cc nL RX1 E B) (hJ : JG E B s (upW g k w) H locs) (hk : k < 11) {i : Nat} (hi : i < 8)  (hdg : decode cc pc = .ok (.putfield 31, 3))
    (kk : ∀ (H1 : Heap) (locs1 : List Loc), JG E B s (upW g k (upd w (104 + 8 * i + 1) v)) H1 locs1 → W p l e R s m args below meth c H1 locs1 cells slots Q (F0 m (pc + 3) ls rest)) : W p l e R s m args below meth c H locs cells slots Q (F0 m pc ls (.int v :: .ref (B + (wo k + (17 + 3 * i))) :: rest)) :=
  rput X hJ rfl inT1 tyX1_ok nmX1 2 (by decide) (tw (i := 154) (by decide +kernel) (by decide)) rfl rfl rfl rfl (lt_W hk (by omega)) (at_C hk hi upW_1) (Nat.le_of_ble_eq_true rfl) hdg (fun H1 locs1 h => kk H1 locs1 (h.upW hk (by omega) (ow_C (f := 1) hi (by omega)) (by rw [pw_C hi]; simp [upd]; try omega)))
theorem gX1_34 (X : Cx p s m args c cc nL RX1 E B) (hJ : JG E B s g H locs) (hk : k < 11) {i : Nat} (hi : i < 8) (hw : g.1 k = w) (hdg : decode cc pc = .ok (.getfield 34, 3))
    (kk : W p l e R s m args below meth c H locs cells slots Q (F0 m (pc + 3) ls (.int (w (104 + 8 * i + 4)) :: rest))) : W p l e R s m args below meth c H locs cells slots Q (F0 m pc ls (.ref (B + (wo k + (17 + 3 * i))) :: rest)) :=
  rget X hJ rfl inT1 5 (by decide) (tw (i := 161) (by decide +kernel) (by decide)) rfl (lt_W hk (by omega)) (at_C hk hi hw) rfl hdg kk
theorem pX1_34 (X : Cx p s m args c cc nL RX1 E B) (hJ : JG E B s (upW g k w) H locs) (hk : k < 11) {i : Nat} (hi : i < 8)  (hdg : decode cc pc = .ok (.putfield 34, 3))
    (kk : ∀ (H1 : Heap) (locs1 : List Loc), JG E B s (upW g k (upd w (104 + 8 * i + 4) v)) H1 locs1 → W p l e R s m args below meth c H1 locs1 cells slots Q (F0 m (pc + 3) ls rest)) : W p l e R s m args below meth c H locs cells slots Q (F0 m pc ls (.int v :: .ref (B + (wo k + (17 + 3 * i))) :: rest)) :=
  rput X hJ rfl inT1 tyX1_ok nmX1 5 (by decide) (tw (i := 161) (by decide +kernel) (by decide)) rfl rfl rfl rfl (lt_W hk (by omega)) (at_C hk hi upW_1) (Nat.le_of_ble_eq_true rfl) hdg (fun H1 locs1 h => kk H1 locs1 (h.upW hk (by omega) (ow_C (f := 4) hi (by omega)) (by rw [pw_C hi]; simp [upd]; try omega)))
theorem gX1_37 (X : Cx p s m args c cc nL RX1 E B) (hJ : JG E B s g H locs) (hk : k < 11) {i : Nat} (hi : i < 8) (hw : g.1 k = w) (hdg : decode cc pc = .ok (.getfield 37, 3))
    (kk : W p l e R s m args below meth c H locs cells slots Q (F0 m (pc + 3) ls (.int (w (104 + 8 * i + 5)) :: rest))) : W p l e R s m args below meth c H locs cells slots Q (F0 m pc ls (.ref (B + (wo k + (17 + 3 * i))) :: rest)) :=
  rget X hJ rfl inT1 6 (by decide) (tw (i := 163) (by decide +kernel) (by decide)) rfl (lt_W hk (by omega)) (at_C hk hi hw) rfl hdg kk
theorem pX1_37 (X : Cx p s m args c cc nL RX1 E B) (hJ : JG E B s (upW g k w) H locs) (hk : k < 11) {i : Nat} (hi : i < 8)  (hdg : decode cc pc = .ok (.putfield 37, 3))
    (kk : ∀ (H1 : Heap) (locs1 : List Loc), JG E B s (upW g k (upd w (104 + 8 * i + 5) v)) H1 locs1 → W p l e R s m args below meth c H1 locs1 cells slots Q (F0 m (pc + 3) ls rest)) : W p l e R s m args below meth c H locs cells slots Q (F0 m pc ls (.int v :: .ref (B + (wo k + (17 + 3 * i))) :: rest)) :=
  rput X hJ rfl inT1 tyX1_ok nmX1 6 (by decide) (tw (i := 163) (by decide +kernel) (by decide)) rfl rfl rfl rfl (lt_W hk (by omega)) (at_C hk hi upW_1) (Nat.le_of_ble_eq_true rfl) hdg (fun H1 locs1 h => kk H1 locs1 (h.upW hk (by omega) (ow_C (f := 5) hi (by omega)) (by rw [pw_C hi]; simp [upd]; try omega)))
theorem gX1_40 (X : Cx p s m args c cc nL RX1 E B) (hJ : JG E B s g H locs) (hk : k < 11) {i : Nat} (hi : i < 8) (hw : g.1 k = w) (hdg : decode cc pc = .ok (.getfield 40, 3))
    (kk : W p l e R s m args below meth c H locs cells slots Q (F0 m (pc + 3) ls (.int (w (104 + 8 * i + 6)) :: rest))) : W p l e R s m args below meth c H locs cells slots Q (F0 m pc ls (.ref (B + (wo k + (17 + 3 * i))) :: rest)) :=
  rget X hJ rfl inT1 7 (by decide) (tw (i := 165) (by decide +kernel) (by decide)) rfl (lt_W hk (by omega)) (at_C hk hi hw) rfl hdg kk
theorem pX1_40 (X : Cx p s m args c cc nL RX1 E B) (hJ : JG E B s (upW g k w) H locs) (hk : k < 11) {i : Nat} (hi : i < 8)  (hdg : decode cc pc = .ok (.putfield 40, 3))
    (kk : ∀ (H1 : Heap) (locs1 : List Loc), JG E B s (upW g k (upd w (104 + 8 * i + 6) v)) H1 locs1 → W p l e R s m args below meth c H1 locs1 cells slots Q (F0 m (pc + 3) ls rest)) : W p l e R s m args below meth c H locs cells slots Q (F0 m pc ls (.int v :: .ref (B + (wo k + (17 + 3 * i))) :: rest)) :=
  rput X hJ rfl inT1 tyX1_ok nmX1 7 (by decide) (tw (i := 165) (by decide +kernel) (by decide)) rfl rfl rfl rfl (lt_W hk (by omega)) (at_C hk hi upW_1) (Nat.le_of_ble_eq_true rfl) hdg (fun H1 locs1 h => kk H1 locs1 (h.upW hk (by omega) (ow_C (f := 6) hi (by omega)) (by rw [pw_C hi]; simp [upd]; try omega)))
theorem gX1_43 (X : Cx p s m args c cc nL RX1 E B) (hJ : JG E B s g H locs) (hk : k < 11) {i : Nat} (hi : i < 8) (hw : g.1 k = w) (hdg : decode cc pc = .ok (.getfield 43, 3))
    (kk : W p l e R s m args below meth c H locs cells slots Q (F0 m (pc + 3) ls (.int (w (104 + 8 * i + 7)) :: rest))) : W p l e R s m args below meth c H locs cells slots Q (F0 m pc ls (.ref (B + (wo k + (17 + 3 * i))) :: rest)) :=
  rget X hJ rfl inT1 8 (by decide) (tw (i := 166) (by decide +kernel) (by decide)) rfl (lt_W hk (by omega)) (at_C hk hi hw) rfl hdg kk
theorem pX1_43 (X : Cx p s m args c cc nL RX1 E B) (hJ : JG E B s (upW g k w) H locs) (hk : k < 11) {i : Nat} (hi : i < 8)  (hdg : decode cc pc = .ok (.putfield 43, 3))
    (kk : ∀ (H1 : Heap) (locs1 : List Loc), JG E B s (upW g k (upd w (104 + 8 * i + 7) v)) H1 locs1 → W p l e R s m args below meth c H1 locs1 cells slots Q (F0 m (pc + 3) ls rest)) : W p l e R s m args below meth c H locs cells slots Q (F0 m pc ls (.int v :: .ref (B + (wo k + (17 + 3 * i))) :: rest)) :=
  rput X hJ rfl inT1 tyX1_ok nmX1 8 (by decide) (tw (i := 166) (by decide +kernel) (by decide)) rfl rfl rfl rfl (lt_W hk (by omega)) (at_C hk hi upW_1) (Nat.le_of_ble_eq_true rfl) hdg (fun H1 locs1 h => kk H1 locs1 (h.upW hk (by omega) (ow_C (f := 7) hi (by omega)) (by rw [pw_C hi]; simp [upd]; try omega)))
theorem gX1_52 (X : Cx p s m args c cc nL RX1 E B) (hJ : JG E B s g H locs) (hk : k < 11) {i : Nat} (hi : i < 12) (hw : g.1 k = w) (hdg : decode cc pc = .ok (.getfield 52, 3))
    (kk : W p l e R s m args below meth c H locs cells slots Q (F0 m (pc + 3) ls (.int (nI i) :: rest))) : W p l e R s m args below meth c H locs cells slots Q (F0 m pc ls (.ref (B + (wo k + (5 + i))) :: rest)) :=
  rget X hJ rfl inT0 0 (by decide) (tw (i := 101) (by decide +kernel) (by decide)) rfl (lt_W hk (by omega)) (at_B hk hi hw) rfl hdg kk
theorem gX1_62 (X : Cx p s m args c cc nL RX1 E B) (hJ : JG E B s g H locs) (hk : k < 11) {i : Nat} (hi : i < 12) (hw : g.1 k = w) (hdg : decode cc pc = .ok (.getfield 62, 3))
    (kk : W p l e R s m args below meth c H locs cells slots Q (F0 m (pc + 3) ls (.int (w (20 + 7 * i + 2)) :: rest))) : W p l e R s m args below meth c H locs cells slots Q (F0 m pc ls (.ref (B + (wo k + (5 + i))) :: rest)) :=
  rget X hJ rfl inT0 3 (by decide) (tw (i := 109) (by decide +kernel) (by decide)) rfl (lt_W hk (by omega)) (at_B hk hi hw) rfl hdg kk
theorem pX1_62 (X : Cx p s m args c cc nL RX1 E B) (hJ : JG E B s (upW g k w) H locs) (hk : k < 11) {i : Nat} (hi : i < 12)  (hdg : decode cc pc = .ok (.putfield 62, 3))
    (kk : ∀ (H1 : Heap) (locs1 : List Loc), JG E B s (upW g k (upd w (20 + 7 * i + 2) v)) H1 locs1 → W p l e R s m args below meth c H1 locs1 cells slots Q (F0 m (pc + 3) ls rest)) : W p l e R s m args below meth c H locs cells slots Q (F0 m pc ls (.int v :: .ref (B + (wo k + (5 + i))) :: rest)) :=
  rput X hJ rfl inT0 tyX0_ok nmX0 3 (by decide) (tw (i := 109) (by decide +kernel) (by decide)) rfl rfl rfl rfl (lt_W hk (by omega)) (at_B hk hi upW_1) (Nat.le_of_ble_eq_true rfl) hdg (fun H1 locs1 h => kk H1 locs1 (h.upW hk (by omega) (ow_B (f := 2) hi (by omega)) (by rw [pw_B hi]; simp [upd]; try omega)))
theorem gX1_65 (X : Cx p s m args c cc nL RX1 E B) (hJ : JG E B s g H locs) (hk : k < 11) {i : Nat} (hi : i < 12) (hw : g.1 k = w) (hdg : decode cc pc = .ok (.getfield 65, 3))
    (kk : W p l e R s m args below meth c H locs cells slots Q (F0 m (pc + 3) ls (.int (w (20 + 7 * i + 3)) :: rest))) : W p l e R s m args below meth c H locs cells slots Q (F0 m pc ls (.ref (B + (wo k + (5 + i))) :: rest)) :=
  rget X hJ rfl inT0 4 (by decide) (tw (i := 112) (by decide +kernel) (by decide)) rfl (lt_W hk (by omega)) (at_B hk hi hw) rfl hdg kk
theorem pX1_65 (X : Cx p s m args c cc nL RX1 E B) (hJ : JG E B s (upW g k w) H locs) (hk : k < 11) {i : Nat} (hi : i < 12)  (hdg : decode cc pc = .ok (.putfield 65, 3))
    (kk : ∀ (H1 : Heap) (locs1 : List Loc), JG E B s (upW g k (upd w (20 + 7 * i + 3) v)) H1 locs1 → W p l e R s m args below meth c H1 locs1 cells slots Q (F0 m (pc + 3) ls rest)) : W p l e R s m args below meth c H locs cells slots Q (F0 m pc ls (.int v :: .ref (B + (wo k + (5 + i))) :: rest)) :=
  rput X hJ rfl inT0 tyX0_ok nmX0 4 (by decide) (tw (i := 112) (by decide +kernel) (by decide)) rfl rfl rfl rfl (lt_W hk (by omega)) (at_B hk hi upW_1) (Nat.le_of_ble_eq_true rfl) hdg (fun H1 locs1 h => kk H1 locs1 (h.upW hk (by omega) (ow_B (f := 3) hi (by omega)) (by rw [pw_B hi]; simp [upd]; try omega)))
theorem gX1_77 (X : Cx p s m args c cc nL RX1 E B) (hJ : JG E B s g H locs) (hk : k < 11) {i : Nat} (hi : i < 12) (hw : g.1 k = w) (hdg : decode cc pc = .ok (.getfield 77, 3))
    (kk : W p l e R s m args below meth c H locs cells slots Q (F0 m (pc + 3) ls (.int (w (20 + 7 * i + 4)) :: rest))) : W p l e R s m args below meth c H locs cells slots Q (F0 m pc ls (.ref (B + (wo k + (5 + i))) :: rest)) :=
  rget X hJ rfl inT0 6 (by decide) (tw (i := 118) (by decide +kernel) (by decide)) rfl (lt_W hk (by omega)) (at_B hk hi hw) rfl hdg kk
theorem pX1_77 (X : Cx p s m args c cc nL RX1 E B) (hJ : JG E B s (upW g k w) H locs) (hk : k < 11) {i : Nat} (hi : i < 12)  (hdg : decode cc pc = .ok (.putfield 77, 3))
    (kk : ∀ (H1 : Heap) (locs1 : List Loc), JG E B s (upW g k (upd w (20 + 7 * i + 4) v)) H1 locs1 → W p l e R s m args below meth c H1 locs1 cells slots Q (F0 m (pc + 3) ls rest)) : W p l e R s m args below meth c H locs cells slots Q (F0 m pc ls (.int v :: .ref (B + (wo k + (5 + i))) :: rest)) :=
  rput X hJ rfl inT0 tyX0_ok nmX0 6 (by decide) (tw (i := 118) (by decide +kernel) (by decide)) rfl rfl rfl rfl (lt_W hk (by omega)) (at_B hk hi upW_1) (Nat.le_of_ble_eq_true rfl) hdg (fun H1 locs1 h => kk H1 locs1 (h.upW hk (by omega) (ow_B (f := 4) hi (by omega)) (by rw [pw_B hi]; simp [upd]; try omega)))
theorem gX2_13 (X : Cx p s m args c cc nL RX2 E B) (hJ : JG E B s g H locs) (hw : g.2.1 = w) (hdg : decode cc pc = .ok (.getfield 13, 3))
    (kk : W p l e R s m args below meth c H locs cells slots Q (F0 m (pc + 3) ls (.ref (B + 84) :: rest))) : W p l e R s m args below meth c H locs cells slots Q (F0 m pc ls (.ref (B + 83) :: rest)) :=
  rget X hJ rfl inT2 0 (by decide) (tw (i := 236) (by decide +kernel) (by decide)) rfl (by omega) (at_H hw) rfl hdg kk
theorem gX2_18 (X : Cx p s m args c cc nL RX2 E B) (hJ : JG E B s g H locs) (hw : g.2.1 = w) (hdg : decode cc pc = .ok (.getfield 18, 3))
    (kk : W p l e R s m args below meth c H locs cells slots Q (F0 m (pc + 3) ls (.int (w 0) :: rest))) : W p l e R s m args below meth c H locs cells slots Q (F0 m pc ls (.ref (B + 83) :: rest)) :=
  rget X hJ rfl inT2 1 (by decide) (tw (i := 237) (by decide +kernel) (by decide)) rfl (by omega) (at_H hw) rfl hdg kk
theorem pX2_18 (X : Cx p s m args c cc nL RX2 E B) (hJ : JG E B s (upC g w) H locs)  (hdg : decode cc pc = .ok (.putfield 18, 3))
    (kk : ∀ (H1 : Heap) (locs1 : List Loc), JG E B s (upC g (upd w (0) v)) H1 locs1 → W p l e R s m args below meth c H1 locs1 cells slots Q (F0 m (pc + 3) ls rest)) : W p l e R s m args below meth c H locs cells slots Q (F0 m pc ls (.int v :: .ref (B + 83) :: rest)) :=
  rput X hJ rfl inT2 tyX2_ok nmX2 1 (by decide) (tw (i := 237) (by decide +kernel) (by decide)) rfl rfl rfl rfl (by omega) (at_H rfl) (Nat.le_of_ble_eq_true rfl) hdg (fun H1 locs1 h => kk H1 locs1 (h.upC (show oc 0 = 83 from rfl) (by omega) rfl))
theorem gX2_26 (X : Cx p s m args c cc nL RX2 E B) (hJ : JG E B s g H locs) (hw : g.2.1 = w) (hdg : decode cc pc = .ok (.getfield 26, 3))
    (kk : W p l e R s m args below meth c H locs cells slots Q (F0 m (pc + 3) ls (.int (w 1) :: rest))) : W p l e R s m args below meth c H locs cells slots Q (F0 m pc ls (.ref (B + 83) :: rest)) :=
  rget X hJ rfl inT2 2 (by decide) (tw (i := 238) (by decide +kernel) (by decide)) rfl (by omega) (at_H hw) rfl hdg kk
theorem pX2_26 (X : Cx p s m args c cc nL RX2 E B) (hJ : JG E B s (upC g w) H locs)  (hdg : decode cc pc = .ok (.putfield 26, 3))
    (kk : ∀ (H1 : Heap) (locs1 : List Loc), JG E B s (upC g (upd w (1) v)) H1 locs1 → W p l e R s m args below meth c H1 locs1 cells slots Q (F0 m (pc + 3) ls rest)) : W p l e R s m args below meth c H locs cells slots Q (F0 m pc ls (.int v :: .ref (B + 83) :: rest)) :=
  rput X hJ rfl inT2 tyX2_ok nmX2 2 (by decide) (tw (i := 238) (by decide +kernel) (by decide)) rfl rfl rfl rfl (by omega) (at_H rfl) (Nat.le_of_ble_eq_true rfl) hdg (fun H1 locs1 h => kk H1 locs1 (h.upC (show oc 1 = 83 from rfl) (by omega) rfl))
theorem gX3_9 (X : Cx p s m args c cc nL RX3 E B) (hJ : JG E B s g H locs) (hw : g.2.1 = w) (hdg : decode cc pc = .ok (.getfield 9, 3))
    (kk : W p l e R s m args below meth c H locs cells slots Q (F0 m (pc + 3) ls (.ref (B + 456) :: rest))) : W p l e R s m args below meth c H locs cells slots Q (F0 m pc ls (.ref (B + 458) :: rest)) :=
  rget X hJ rfl inT3 0 (by decide) (tw (i := 269) (by decide +kernel) (by decide)) rfl (by omega) (at_O hw) rfl hdg kk
theorem gX3_15 (X : Cx p s m args c cc nL RX3 E B) (hJ : JG E B s g H locs) (hw : g.2.1 = w) (hdg : decode cc pc = .ok (.getfield 15, 3))
    (kk : W p l e R s m args below meth c H locs cells slots Q (F0 m (pc + 3) ls (.int (w 4) :: rest))) : W p l e R s m args below meth c H locs cells slots Q (F0 m pc ls (.ref (B + 458) :: rest)) :=
  rget X hJ rfl inT3 1 (by decide) (tw (i := 270) (by decide +kernel) (by decide)) rfl (by omega) (at_O hw) rfl hdg kk
theorem pX3_15 (X : Cx p s m args c cc nL RX3 E B) (hJ : JG E B s (upC g w) H locs)  (hdg : decode cc pc = .ok (.putfield 15, 3))
    (kk : ∀ (H1 : Heap) (locs1 : List Loc), JG E B s (upC g (upd w (4) v)) H1 locs1 → W p l e R s m args below meth c H1 locs1 cells slots Q (F0 m (pc + 3) ls rest)) : W p l e R s m args below meth c H locs cells slots Q (F0 m pc ls (.int v :: .ref (B + 458) :: rest)) :=
  rput X hJ rfl inT3 tyX3_ok nmX3 1 (by decide) (tw (i := 270) (by decide +kernel) (by decide)) rfl rfl rfl rfl (by omega) (at_O rfl) (Nat.le_of_ble_eq_true rfl) hdg (fun H1 locs1 h => kk H1 locs1 (h.upC (show oc 4 = 458 from rfl) (by omega) rfl))
theorem gX3_26 (X : Cx p s m args c cc nL RX3 E B) (hJ : JG E B s g H locs) (hw : g.2.1 = w) (hdg : decode cc pc = .ok (.getfield 26, 3))
    (kk : W p l e R s m args below meth c H locs cells slots Q (F0 m (pc + 3) ls (.int (w 3) :: rest))) : W p l e R s m args below meth c H locs cells slots Q (F0 m pc ls (.ref (B + 456) :: rest)) :=
  rget X hJ rfl inT4 1 (by decide) (tw (i := 255) (by decide +kernel) (by decide)) rfl (by omega) (at_P hw) rfl hdg kk
theorem pX3_26 (X : Cx p s m args c cc nL RX3 E B) (hJ : JG E B s (upC g w) H locs)  (hdg : decode cc pc = .ok (.putfield 26, 3))
    (kk : ∀ (H1 : Heap) (locs1 : List Loc), JG E B s (upC g (upd w (3) v)) H1 locs1 → W p l e R s m args below meth c H1 locs1 cells slots Q (F0 m (pc + 3) ls rest)) : W p l e R s m args below meth c H locs cells slots Q (F0 m pc ls (.int v :: .ref (B + 456) :: rest)) :=
  rput X hJ rfl inT4 tyX4_ok nmX4 1 (by decide) (tw (i := 255) (by decide +kernel) (by decide)) rfl rfl rfl rfl (by omega) (at_P rfl) (Nat.le_of_ble_eq_true rfl) hdg (fun H1 locs1 h => kk H1 locs1 (h.upC (show oc 3 = 456 from rfl) (by omega) rfl))
theorem gX3_39 (X : Cx p s m args c cc nL RX3 E B) (hJ : JG E B s g H locs) (hw : g.2.1 = w) (hdg : decode cc pc = .ok (.getfield 39, 3))
    (kk : W p l e R s m args below meth c H locs cells slots Q (F0 m (pc + 3) ls (.int (w 5) :: rest))) : W p l e R s m args below meth c H locs cells slots Q (F0 m pc ls (.ref (B + 458) :: rest)) :=
  rget X hJ rfl inT3 2 (by decide) (tw (i := 271) (by decide +kernel) (by decide)) rfl (by omega) (at_O hw) rfl hdg kk
theorem pX3_39 (X : Cx p s m args c cc nL RX3 E B) (hJ : JG E B s (upC g w) H locs)  (hdg : decode cc pc = .ok (.putfield 39, 3))
    (kk : ∀ (H1 : Heap) (locs1 : List Loc), JG E B s (upC g (upd w (5) v)) H1 locs1 → W p l e R s m args below meth c H1 locs1 cells slots Q (F0 m (pc + 3) ls rest)) : W p l e R s m args below meth c H locs cells slots Q (F0 m pc ls (.int v :: .ref (B + 458) :: rest)) :=
  rput X hJ rfl inT3 tyX3_ok nmX3 2 (by decide) (tw (i := 271) (by decide +kernel) (by decide)) rfl rfl rfl rfl (by omega) (at_O rfl) (Nat.le_of_ble_eq_true rfl) hdg (fun H1 locs1 h => kk H1 locs1 (h.upC (show oc 5 = 458 from rfl) (by omega) rfl))
theorem gX3_61 (X : Cx p s m args c cc nL RX3 E B) (hJ : JG E B s g H locs) (hw : g.2.1 = w) (hdg : decode cc pc = .ok (.getfield 61, 3))
    (kk : W p l e R s m args below meth c H locs cells slots Q (F0 m (pc + 3) ls (.int (w 6) :: rest))) : W p l e R s m args below meth c H locs cells slots Q (F0 m pc ls (.ref (B + 458) :: rest)) :=
  rget X hJ rfl inT3 3 (by decide) (tw (i := 273) (by decide +kernel) (by decide)) rfl (by omega) (at_O hw) rfl hdg kk
theorem pX3_61 (X : Cx p s m args c cc nL RX3 E B) (hJ : JG E B s (upC g w) H locs)  (hdg : decode cc pc = .ok (.putfield 61, 3))
    (kk : ∀ (H1 : Heap) (locs1 : List Loc), JG E B s (upC g (upd w (6) v)) H1 locs1 → W p l e R s m args below meth c H1 locs1 cells slots Q (F0 m (pc + 3) ls rest)) : W p l e R s m args below meth c H locs cells slots Q (F0 m pc ls (.int v :: .ref (B + 458) :: rest)) :=
  rput X hJ rfl inT3 tyX3_ok nmX3 3 (by decide) (tw (i := 273) (by decide +kernel) (by decide)) rfl rfl rfl rfl (by omega) (at_O rfl) (Nat.le_of_ble_eq_true rfl) hdg (fun H1 locs1 h => kk H1 locs1 (h.upC (show oc 6 = 458 from rfl) (by omega) rfl))
theorem gX3_67 (X : Cx p s m args c cc nL RX3 E B) (hJ : JG E B s g H locs) (hw : g.2.1 = w) (hdg : decode cc pc = .ok (.getfield 67, 3))
    (kk : W p l e R s m args below meth c H locs cells slots Q (F0 m (pc + 3) ls (.int (w 7) :: rest))) : W p l e R s m args below meth c H locs cells slots Q (F0 m pc ls (.ref (B + 458) :: rest)) :=
  rget X hJ rfl inT3 4 (by decide) (tw (i := 275) (by decide +kernel) (by decide)) rfl (by omega) (at_O hw) rfl hdg kk
theorem pX3_67 (X : Cx p s m args c cc nL RX3 E B) (hJ : JG E B s (upC g w) H locs)  (hdg : decode cc pc = .ok (.putfield 67, 3))
    (kk : ∀ (H1 : Heap) (locs1 : List Loc), JG E B s (upC g (upd w (7) v)) H1 locs1 → W p l e R s m args below meth c H1 locs1 cells slots Q (F0 m (pc + 3) ls rest)) : W p l e R s m args below meth c H locs cells slots Q (F0 m pc ls (.int v :: .ref (B + 458) :: rest)) :=
  rput X hJ rfl inT3 tyX3_ok nmX3 4 (by decide) (tw (i := 275) (by decide +kernel) (by decide)) rfl rfl rfl rfl (by omega) (at_O rfl) (Nat.le_of_ble_eq_true rfl) hdg (fun H1 locs1 h => kk H1 locs1 (h.upC (show oc 7 = 458 from rfl) (by omega) rfl))
theorem gX3_70 (X : Cx p s m args c cc nL RX3 E B) (hJ : JG E B s g H locs) (hw : g.2.1 = w) (hdg : decode cc pc = .ok (.getfield 70, 3))
    (kk : W p l e R s m args below meth c H locs cells slots Q (F0 m (pc + 3) ls (.int (w 8) :: rest))) : W p l e R s m args below meth c H locs cells slots Q (F0 m pc ls (.ref (B + 458) :: rest)) :=
  rget X hJ rfl inT3 5 (by decide) (tw (i := 277) (by decide +kernel) (by decide)) rfl (by omega) (at_O hw) rfl hdg kk
theorem pX3_70 (X : Cx p s m args c cc nL RX3 E B) (hJ : JG E B s (upC g w) H locs)  (hdg : decode cc pc = .ok (.putfield 70, 3))
    (kk : ∀ (H1 : Heap) (locs1 : List Loc), JG E B s (upC g (upd w (8) v)) H1 locs1 → W p l e R s m args below meth c H1 locs1 cells slots Q (F0 m (pc + 3) ls rest)) : W p l e R s m args below meth c H locs cells slots Q (F0 m pc ls (.int v :: .ref (B + 458) :: rest)) :=
  rput X hJ rfl inT3 tyX3_ok nmX3 5 (by decide) (tw (i := 277) (by decide +kernel) (by decide)) rfl rfl rfl rfl (by omega) (at_O rfl) (Nat.le_of_ble_eq_true rfl) hdg (fun H1 locs1 h => kk H1 locs1 (h.upC (show oc 8 = 458 from rfl) (by omega) rfl))
theorem gX4_9 (X : Cx p s m args c cc nL RX4 E B) (hJ : JG E B s g H locs) (hw : g.2.1 = w) (hdg : decode cc pc = .ok (.getfield 9, 3))
    (kk : W p l e R s m args below meth c H locs cells slots Q (F0 m (pc + 3) ls (.ref (B + 457) :: rest))) : W p l e R s m args below meth c H locs cells slots Q (F0 m pc ls (.ref (B + 456) :: rest)) :=
  rget X hJ rfl inT4 0 (by decide) (tw (i := 253) (by decide +kernel) (by decide)) rfl (by omega) (at_P hw) rfl hdg kk
theorem gX4_15 (X : Cx p s m args c cc nL RX4 E B) (hJ : JG E B s g H locs) (hw : g.2.1 = w) (hdg : decode cc pc = .ok (.getfield 15, 3))
    (kk : W p l e R s m args below meth c H locs cells slots Q (F0 m (pc + 3) ls (.int (w 3) :: rest))) : W p l e R s m args below meth c H locs cells slots Q (F0 m pc ls (.ref (B + 456) :: rest)) :=
  rget X hJ rfl inT4 1 (by decide) (tw (i := 254) (by decide +kernel) (by decide)) rfl (by omega) (at_P hw) rfl hdg kk
theorem pX4_15 (X : Cx p s m args c cc nL RX4 E B) (hJ : JG E B s (upC g w) H locs)  (hdg : decode cc pc = .ok (.putfield 15, 3))
    (kk : ∀ (H1 : Heap) (locs1 : List Loc), JG E B s (upC g (upd w (3) v)) H1 locs1 → W p l e R s m args below meth c H1 locs1 cells slots Q (F0 m (pc + 3) ls rest)) : W p l e R s m args below meth c H locs cells slots Q (F0 m pc ls (.int v :: .ref (B + 456) :: rest)) :=
  rput X hJ rfl inT4 tyX4_ok nmX4 1 (by decide) (tw (i := 254) (by decide +kernel) (by decide)) rfl rfl rfl rfl (by omega) (at_P rfl) (Nat.le_of_ble_eq_true rfl) hdg (fun H1 locs1 h => kk H1 locs1 (h.upC (show oc 3 = 456 from rfl) (by omega) rfl))
theorem gX5_9 (X : Cx p s m args c cc nL RX5 E B) (hJ : JG E B s g H locs) (hk : k < 11) (hw : g.1 k = w) (hdg : decode cc pc = .ok (.getfield 9, 3))
    (kk : W p l e R s m args below meth c H locs cells slots Q (F0 m (pc + 3) ls (.ref (B + (wo k + 1)) :: rest))) : W p l e R s m args below meth c H locs cells slots Q (F0 m pc ls (.ref (B + wo k) :: rest)) :=
  rget X hJ rfl inT5 0 (by decide) (tw (i := 192) (by decide +kernel) (by decide)) rfl (lt_W0 hk) (at_W hk hw) rfl hdg kk
theorem gX5_17 (X : Cx p s m args c cc nL RX5 E B) (hJ : JG E B s g H locs) (hk : k < 11) (hw : g.1 k = w) (hdg : decode cc pc = .ok (.getfield 17, 3))
    (kk : W p l e R s m args below meth c H locs cells slots Q (F0 m (pc + 3) ls (.ref (B + (wo k + 2)) :: rest))) : W p l e R s m args below meth c H locs cells slots Q (F0 m pc ls (.ref (B + wo k) :: rest)) :=
  rget X hJ rfl inT5 1 (by decide) (tw (i := 193) (by decide +kernel) (by decide)) rfl (lt_W0 hk) (at_W hk hw) rfl hdg kk
theorem gX5_23 (X : Cx p s m args c cc nL RX5 E B) (hJ : JG E B s g H locs) (hk : k < 11) (hw : g.1 k = w) (hdg : decode cc pc = .ok (.getfield 23, 3))
    (kk : W p l e R s m args below meth c H locs cells slots Q (F0 m (pc + 3) ls (.ref (B + (wo k + 3)) :: rest))) : W p l e R s m args below meth c H locs cells slots Q (F0 m pc ls (.ref (B + wo k) :: rest)) :=
  rget X hJ rfl inT5 2 (by decide) (tw (i := 194) (by decide +kernel) (by decide)) rfl (lt_W0 hk) (at_W hk hw) rfl hdg kk
theorem gX5_27 (X : Cx p s m args c cc nL RX5 E B) (hJ : JG E B s g H locs) (hk : k < 11) (hw : g.1 k = w) (hdg : decode cc pc = .ok (.getfield 27, 3))
    (kk : W p l e R s m args below meth c H locs cells slots Q (F0 m (pc + 3) ls (.ref (B + (wo k + 4)) :: rest))) : W p l e R s m args below meth c H locs cells slots Q (F0 m pc ls (.ref (B + wo k) :: rest)) :=
  rget X hJ rfl inT5 3 (by decide) (tw (i := 195) (by decide +kernel) (by decide)) rfl (lt_W0 hk) (at_W hk hw) rfl hdg kk
theorem gX5_30 (X : Cx p s m args c cc nL RX5 E B) (hJ : JG E B s g H locs) (hk : k < 11) (hw : g.1 k = w) (hdg : decode cc pc = .ok (.getfield 30, 3))
    (kk : W p l e R s m args below meth c H locs cells slots Q (F0 m (pc + 3) ls (.int (w 7) :: rest))) : W p l e R s m args below meth c H locs cells slots Q (F0 m pc ls (.ref (B + wo k) :: rest)) :=
  rget X hJ rfl inT5 7 (by decide) (tw (i := 200) (by decide +kernel) (by decide)) rfl (lt_W0 hk) (at_W hk hw) rfl hdg kk
theorem pX5_30 (X : Cx p s m args c cc nL RX5 E B) (hJ : JG E B s (upW g k w) H locs) (hk : k < 11)  (hdg : decode cc pc = .ok (.putfield 30, 3))
    (kk : ∀ (H1 : Heap) (locs1 : List Loc), JG E B s (upW g k (upd w (7) v)) H1 locs1 → W p l e R s m args below meth c H1 locs1 cells slots Q (F0 m (pc + 3) ls rest)) : W p l e R s m args below meth c H locs cells slots Q (F0 m pc ls (.int v :: .ref (B + wo k) :: rest)) :=
  rput X hJ rfl inT5 tyX5_ok nmX5 7 (by decide) (tw (i := 200) (by decide +kernel) (by decide)) rfl rfl rfl rfl (lt_W0 hk) (at_W hk upW_1) (Nat.le_of_ble_eq_true rfl) hdg (fun H1 locs1 h => kk H1 locs1 (JL.upW (r := 0) h hk (by omega) (show ow 7 = 0 from rfl) rfl))
theorem gX5_54 (X : Cx p s m args c cc nL RX5 E B) (hJ : JG E B s g H locs) (hk : k < 11) (hw : g.1 k = w) (hdg : decode cc pc = .ok (.getfield 54, 3))
    (kk : W p l e R s m args below meth c H locs cells slots Q (F0 m (pc + 3) ls (.int (w 10) :: rest))) : W p l e R s m args below meth c H locs cells slots Q (F0 m pc ls (.ref (B + wo k) :: rest)) :=
  rget X hJ rfl inT5 4 (by decide) (tw (i := 196) (by decide +kernel) (by decide)) rfl (lt_W0 hk) (at_W hk hw) rfl hdg kk
theorem pX5_54 (X : Cx p s m args c cc nL RX5 E B) (hJ : JG E B s (upW g k w) H locs) (hk : k < 11)  (hdg : decode cc pc = .ok (.putfield 54, 3))
    (kk : ∀ (H1 : Heap) (locs1 : List Loc), JG E B s (upW g k (upd w (10) v)) H1 locs1 → W p l e R s m args below meth c H1 locs1 cells slots Q (F0 m (pc + 3) ls rest)) : W p l e R s m args below meth c H locs cells slots Q (F0 m pc ls (.int v :: .ref (B + wo k) :: rest)) :=
  rput X hJ rfl inT5 tyX5_ok nmX5 4 (by decide) (tw (i := 196) (by decide +kernel) (by decide)) rfl rfl rfl rfl (lt_W0 hk) (at_W hk upW_1) (Nat.le_of_ble_eq_true rfl) hdg (fun H1 locs1 h => kk H1 locs1 (JL.upW (r := 0) h hk (by omega) (show ow 10 = 0 from rfl) rfl))
theorem gX5_57 (X : Cx p s m args c cc nL RX5 E B) (hJ : JG E B s g H locs) (hk : k < 11) (hw : g.1 k = w) (hdg : decode cc pc = .ok (.getfield 57, 3))
    (kk : W p l e R s m args below meth c H locs cells slots Q (F0 m (pc + 3) ls (.int (w 5) :: rest))) : W p l e R s m args below meth c H locs cells slots Q (F0 m pc ls (.ref (B + wo k) :: rest)) :=
  rget X hJ rfl inT5 5 (by decide) (tw (i := 197) (by decide +kernel) (by decide)) rfl (lt_W0 hk) (at_W hk hw) rfl hdg kk
theorem pX5_57 (X : Cx p s m args c cc nL RX5 E B) (hJ : JG E B s (upW g k w) H locs) (hk : k < 11)  (hdg : decode cc pc = .ok (.putfield 57, 3))
    (kk : ∀ (H1 : Heap) (locs1 : List Loc), JG E B s (upW g k (upd w (5) v)) H1 locs1 → W p l e R s m args below meth c H1 locs1 cells slots Q (F0 m (pc + 3) ls rest)) : W p l e R s m args below meth c H locs cells slots Q (F0 m pc ls (.int v :: .ref (B + wo k) :: rest)) :=
  rput X hJ rfl inT5 tyX5_ok nmX5 5 (by decide) (tw (i := 197) (by decide +kernel) (by decide)) rfl rfl rfl rfl (lt_W0 hk) (at_W hk upW_1) (Nat.le_of_ble_eq_true rfl) hdg (fun H1 locs1 h => kk H1 locs1 (JL.upW (r := 0) h hk (by omega) (show ow 5 = 0 from rfl) rfl))
theorem gX5_60 (X : Cx p s m args c cc nL RX5 E B) (hJ : JG E B s g H locs) (hk : k < 11) (hw : g.1 k = w) (hdg : decode cc pc = .ok (.getfield 60, 3))
    (kk : W p l e R s m args below meth c H locs cells slots Q (F0 m (pc + 3) ls (.int (w 6) :: rest))) : W p l e R s m args below meth c H locs cells slots Q (F0 m pc ls (.ref (B + wo k) :: rest)) :=
  rget X hJ rfl inT5 6 (by decide) (tw (i := 198) (by decide +kernel) (by decide)) rfl (lt_W0 hk) (at_W hk hw) rfl hdg kk
theorem pX5_60 (X : Cx p s m args c cc nL RX5 E B) (hJ : JG E B s (upW g k w) H locs) (hk : k < 11)  (hdg : decode cc pc = .ok (.putfield 60, 3))
    (kk : ∀ (H1 : Heap) (locs1 : List Loc), JG E B s (upW g k (upd w (6) v)) H1 locs1 → W p l e R s m args below meth c H1 locs1 cells slots Q (F0 m (pc + 3) ls rest)) : W p l e R s m args below meth c H locs cells slots Q (F0 m pc ls (.int v :: .ref (B + wo k) :: rest)) :=
  rput X hJ rfl inT5 tyX5_ok nmX5 6 (by decide) (tw (i := 198) (by decide +kernel) (by decide)) rfl rfl rfl rfl (lt_W0 hk) (at_W hk upW_1) (Nat.le_of_ble_eq_true rfl) hdg (fun H1 locs1 h => kk H1 locs1 (JL.upW (r := 0) h hk (by omega) (show ow 6 = 0 from rfl) rfl))
theorem gX5_63 (X : Cx p s m args c cc nL RX5 E B) (hJ : JG E B s g H locs) (hk : k < 11) (hw : g.1 k = w) (hdg : decode cc pc = .ok (.getfield 63, 3))
    (kk : W p l e R s m args below meth c H locs cells slots Q (F0 m (pc + 3) ls (.int (w 4) :: rest))) : W p l e R s m args below meth c H locs cells slots Q (F0 m pc ls (.ref (B + wo k) :: rest)) :=
  rget X hJ rfl inT5 8 (by decide) (tw (i := 201) (by decide +kernel) (by decide)) rfl (lt_W0 hk) (at_W hk hw) rfl hdg kk
theorem pX5_63 (X : Cx p s m args c cc nL RX5 E B) (hJ : JG E B s (upW g k w) H locs) (hk : k < 11)  (hdg : decode cc pc = .ok (.putfield 63, 3))
    (kk : ∀ (H1 : Heap) (locs1 : List Loc), JG E B s (upW g k (upd w (4) v)) H1 locs1 → W p l e R s m args below meth c H1 locs1 cells slots Q (F0 m (pc + 3) ls rest)) : W p l e R s m args below meth c H locs cells slots Q (F0 m pc ls (.int v :: .ref (B + wo k) :: rest)) :=
  rput X hJ rfl inT5 tyX5_ok nmX5 8 (by decide) (tw (i := 201) (by decide +kernel) (by decide)) rfl rfl rfl rfl (lt_W0 hk) (at_W hk upW_1) (Nat.le_of_ble_eq_true rfl) hdg (fun H1 locs1 h => kk H1 locs1 (JL.upW (r := 0) h hk (by omega) (show ow 4 = 0 from rfl) rfl))
theorem gX5_66 (X : Cx p s m args c cc nL RX5 E B) (hJ : JG E B s g H locs) (hk : k < 11) (hw : g.1 k = w) (hdg : decode cc pc = .ok (.getfield 66, 3))
    (kk : W p l e R s m args below meth c H locs cells slots Q (F0 m (pc + 3) ls (.int (w 8) :: rest))) : W p l e R s m args below meth c H locs cells slots Q (F0 m pc ls (.ref (B + wo k) :: rest)) :=
  rget X hJ rfl inT5 9 (by decide) (tw (i := 202) (by decide +kernel) (by decide)) rfl (lt_W0 hk) (at_W hk hw) rfl hdg kk
theorem pX5_66 (X : Cx p s m args c cc nL RX5 E B) (hJ : JG E B s (upW g k w) H locs) (hk : k < 11)  (hdg : decode cc pc = .ok (.putfield 66, 3))
    (kk : ∀ (H1 : Heap) (locs1 : List Loc), JG E B s (upW g k (upd w (8) v)) H1 locs1 → W p l e R s m args below meth c H1 locs1 cells slots Q (F0 m (pc + 3) ls rest)) : W p l e R s m args below meth c H locs cells slots Q (F0 m pc ls (.int v :: .ref (B + wo k) :: rest)) :=
  rput X hJ rfl inT5 tyX5_ok nmX5 9 (by decide) (tw (i := 202) (by decide +kernel) (by decide)) rfl rfl rfl rfl (lt_W0 hk) (at_W hk upW_1) (Nat.le_of_ble_eq_true rfl) hdg (fun H1 locs1 h => kk H1 locs1 (JL.upW (r := 0) h hk (by omega) (show ow 8 = 0 from rfl) rfl))
theorem gX5_69 (X : Cx p s m args c cc nL RX5 E B) (hJ : JG E B s g H locs) (hk : k < 11) (hw : g.1 k = w) (hdg : decode cc pc = .ok (.getfield 69, 3))
    (kk : W p l e R s m args below meth c H locs cells slots Q (F0 m (pc + 3) ls (.int (w 9) :: rest))) : W p l e R s m args below meth c H locs cells slots Q (F0 m pc ls (.ref (B + wo k) :: rest)) :=
  rget X hJ rfl inT5 10 (by decide) (tw (i := 203) (by decide +kernel) (by decide)) rfl (lt_W0 hk) (at_W hk hw) rfl hdg kk
theorem pX5_69 (X : Cx p s m args c cc nL RX5 E B) (hJ : JG E B s (upW g k w) H locs) (hk : k < 11)  (hdg : decode cc pc = .ok (.putfield 69, 3))
    (kk : ∀ (H1 : Heap) (locs1 : List Loc), JG E B s (upW g k (upd w (9) v)) H1 locs1 → W p l e R s m args below meth c H1 locs1 cells slots Q (F0 m (pc + 3) ls rest)) : W p l e R s m args below meth c H locs cells slots Q (F0 m pc ls (.int v :: .ref (B + wo k) :: rest)) :=
  rput X hJ rfl inT5 tyX5_ok nmX5 10 (by decide) (tw (i := 203) (by decide +kernel) (by decide)) rfl rfl rfl rfl (lt_W0 hk) (at_W hk upW_1) (Nat.le_of_ble_eq_true rfl) hdg (fun H1 locs1 h => kk H1 locs1 (JL.upW (r := 0) h hk (by omega) (show ow 9 = 0 from rfl) rfl))
theorem gX5_82 (X : Cx p s m args c cc nL RX5 E B) (hJ : JG E B s g H locs) (hk : k < 11) {i : Nat} (hi : i < 12) (hw : g.1 k = w) (hdg : decode cc pc = .ok (.getfield 82, 3))
    (kk : W p l e R s m args below meth c H locs cells slots Q (F0 m (pc + 3) ls (.int (w (20 + 7 * i)) :: rest))) : W p l e R s m args below meth c H locs cells slots Q (F0 m pc ls (.ref (B + (wo k + (5 + i))) :: rest)) :=
  rget X hJ rfl inT0 1 (by decide) (tw (i := 104) (by decide +kernel) (by decide)) rfl (lt_W hk (by omega)) (at_B hk hi hw) rfl hdg kk
theorem pX5_82 (X : Cx p s m args c cc nL RX5 E B) (hJ : JG E B s (upW g k w) H locs) (hk : k < 11) {i : Nat} (hi : i < 12)  (hdg : decode cc pc = .ok (.putfield 82, 3))
    (kk : ∀ (H1 : Heap) (locs1 : List Loc), JG E B s (upW g k (upd w (20 + 7 * i) v)) H1 locs1 → W p l e R s m args below meth c H1 locs1 cells slots Q (F0 m (pc + 3) ls rest)) : W p l e R s m args below meth c H locs cells slots Q (F0 m pc ls (.int v :: .ref (B + (wo k + (5 + i))) :: rest)) :=
  rput X hJ rfl inT0 tyX0_ok nmX0 1 (by decide) (tw (i := 104) (by decide +kernel) (by decide)) rfl rfl rfl rfl (lt_W hk (by omega)) (at_B hk hi upW_1) (Nat.le_of_ble_eq_true rfl) hdg (fun H1 locs1 h => kk H1 locs1 (h.upW hk (by omega) (ow_B (f := 0) hi (by omega)) (by rw [pw_B hi]; simp [upd]; try omega)))
theorem gX5_85 (X : Cx p s m args c cc nL RX5 E B) (hJ : JG E B s g H locs) (hk : k < 11) {i : Nat} (hi : i < 12) (hw : g.1 k = w) (hdg : decode cc pc = .ok (.getfield 85, 3))
    (kk : W p l e R s m args below meth c H locs cells slots Q (F0 m (pc + 3) ls (.int (w (20 + 7 * i + 1)) :: rest))) : W p l e R s m args below meth c H locs cells slots Q (F0 m pc ls (.ref (B + (wo k + (5 + i))) :: rest)) :=
  rget X hJ rfl inT0 2 (by decide) (tw (i := 106) (by decide +kernel) (by decide)) rfl (lt_W hk (by omega)) (at_B hk hi hw) rfl hdg kk
theorem pX5_85 (X : Cx p s m args c cc nL RX5 E B) (hJ : JG E B s (upW g k w) H locs) (hk : k < 11) {i : Nat} (hi : i < 12)  (hdg : decode cc pc = .ok (.putfield 85, 3))
    (kk : ∀ (H1 : Heap) (locs1 : List Loc), JG E B s (upW g k (upd w (20 + 7 * i + 1) v)) H1 locs1 → W p l e R s m args below meth c H1 locs1 cells slots Q (F0 m (pc + 3) ls rest)) : W p l e R s m args below meth c H locs cells slots Q (F0 m pc ls (.int v :: .ref (B + (wo k + (5 + i))) :: rest)) :=
  rput X hJ rfl inT0 tyX0_ok nmX0 2 (by decide) (tw (i := 106) (by decide +kernel) (by decide)) rfl rfl rfl rfl (lt_W hk (by omega)) (at_B hk hi upW_1) (Nat.le_of_ble_eq_true rfl) hdg (fun H1 locs1 h => kk H1 locs1 (h.upW hk (by omega) (ow_B (f := 1) hi (by omega)) (by rw [pw_B hi]; simp [upd]; try omega)))
theorem gX5_88 (X : Cx p s m args c cc nL RX5 E B) (hJ : JG E B s g H locs) (hk : k < 11) {i : Nat} (hi : i < 12) (hw : g.1 k = w) (hdg : decode cc pc = .ok (.getfield 88, 3))
    (kk : W p l e R s m args below meth c H locs cells slots Q (F0 m (pc + 3) ls (.int (w (20 + 7 * i + 2)) :: rest))) : W p l e R s m args below meth c H locs cells slots Q (F0 m pc ls (.ref (B + (wo k + (5 + i))) :: rest)) :=
  rget X hJ rfl inT0 3 (by decide) (tw (i := 108) (by decide +kernel) (by decide)) rfl (lt_W hk (by omega)) (at_B hk hi hw) rfl hdg kk
theorem pX5_88 (X : Cx p s m args c cc nL RX5 E B) (hJ : JG E B s (upW g k w) H locs) (hk : k < 11) {i : Nat} (hi : i < 12)  (hdg : decode cc pc = .ok (.putfield 88, 3))
    (kk : ∀ (H1 : Heap) (locs1 : List Loc), JG E B s (upW g k (upd w (20 + 7 * i + 2) v)) H1 locs1 → W p l e R s m args below meth c H1 locs1 cells slots Q (F0 m (pc + 3) ls rest)) : W p l e R s m args below meth c H locs cells slots Q (F0 m pc ls (.int v :: .ref (B + (wo k + (5 + i))) :: rest)) :=
  rput X hJ rfl inT0 tyX0_ok nmX0 3 (by decide) (tw (i := 108) (by decide +kernel) (by decide)) rfl rfl rfl rfl (lt_W hk (by omega)) (at_B hk hi upW_1) (Nat.le_of_ble_eq_true rfl) hdg (fun H1 locs1 h => kk H1 locs1 (h.upW hk (by omega) (ow_B (f := 2) hi (by omega)) (by rw [pw_B hi]; simp [upd]; try omega)))
theorem gX5_94 (X : Cx p s m args c cc nL RX5 E B) (hJ : JG E B s g H locs) (hk : k < 11) {i : Nat} (hi : i < 12) (hw : g.1 k = w) (hdg : decode cc pc = .ok (.getfield 94, 3))
    (kk : W p l e R s m args below meth c H locs cells slots Q (F0 m (pc + 3) ls (.int (nI i) :: rest))) : W p l e R s m args below meth c H locs cells slots Q (F0 m pc ls (.ref (B + (wo k + (5 + i))) :: rest)) :=
  rget X hJ rfl inT0 0 (by decide) (tw (i := 102) (by decide +kernel) (by decide)) rfl (lt_W hk (by omega)) (at_B hk hi hw) rfl hdg kk
theorem gX5_97 (X : Cx p s m args c cc nL RX5 E B) (hJ : JG E B s g H locs) (hk : k < 11) {i : Nat} (hi : i < 8) (hw : g.1 k = w) (hdg : decode cc pc = .ok (.getfield 97, 3))
    (kk : W p l e R s m args below meth c H locs cells slots Q (F0 m (pc + 3) ls (.int (w (104 + 8 * i)) :: rest))) : W p l e R s m args below meth c H locs cells slots Q (F0 m pc ls (.ref (B + (wo k + (17 + 3 * i))) :: rest)) :=
  rget X hJ rfl inT1 1 (by decide) (tw (i := 152) (by decide +kernel) (by decide)) rfl (lt_W hk (by omega)) (at_C hk hi hw) rfl hdg kk
theorem pX5_97 (X : Cx p s m args c cc nL RX5 E B) (hJ : JG E B s (upW g k w) H locs) (hk : k < 11) {i : Nat} (hi : i < 8)  (hdg : decode cc pc = .ok (.putfield 97, 3))
    (kk : ∀ (H1 : Heap) (locs1 : List Loc), JG E B s (upW g k (upd w (104 + 8 * i) v)) H1 locs1 → W p l e R s m args below meth c H1 locs1 cells slots Q (F0 m (pc + 3) ls rest)) : W p l e R s m args below meth c H locs cells slots Q (F0 m pc ls (.int v :: .ref (B + (wo k + (17 + 3 * i))) :: rest)) :=
  rput X hJ rfl inT1 tyX1_ok nmX1 1 (by decide) (tw (i := 152) (by decide +kernel) (by decide)) rfl rfl rfl rfl (lt_W hk (by omega)) (at_C hk hi upW_1) (Nat.le_of_ble_eq_true rfl) hdg (fun H1 locs1 h => kk H1 locs1 (h.upW hk (by omega) (ow_C (f := 0) hi (by omega)) (by rw [pw_C hi]; simp [upd]; try omega)))
theorem gX5_98 (X : Cx p s m args c cc nL RX5 E B) (hJ : JG E B s g H locs) (hk : k < 11) {i : Nat} (hi : i < 8) (hw : g.1 k = w) (hdg : decode cc pc = .ok (.getfield 98, 3))
    (kk : W p l e R s m args below meth c H locs cells slots Q (F0 m (pc + 3) ls (.int (w (104 + 8 * i + 1)) :: rest))) : W p l e R s m args below meth c H locs cells slots Q (F0 m pc ls (.ref (B + (wo k + (17 + 3 * i))) :: rest)) :=
  rget X hJ rfl inT1 2 (by decide) (tw (i := 155) (by decide +kernel) (by decide)) rfl (lt_W hk (by omega)) (at_C hk hi hw) rfl hdg kk
theorem pX5_98 (X : Cx p s m args c cc nL RX5 E B) (hJ : JG E B s (upW g k w) H locs) (hk : k < 11) {i : Nat} (hi : i < 8)  (hdg : decode cc pc = .ok (.putfield 98, 3))
    (kk : ∀ (H1 : Heap) (locs1 : List Loc), JG E B s (upW g k (upd w (104 + 8 * i + 1) v)) H1 locs1 → W p l e R s m args below meth c H1 locs1 cells slots Q (F0 m (pc + 3) ls rest)) : W p l e R s m args below meth c H locs cells slots Q (F0 m pc ls (.int v :: .ref (B + (wo k + (17 + 3 * i))) :: rest)) :=
  rput X hJ rfl inT1 tyX1_ok nmX1 2 (by decide) (tw (i := 155) (by decide +kernel) (by decide)) rfl rfl rfl rfl (lt_W hk (by omega)) (at_C hk hi upW_1) (Nat.le_of_ble_eq_true rfl) hdg (fun H1 locs1 h => kk H1 locs1 (h.upW hk (by omega) (ow_C (f := 1) hi (by omega)) (by rw [pw_C hi]; simp [upd]; try omega)))
theorem gX5_101 (X : Cx p s m args c cc nL RX5 E B) (hJ : JG E B s g H locs) (hk : k < 11) {i : Nat} (hi : i < 8) (hw : g.1 k = w) (hdg : decode cc pc = .ok (.getfield 101, 3))
    (kk : W p l e R s m args below meth c H locs cells slots Q (F0 m (pc + 3) ls (.int (nI i) :: rest))) : W p l e R s m args below meth c H locs cells slots Q (F0 m pc ls (.ref (B + (wo k + (17 + 3 * i))) :: rest)) :=
  rget X hJ rfl inT1 0 (by decide) (tw (i := 149) (by decide +kernel) (by decide)) rfl (lt_W hk (by omega)) (at_C hk hi hw) rfl hdg kk
theorem gX5_118 (X : Cx p s m args c cc nL RX5 E B) (hJ : JG E B s g H locs) (hk : k < 11) {i : Nat} (hi : i < 8) (hw : g.1 k = w) (hdg : decode cc pc = .ok (.getfield 118, 3))
    (kk : W p l e R s m args below meth c H locs cells slots Q (F0 m (pc + 3) ls (.int (w (104 + 8 * i + 2)) :: rest))) : W p l e R s m args below meth c H locs cells slots Q (F0 m pc ls (.ref (B + (wo k + (17 + 3 * i))) :: rest)) :=
  rget X hJ rfl inT1 3 (by decide) (tw (i := 158) (by decide +kernel) (by decide)) rfl (lt_W hk (by omega)) (at_C hk hi hw) rfl hdg kk
theorem pX5_118 (X : Cx p s m args c cc nL RX5 E B) (hJ : JG E B s (upW g k w) H locs) (hk : k < 11) {i : Nat} (hi : i < 8)  (hdg : decode cc pc = .ok (.putfield 118, 3))
    (kk : ∀ (H1 : Heap) (locs1 : List Loc), JG E B s (upW g k (upd w (104 + 8 * i + 2) v)) H1 locs1 → W p l e R s m args below meth c H1 locs1 cells slots Q (F0 m (pc + 3) ls rest)) : W p l e R s m args below meth c H locs cells slots Q (F0 m pc ls (.int v :: .ref (B + (wo k + (17 + 3 * i))) :: rest)) :=
  rput X hJ rfl inT1 tyX1_ok nmX1 3 (by decide) (tw (i := 158) (by decide +kernel) (by decide)) rfl rfl rfl rfl (lt_W hk (by omega)) (at_C hk hi upW_1) (Nat.le_of_ble_eq_true rfl) hdg (fun H1 locs1 h => kk H1 locs1 (h.upW hk (by omega) (ow_C (f := 2) hi (by omega)) (by rw [pw_C hi]; simp [upd]; try omega)))
theorem gX5_121 (X : Cx p s m args c cc nL RX5 E B) (hJ : JG E B s g H locs) (hk : k < 11) {i : Nat} (hi : i < 8) (hw : g.1 k = w) (hdg : decode cc pc = .ok (.getfield 121, 3))
    (kk : W p l e R s m args below meth c H locs cells slots Q (F0 m (pc + 3) ls (.int (w (104 + 8 * i + 3)) :: rest))) : W p l e R s m args below meth c H locs cells slots Q (F0 m pc ls (.ref (B + (wo k + (17 + 3 * i))) :: rest)) :=
  rget X hJ rfl inT1 4 (by decide) (tw (i := 160) (by decide +kernel) (by decide)) rfl (lt_W hk (by omega)) (at_C hk hi hw) rfl hdg kk
theorem pX5_121 (X : Cx p s m args c cc nL RX5 E B) (hJ : JG E B s (upW g k w) H locs) (hk : k < 11) {i : Nat} (hi : i < 8)  (hdg : decode cc pc = .ok (.putfield 121, 3))
    (kk : ∀ (H1 : Heap) (locs1 : List Loc), JG E B s (upW g k (upd w (104 + 8 * i + 3) v)) H1 locs1 → W p l e R s m args below meth c H1 locs1 cells slots Q (F0 m (pc + 3) ls rest)) : W p l e R s m args below meth c H locs cells slots Q (F0 m pc ls (.int v :: .ref (B + (wo k + (17 + 3 * i))) :: rest)) :=
  rput X hJ rfl inT1 tyX1_ok nmX1 4 (by decide) (tw (i := 160) (by decide +kernel) (by decide)) rfl rfl rfl rfl (lt_W hk (by omega)) (at_C hk hi upW_1) (Nat.le_of_ble_eq_true rfl) hdg (fun H1 locs1 h => kk H1 locs1 (h.upW hk (by omega) (ow_C (f := 3) hi (by omega)) (by rw [pw_C hi]; simp [upd]; try omega)))
theorem gX5_124 (X : Cx p s m args c cc nL RX5 E B) (hJ : JG E B s g H locs) (hk : k < 11) {i : Nat} (hi : i < 12) (hw : g.1 k = w) (hdg : decode cc pc = .ok (.getfield 124, 3))
    (kk : W p l e R s m args below meth c H locs cells slots Q (F0 m (pc + 3) ls (.int (w (360 + i)) :: rest))) : W p l e R s m args below meth c H locs cells slots Q (F0 m pc ls (.ref (B + (wo k + (5 + i))) :: rest)) :=
  rget X hJ rfl inT0 5 (by decide) (tw (i := 115) (by decide +kernel) (by decide)) rfl (lt_W hk (by omega)) (at_B hk hi hw) rfl hdg kk
theorem pX5_124 (X : Cx p s m args c cc nL RX5 E B) (hJ : JG E B s (upW g k w) H locs) (hk : k < 11) {i : Nat} (hi : i < 12)  (hdg : decode cc pc = .ok (.putfield 124, 3))
    (kk : ∀ (H1 : Heap) (locs1 : List Loc), JG E B s (upW g k (upd w (360 + i) v)) H1 locs1 → W p l e R s m args below meth c H1 locs1 cells slots Q (F0 m (pc + 3) ls rest)) : W p l e R s m args below meth c H locs cells slots Q (F0 m pc ls (.int v :: .ref (B + (wo k + (5 + i))) :: rest)) :=
  rput X hJ rfl inT0 tyX0_ok nmX0 5 (by decide) (tw (i := 115) (by decide +kernel) (by decide)) rfl rfl rfl rfl (lt_W hk (by omega)) (at_B hk hi upW_1) (Nat.le_of_ble_eq_true rfl) hdg (fun H1 locs1 h => kk H1 locs1 (h.upW hk (by omega) (ow_Bw hi) (by rw [pw_B hi]; simp [upd]; try omega)))
theorem gX5_149 (X : Cx p s m args c cc nL RX5 E B) (hJ : JG E B s g H locs) (hk : k < 11) {i : Nat} (hi : i < 8) (hw : g.1 k = w) (hdg : decode cc pc = .ok (.getfield 149, 3))
    (kk : W p l e R s m args below meth c H locs cells slots Q (F0 m (pc + 3) ls (.int (w (104 + 8 * i + 4)) :: rest))) : W p l e R s m args below meth c H locs cells slots Q (F0 m pc ls (.ref (B + (wo k + (17 + 3 * i))) :: rest)) :=
  rget X hJ rfl inT1 5 (by decide) (tw (i := 162) (by decide +kernel) (by decide)) rfl (lt_W hk (by omega)) (at_C hk hi hw) rfl hdg kk
theorem pX5_149 (X : Cx p s m args c cc nL RX5 E B) (hJ : JG E B s (upW g k w) H locs) (hk : k < 11) {i : Nat} (hi : i < 8)  (hdg : decode cc pc = .ok (.putfield 149, 3))
    (kk : ∀ (H1 : Heap) (locs1 : List Loc), JG E B s (upW g k (upd w (104 + 8 * i + 4) v)) H1 locs1 → W p l e R s m args below meth c H1 locs1 cells slots Q (F0 m (pc + 3) ls rest)) : W p l e R s m args below meth c H locs cells slots Q (F0 m pc ls (.int v :: .ref (B + (wo k + (17 + 3 * i))) :: rest)) :=
  rput X hJ rfl inT1 tyX1_ok nmX1 5 (by decide) (tw (i := 162) (by decide +kernel) (by decide)) rfl rfl rfl rfl (lt_W hk (by omega)) (at_C hk hi upW_1) (Nat.le_of_ble_eq_true rfl) hdg (fun H1 locs1 h => kk H1 locs1 (h.upW hk (by omega) (ow_C (f := 4) hi (by omega)) (by rw [pw_C hi]; simp [upd]; try omega)))
theorem gX5_160 (X : Cx p s m args c cc nL RX5 E B) (hJ : JG E B s g H locs) (hk : k < 11) {i : Nat} (hi : i < 12) (hw : g.1 k = w) (hdg : decode cc pc = .ok (.getfield 160, 3))
    (kk : W p l e R s m args below meth c H locs cells slots Q (F0 m (pc + 3) ls (.int (w (20 + 7 * i + 6)) :: rest))) : W p l e R s m args below meth c H locs cells slots Q (F0 m pc ls (.ref (B + (wo k + (5 + i))) :: rest)) :=
  rget X hJ rfl inT0 8 (by decide) (tw (i := 122) (by decide +kernel) (by decide)) rfl (lt_W hk (by omega)) (at_B hk hi hw) rfl hdg kk
theorem pX5_160 (X : Cx p s m args c cc nL RX5 E B) (hJ : JG E B s (upW g k w) H locs) (hk : k < 11) {i : Nat} (hi : i < 12)  (hdg : decode cc pc = .ok (.putfield 160, 3))
    (kk : ∀ (H1 : Heap) (locs1 : List Loc), JG E B s (upW g k (upd w (20 + 7 * i + 6) v)) H1 locs1 → W p l e R s m args below meth c H1 locs1 cells slots Q (F0 m (pc + 3) ls rest)) : W p l e R s m args below meth c H locs cells slots Q (F0 m pc ls (.int v :: .ref (B + (wo k + (5 + i))) :: rest)) :=
  rput X hJ rfl inT0 tyX0_ok nmX0 8 (by decide) (tw (i := 122) (by decide +kernel) (by decide)) rfl rfl rfl rfl (lt_W hk (by omega)) (at_B hk hi upW_1) (Nat.le_of_ble_eq_true rfl) hdg (fun H1 locs1 h => kk H1 locs1 (h.upW hk (by omega) (ow_B (f := 6) hi (by omega)) (by rw [pw_B hi]; simp [upd]; try omega)))
theorem gX5_169 (X : Cx p s m args c cc nL RX5 E B) (hJ : JG E B s g H locs) (hk : k < 11) {i : Nat} (hi : i < 12) (hw : g.1 k = w) (hdg : decode cc pc = .ok (.getfield 169, 3))
    (kk : W p l e R s m args below meth c H locs cells slots Q (F0 m (pc + 3) ls (.int (w (20 + 7 * i + 3)) :: rest))) : W p l e R s m args below meth c H locs cells slots Q (F0 m pc ls (.ref (B + (wo k + (5 + i))) :: rest)) :=
  rget X hJ rfl inT0 4 (by decide) (tw (i := 113) (by decide +kernel) (by decide)) rfl (lt_W hk (by omega)) (at_B hk hi hw) rfl hdg kk
theorem pX5_169 (X : Cx p s m args c cc nL RX5 E B) (hJ : JG E B s (upW g k w) H locs) (hk : k < 11) {i : Nat} (hi : i < 12)  (hdg : decode cc pc = .ok (.putfield 169, 3))
    (kk : ∀ (H1 : Heap) (locs1 : List Loc), JG E B s (upW g k (upd w (20 + 7 * i + 3) v)) H1 locs1 → W p l e R s m args below meth c H1 locs1 cells slots Q (F0 m (pc + 3) ls rest)) : W p l e R s m args below meth c H locs cells slots Q (F0 m pc ls (.int v :: .ref (B + (wo k + (5 + i))) :: rest)) :=
  rput X hJ rfl inT0 tyX0_ok nmX0 4 (by decide) (tw (i := 113) (by decide +kernel) (by decide)) rfl rfl rfl rfl (lt_W hk (by omega)) (at_B hk hi upW_1) (Nat.le_of_ble_eq_true rfl) hdg (fun H1 locs1 h => kk H1 locs1 (h.upW hk (by omega) (ow_B (f := 3) hi (by omega)) (by rw [pw_B hi]; simp [upd]; try omega)))
theorem gX5_179 (X : Cx p s m args c cc nL RX5 E B) (hJ : JG E B s g H locs) (hk : k < 11) {i : Nat} (hi : i < 8) (hw : g.1 k = w) (hdg : decode cc pc = .ok (.getfield 179, 3))
    (kk : W p l e R s m args below meth c H locs cells slots Q (F0 m (pc + 3) ls (.int (w (104 + 8 * i + 5)) :: rest))) : W p l e R s m args below meth c H locs cells slots Q (F0 m pc ls (.ref (B + (wo k + (17 + 3 * i))) :: rest)) :=
  rget X hJ rfl inT1 6 (by decide) (tw (i := 164) (by decide +kernel) (by decide)) rfl (lt_W hk (by omega)) (at_C hk hi hw) rfl hdg kk
theorem pX5_179 (X : Cx p s m args c cc nL RX5 E B) (hJ : JG E B s (upW g k w) H locs) (hk : k < 11) {i : Nat} (hi : i < 8)  (hdg : decode cc pc = .ok (.putfield 179, 3))
    (kk : ∀ (H1 : Heap) (locs1 : List Loc), JG E B s (upW g k (upd w (104 + 8 * i + 5) v)) H1 locs1 → W p l e R s m args below meth c H1 locs1 cells slots Q (F0 m (pc + 3) ls rest)) : W p l e R s m args below meth c H locs cells slots Q (F0 m pc ls (.int v :: .ref (B + (wo k + (17 + 3 * i))) :: rest)) :=
  rput X hJ rfl inT1 tyX1_ok nmX1 6 (by decide) (tw (i := 164) (by decide +kernel) (by decide)) rfl rfl rfl rfl (lt_W hk (by omega)) (at_C hk hi upW_1) (Nat.le_of_ble_eq_true rfl) hdg (fun H1 locs1 h => kk H1 locs1 (h.upW hk (by omega) (ow_C (f := 5) hi (by omega)) (by rw [pw_C hi]; simp [upd]; try omega)))
theorem gX5_182 (X : Cx p s m args c cc nL RX5 E B) (hJ : JG E B s g H locs) (hk : k < 11) {i : Nat} (hi : i < 12) (hw : g.1 k = w) (hdg : decode cc pc = .ok (.getfield 182, 3))
    (kk : W p l e R s m args below meth c H locs cells slots Q (F0 m (pc + 3) ls (.int (w (20 + 7 * i + 5)) :: rest))) : W p l e R s m args below meth c H locs cells slots Q (F0 m pc ls (.ref (B + (wo k + (5 + i))) :: rest)) :=
  rget X hJ rfl inT0 7 (by decide) (tw (i := 120) (by decide +kernel) (by decide)) rfl (lt_W hk (by omega)) (at_B hk hi hw) rfl hdg kk
theorem pX5_182 (X : Cx p s m args c cc nL RX5 E B) (hJ : JG E B s (upW g k w) H locs) (hk : k < 11) {i : Nat} (hi : i < 12)  (hdg : decode cc pc = .ok (.putfield 182, 3))
    (kk : ∀ (H1 : Heap) (locs1 : List Loc), JG E B s (upW g k (upd w (20 + 7 * i + 5) v)) H1 locs1 → W p l e R s m args below meth c H1 locs1 cells slots Q (F0 m (pc + 3) ls rest)) : W p l e R s m args below meth c H locs cells slots Q (F0 m pc ls (.int v :: .ref (B + (wo k + (5 + i))) :: rest)) :=
  rput X hJ rfl inT0 tyX0_ok nmX0 7 (by decide) (tw (i := 120) (by decide +kernel) (by decide)) rfl rfl rfl rfl (lt_W hk (by omega)) (at_B hk hi upW_1) (Nat.le_of_ble_eq_true rfl) hdg (fun H1 locs1 h => kk H1 locs1 (h.upW hk (by omega) (ow_B (f := 5) hi (by omega)) (by rw [pw_B hi]; simp [upd]; try omega)))
theorem gX7_7 (X : Cx p s m args c cc nL RX7 E B) (hJ : JG E B s g H locs) (hw : g.2.2.2 = w) (hdg : decode cc pc = .ok (.getfield 7, 3))
    (kk : W p l e R s m args below meth c H locs cells slots Q (F0 m (pc + 3) ls (.ref (B + 460) :: rest))) : W p l e R s m args below meth c H locs cells slots Q (F0 m pc ls (.ref (B + 459) :: rest)) :=
  rget X hJ rfl inT7 0 (by decide) (tw (i := 739) (by decide +kernel) (by decide)) rfl (by omega) (at_M hw) rfl hdg kk
theorem gX7_13 (X : Cx p s m args c cc nL RX7 E B) (hJ : JG E B s g H locs) (hw : g.2.2.2 = w) (hdg : decode cc pc = .ok (.getfield 13, 3))
    (kk : W p l e R s m args below meth c H locs cells slots Q (F0 m (pc + 3) ls (.ref (B + 461) :: rest))) : W p l e R s m args below meth c H locs cells slots Q (F0 m pc ls (.ref (B + 459) :: rest)) :=
  rget X hJ rfl inT7 2 (by decide) (tw (i := 741) (by decide +kernel) (by decide)) rfl (by omega) (at_M hw) rfl hdg kk
theorem gX7_17 (X : Cx p s m args c cc nL RX7 E B) (hJ : JG E B s g H locs) (hw : g.2.2.2 = w) (hdg : decode cc pc = .ok (.getfield 17, 3))
    (kk : W p l e R s m args below meth c H locs cells slots Q (F0 m (pc + 3) ls (.ref (B + 462) :: rest))) : W p l e R s m args below meth c H locs cells slots Q (F0 m pc ls (.ref (B + 459) :: rest)) :=
  rget X hJ rfl inT7 3 (by decide) (tw (i := 742) (by decide +kernel) (by decide)) rfl (by omega) (at_M hw) rfl hdg kk
theorem gX7_20 (X : Cx p s m args c cc nL RX7 E B) (hJ : JG E B s g H locs) (hw : g.2.2.2 = w) (hdg : decode cc pc = .ok (.getfield 20, 3))
    (kk : W p l e R s m args below meth c H locs cells slots Q (F0 m (pc + 3) ls (.ref (B + 463) :: rest))) : W p l e R s m args below meth c H locs cells slots Q (F0 m pc ls (.ref (B + 459) :: rest)) :=
  rget X hJ rfl inT7 10 (by decide) (tw (i := 749) (by decide +kernel) (by decide)) rfl (by omega) (at_M hw) rfl hdg kk
theorem gX7_23 (X : Cx p s m args c cc nL RX7 E B) (hJ : JG E B s g H locs) (hw : g.2.2.2 = w) (hdg : decode cc pc = .ok (.getfield 23, 3))
    (kk : W p l e R s m args below meth c H locs cells slots Q (F0 m (pc + 3) ls (.int (w 0) :: rest))) : W p l e R s m args below meth c H locs cells slots Q (F0 m pc ls (.ref (B + 459) :: rest)) :=
  rget X hJ rfl inT7 1 (by decide) (tw (i := 740) (by decide +kernel) (by decide)) rfl (by omega) (at_M hw) rfl hdg kk
theorem pX7_23 (X : Cx p s m args c cc nL RX7 E B) (hJ : JG E B s (upR g w) H locs)  (hdg : decode cc pc = .ok (.putfield 23, 3))
    (kk : ∀ (H1 : Heap) (locs1 : List Loc), JG E B s (upR g (upd w (0) v)) H1 locs1 → W p l e R s m args below meth c H1 locs1 cells slots Q (F0 m (pc + 3) ls rest)) : W p l e R s m args below meth c H locs cells slots Q (F0 m pc ls (.int v :: .ref (B + 459) :: rest)) :=
  rput X hJ rfl inT7 tyX7_ok nmX7 1 (by decide) (tw (i := 740) (by decide +kernel) (by decide)) rfl rfl rfl rfl (by omega) (at_M rfl) (Nat.le_of_ble_eq_true rfl) hdg (fun H1 locs1 h => kk H1 locs1 (h.upR (show oR 0 = 459 from rfl) (by omega) rfl))
theorem gX7_156 (X : Cx p s m args c cc nL RX7 E B) (hJ : JG E B s g H locs) (hw : g.2.2.2 = w) (hdg : decode cc pc = .ok (.getfield 156, 3))
    (kk : W p l e R s m args below meth c H locs cells slots Q (F0 m (pc + 3) ls (.int (w 1) :: rest))) : W p l e R s m args below meth c H locs cells slots Q (F0 m pc ls (.ref (B + 459) :: rest)) :=
  rget X hJ rfl inT7 4 (by decide) (tw (i := 743) (by decide +kernel) (by decide)) rfl (by omega) (at_M hw) rfl hdg kk
theorem pX7_156 (X : Cx p s m args c cc nL RX7 E B) (hJ : JG E B s (upR g w) H locs)  (hdg : decode cc pc = .ok (.putfield 156, 3))
    (kk : ∀ (H1 : Heap) (locs1 : List Loc), JG E B s (upR g (upd w (1) v)) H1 locs1 → W p l e R s m args below meth c H1 locs1 cells slots Q (F0 m (pc + 3) ls rest)) : W p l e R s m args below meth c H locs cells slots Q (F0 m pc ls (.int v :: .ref (B + 459) :: rest)) :=
  rput X hJ rfl inT7 tyX7_ok nmX7 4 (by decide) (tw (i := 743) (by decide +kernel) (by decide)) rfl rfl rfl rfl (by omega) (at_M rfl) (Nat.le_of_ble_eq_true rfl) hdg (fun H1 locs1 h => kk H1 locs1 (h.upR (show oR 1 = 459 from rfl) (by omega) rfl))
theorem gX7_199 (X : Cx p s m args c cc nL RX7 E B) (hJ : JG E B s g H locs) (hw : g.2.2.2 = w) (hdg : decode cc pc = .ok (.getfield 199, 3))
    (kk : W p l e R s m args below meth c H locs cells slots Q (F0 m (pc + 3) ls (.int (w 2) :: rest))) : W p l e R s m args below meth c H locs cells slots Q (F0 m pc ls (.ref (B + 459) :: rest)) :=
  rget X hJ rfl inT7 5 (by decide) (tw (i := 744) (by decide +kernel) (by decide)) rfl (by omega) (at_M hw) rfl hdg kk
theorem pX7_199 (X : Cx p s m args c cc nL RX7 E B) (hJ : JG E B s (upR g w) H locs)  (hdg : decode cc pc = .ok (.putfield 199, 3))
    (kk : ∀ (H1 : Heap) (locs1 : List Loc), JG E B s (upR g (upd w (2) v)) H1 locs1 → W p l e R s m args below meth c H1 locs1 cells slots Q (F0 m (pc + 3) ls rest)) : W p l e R s m args below meth c H locs cells slots Q (F0 m pc ls (.int v :: .ref (B + 459) :: rest)) :=
  rput X hJ rfl inT7 tyX7_ok nmX7 5 (by decide) (tw (i := 744) (by decide +kernel) (by decide)) rfl rfl rfl rfl (by omega) (at_M rfl) (Nat.le_of_ble_eq_true rfl) hdg (fun H1 locs1 h => kk H1 locs1 (h.upR (show oR 2 = 459 from rfl) (by omega) rfl))
theorem gX7_210 (X : Cx p s m args c cc nL RX7 E B) (hJ : JG E B s g H locs) (hw : g.2.2.2 = w) (hdg : decode cc pc = .ok (.getfield 210, 3))
    (kk : W p l e R s m args below meth c H locs cells slots Q (F0 m (pc + 3) ls (.int (w 4) :: rest))) : W p l e R s m args below meth c H locs cells slots Q (F0 m pc ls (.ref (B + 459) :: rest)) :=
  rget X hJ rfl inT7 7 (by decide) (tw (i := 746) (by decide +kernel) (by decide)) rfl (by omega) (at_M hw) rfl hdg kk
theorem pX7_210 (X : Cx p s m args c cc nL RX7 E B) (hJ : JG E B s (upR g w) H locs)  (hdg : decode cc pc = .ok (.putfield 210, 3))
    (kk : ∀ (H1 : Heap) (locs1 : List Loc), JG E B s (upR g (upd w (4) v)) H1 locs1 → W p l e R s m args below meth c H1 locs1 cells slots Q (F0 m (pc + 3) ls rest)) : W p l e R s m args below meth c H locs cells slots Q (F0 m pc ls (.int v :: .ref (B + 459) :: rest)) :=
  rput X hJ rfl inT7 tyX7_ok nmX7 7 (by decide) (tw (i := 746) (by decide +kernel) (by decide)) rfl rfl rfl rfl (by omega) (at_M rfl) (Nat.le_of_ble_eq_true rfl) hdg (fun H1 locs1 h => kk H1 locs1 (h.upR (show oR 4 = 459 from rfl) (by omega) rfl))
theorem gX7_216 (X : Cx p s m args c cc nL RX7 E B) (hJ : JG E B s g H locs) (hw : g.2.2.2 = w) (hdg : decode cc pc = .ok (.getfield 216, 3))
    (kk : W p l e R s m args below meth c H locs cells slots Q (F0 m (pc + 3) ls (.int (w 5) :: rest))) : W p l e R s m args below meth c H locs cells slots Q (F0 m pc ls (.ref (B + 459) :: rest)) :=
  rget X hJ rfl inT7 8 (by decide) (tw (i := 747) (by decide +kernel) (by decide)) rfl (by omega) (at_M hw) rfl hdg kk
theorem pX7_216 (X : Cx p s m args c cc nL RX7 E B) (hJ : JG E B s (upR g w) H locs)  (hdg : decode cc pc = .ok (.putfield 216, 3))
    (kk : ∀ (H1 : Heap) (locs1 : List Loc), JG E B s (upR g (upd w (5) v)) H1 locs1 → W p l e R s m args below meth c H1 locs1 cells slots Q (F0 m (pc + 3) ls rest)) : W p l e R s m args below meth c H locs cells slots Q (F0 m pc ls (.int v :: .ref (B + 459) :: rest)) :=
  rput X hJ rfl inT7 tyX7_ok nmX7 8 (by decide) (tw (i := 747) (by decide +kernel) (by decide)) rfl rfl rfl rfl (by omega) (at_M rfl) (Nat.le_of_ble_eq_true rfl) hdg (fun H1 locs1 h => kk H1 locs1 (h.upR (show oR 5 = 459 from rfl) (by omega) rfl))
theorem gX7_219 (X : Cx p s m args c cc nL RX7 E B) (hJ : JG E B s g H locs) (hw : g.2.2.2 = w) (hdg : decode cc pc = .ok (.getfield 219, 3))
    (kk : W p l e R s m args below meth c H locs cells slots Q (F0 m (pc + 3) ls (.int (w 6) :: rest))) : W p l e R s m args below meth c H locs cells slots Q (F0 m pc ls (.ref (B + 459) :: rest)) :=
  rget X hJ rfl inT7 9 (by decide) (tw (i := 748) (by decide +kernel) (by decide)) rfl (by omega) (at_M hw) rfl hdg kk
theorem pX7_219 (X : Cx p s m args c cc nL RX7 E B) (hJ : JG E B s (upR g w) H locs)  (hdg : decode cc pc = .ok (.putfield 219, 3))
    (kk : ∀ (H1 : Heap) (locs1 : List Loc), JG E B s (upR g (upd w (6) v)) H1 locs1 → W p l e R s m args below meth c H1 locs1 cells slots Q (F0 m (pc + 3) ls rest)) : W p l e R s m args below meth c H locs cells slots Q (F0 m pc ls (.int v :: .ref (B + 459) :: rest)) :=
  rput X hJ rfl inT7 tyX7_ok nmX7 9 (by decide) (tw (i := 748) (by decide +kernel) (by decide)) rfl rfl rfl rfl (by omega) (at_M rfl) (Nat.le_of_ble_eq_true rfl) hdg (fun H1 locs1 h => kk H1 locs1 (h.upR (show oR 6 = 459 from rfl) (by omega) rfl))
theorem gX7_222 (X : Cx p s m args c cc nL RX7 E B) (hJ : JG E B s g H locs) (hw : g.2.2.2 = w) (hdg : decode cc pc = .ok (.getfield 222, 3))
    (kk : W p l e R s m args below meth c H locs cells slots Q (F0 m (pc + 3) ls (.int (w 3) :: rest))) : W p l e R s m args below meth c H locs cells slots Q (F0 m pc ls (.ref (B + 459) :: rest)) :=
  rget X hJ rfl inT7 6 (by decide) (tw (i := 745) (by decide +kernel) (by decide)) rfl (by omega) (at_M hw) rfl hdg kk
theorem pX7_222 (X : Cx p s m args c cc nL RX7 E B) (hJ : JG E B s (upR g w) H locs)  (hch : narrow .char (.int v) = .int v) (hcf : fits .char (.int v) = true) (hdg : decode cc pc = .ok (.putfield 222, 3))
    (kk : ∀ (H1 : Heap) (locs1 : List Loc), JG E B s (upR g (upd w (3) v)) H1 locs1 → W p l e R s m args below meth c H1 locs1 cells slots Q (F0 m (pc + 3) ls rest)) : W p l e R s m args below meth c H locs cells slots Q (F0 m pc ls (.int v :: .ref (B + 459) :: rest)) :=
  rput X hJ rfl inT7 tyX7_ok nmX7 6 (by decide) (tw (i := 745) (by decide +kernel) (by decide)) rfl rfl hch hcf (by omega) (at_M rfl) (Nat.le_of_ble_eq_true rfl) hdg (fun H1 locs1 h => kk H1 locs1 (h.upR (show oR 3 = 459 from rfl) (by omega) rfl))
end LK
end
section
/-! calls, a theorem a method link -/
section LK
variable {p : Program} {l : Launch} {e : Env} {R : Room} {s : State} {m : MethodId} {args : Array Value} {below : List Frame} {meth : Method} {c : Code} {H : Heap} {locs : List Loc} {cells slots : Nat} {Q : State → Prop}
variable {cc : ByteArray} {nL : Nat} {E : EE} {B : Nat} {pc : Nat} {ls : Array Slot} {rest : List Value} {n : Nat} {f : Nat → va_E} {g : GS} {k : Nat} {w : Row} {v : Int32} {own : String}

variable {n1 : Nat} {f1 : Nat → va_E} {As st : List Value} {rv : Value} {fr lo mc ms o b : Nat}
theorem tw_obj_i : Cond.instanceMethod objectInit ∈ TW := tw (i := 78) (by decide +kernel) (by decide)
theorem tw_obj_c : Cond.code objectInit ⟨#[0xb1]⟩ 1 none ∈ TW := tw (i := 79) (by decide +kernel) (by decide)
theorem tw_cpy_n : Cond.native arraycopyName ∈ TW := tw (i := 94) (by decide +kernel) (by decide)
theorem tw_cpy_s : Cond.static arraycopyName ∈ TW := tw (i := 93) (by decide +kernel) (by decide)
theorem tw_cpy_i : Cond.initialized "java/lang/System" ∈ TW := tw (i := 64) (by decide +kernel) (by decide)
theorem tk_X0_init : Cond.code yX0_init cX0_init 2 none ∈ TW := tw (i := 98) (by decide +kernel) (by decide)
theorem ti_X0_init : Cond.instanceMethod yX0_init ∈ TW := tw (i := 97) (by decide +kernel) (by decide)
theorem tk_X0_copyFrom : Cond.code yX0_copyFrom cX0_copyFrom 2 none ∈ TW := tw (i := 329) (by decide +kernel) (by decide)
theorem ti_X0_copyFrom : Cond.instanceMethod yX0_copyFrom ∈ TW := tw (i := 327) (by decide +kernel) (by decide)
theorem te_X0_copyFrom : Cond.selects yX0_copyFrom.cls yX0_copyFrom yX0_copyFrom ∈ TW := tw (i := 328) (by decide +kernel) (by decide)
theorem tk_X0_part : Cond.code yX0_part cX0_part 2 (some .int) ∈ TW := tw (i := 534) (by decide +kernel) (by decide)
theorem ti_X0_part : Cond.instanceMethod yX0_part ∈ TW := tw (i := 532) (by decide +kernel) (by decide)
theorem te_X0_part : Cond.selects yX0_part.cls yX0_part yX0_part ∈ TW := tw (i := 533) (by decide +kernel) (by decide)
theorem tk_X0_isAt : Cond.code yX0_isAt cX0_isAt 2 (some .boolean) ∈ TW := tw (i := 409) (by decide +kernel) (by decide)
theorem ti_X0_isAt : Cond.instanceMethod yX0_isAt ∈ TW := tw (i := 407) (by decide +kernel) (by decide)
theorem te_X0_isAt : Cond.selects yX0_isAt.cls yX0_isAt yX0_isAt ∈ TW := tw (i := 408) (by decide +kernel) (by decide)
theorem tk_X0_farFrom : Cond.code yX0_farFrom cX0_farFrom 2 (some .int) ∈ TW := tw (i := 498) (by decide +kernel) (by decide)
theorem ti_X0_farFrom : Cond.instanceMethod yX0_farFrom ∈ TW := tw (i := 496) (by decide +kernel) (by decide)
theorem te_X0_farFrom : Cond.selects yX0_farFrom.cls yX0_farFrom yX0_farFrom ∈ TW := tw (i := 497) (by decide +kernel) (by decide)
theorem tk_X0_endsSet : Cond.code yX0_endsSet cX0_endsSet 1 (some .int) ∈ TW := tw (i := 635) (by decide +kernel) (by decide)
theorem ti_X0_endsSet : Cond.instanceMethod yX0_endsSet ∈ TW := tw (i := 633) (by decide +kernel) (by decide)
theorem te_X0_endsSet : Cond.selects yX0_endsSet.cls yX0_endsSet yX0_endsSet ∈ TW := tw (i := 634) (by decide +kernel) (by decide)
theorem tk_X0_distance : Cond.code yX0_distance cX0_distance 2 (some .int) ∈ TW := tw (i := 477) (by decide +kernel) (by decide)
theorem ti_X0_distance : Cond.instanceMethod yX0_distance ∈ TW := tw (i := 475) (by decide +kernel) (by decide)
theorem te_X0_distance : Cond.selects yX0_distance.cls yX0_distance yX0_distance ∈ TW := tw (i := 476) (by decide +kernel) (by decide)
theorem tk_X0_takeRiddle : Cond.code yX0_takeRiddle cX0_takeRiddle 2 none ∈ TW := tw (i := 373) (by decide +kernel) (by decide)
theorem ti_X0_takeRiddle : Cond.instanceMethod yX0_takeRiddle ∈ TW := tw (i := 371) (by decide +kernel) (by decide)
theorem te_X0_takeRiddle : Cond.selects yX0_takeRiddle.cls yX0_takeRiddle yX0_takeRiddle ∈ TW := tw (i := 372) (by decide +kernel) (by decide)
theorem tk_X1_init : Cond.code yX1_init cX1_init 2 none ∈ TW := tw (i := 146) (by decide +kernel) (by decide)
theorem ti_X1_init : Cond.instanceMethod yX1_init ∈ TW := tw (i := 145) (by decide +kernel) (by decide)
theorem tk_X1_copyFrom : Cond.code yX1_copyFrom cX1_copyFrom 2 none ∈ TW := tw (i := 333) (by decide +kernel) (by decide)
theorem ti_X1_copyFrom : Cond.instanceMethod yX1_copyFrom ∈ TW := tw (i := 331) (by decide +kernel) (by decide)
theorem te_X1_copyFrom : Cond.selects yX1_copyFrom.cls yX1_copyFrom yX1_copyFrom ∈ TW := tw (i := 332) (by decide +kernel) (by decide)
theorem tk_X1_part : Cond.code yX1_part cX1_part 2 (some .int) ∈ TW := tw (i := 542) (by decide +kernel) (by decide)
theorem ti_X1_part : Cond.instanceMethod yX1_part ∈ TW := tw (i := 540) (by decide +kernel) (by decide)
theorem te_X1_part : Cond.selects yX1_part.cls yX1_part yX1_part ∈ TW := tw (i := 541) (by decide +kernel) (by decide)
theorem tk_X1_isWaiting : Cond.code yX1_isWaiting cX1_isWaiting 1 (some .boolean) ∈ TW := tw (i := 405) (by decide +kernel) (by decide)
theorem ti_X1_isWaiting : Cond.instanceMethod yX1_isWaiting ∈ TW := tw (i := 403) (by decide +kernel) (by decide)
theorem te_X1_isWaiting : Cond.selects yX1_isWaiting.cls yX1_isWaiting yX1_isWaiting ∈ TW := tw (i := 404) (by decide +kernel) (by decide)
theorem tk_X1_lowest : Cond.code yX1_lowest cX1_lowest 2 (some .int) ∈ TW := tw (i := 441) (by decide +kernel) (by decide)
theorem ti_X1_lowest : Cond.instanceMethod yX1_lowest ∈ TW := tw (i := 439) (by decide +kernel) (by decide)
theorem te_X1_lowest : Cond.selects yX1_lowest.cls yX1_lowest yX1_lowest ∈ TW := tw (i := 440) (by decide +kernel) (by decide)
theorem tk_X1_highest : Cond.code yX1_highest cX1_highest 2 (some .int) ∈ TW := tw (i := 437) (by decide +kernel) (by decide)
theorem ti_X1_highest : Cond.instanceMethod yX1_highest ∈ TW := tw (i := 435) (by decide +kernel) (by decide)
theorem te_X1_highest : Cond.selects yX1_highest.cls yX1_highest yX1_highest ∈ TW := tw (i := 436) (by decide +kernel) (by decide)
theorem tk_X1_numbersLeft : Cond.code yX1_numbersLeft cX1_numbersLeft 2 (some .int) ∈ TW := tw (i := 433) (by decide +kernel) (by decide)
theorem ti_X1_numbersLeft : Cond.instanceMethod yX1_numbersLeft ∈ TW := tw (i := 431) (by decide +kernel) (by decide)
theorem te_X1_numbersLeft : Cond.selects yX1_numbersLeft.cls yX1_numbersLeft yX1_numbersLeft ∈ TW := tw (i := 432) (by decide +kernel) (by decide)
theorem tk_X1_forget : Cond.code yX1_forget cX1_forget 2 none ∈ TW := tw (i := 377) (by decide +kernel) (by decide)
theorem ti_X1_forget : Cond.instanceMethod yX1_forget ∈ TW := tw (i := 375) (by decide +kernel) (by decide)
theorem te_X1_forget : Cond.selects yX1_forget.cls yX1_forget yX1_forget ∈ TW := tw (i := 376) (by decide +kernel) (by decide)
theorem tk_X1_halve : Cond.code yX1_halve cX1_halve 3 none ∈ TW := tw (i := 449) (by decide +kernel) (by decide)
theorem ti_X1_halve : Cond.instanceMethod yX1_halve ∈ TW := tw (i := 447) (by decide +kernel) (by decide)
theorem te_X1_halve : Cond.selects yX1_halve.cls yX1_halve yX1_halve ∈ TW := tw (i := 448) (by decide +kernel) (by decide)
theorem tk_X1_numbersNearer : Cond.code yX1_numbersNearer cX1_numbersNearer 5 (some .int) ∈ TW := tw (i := 612) (by decide +kernel) (by decide)
theorem ti_X1_numbersNearer : Cond.instanceMethod yX1_numbersNearer ∈ TW := tw (i := 610) (by decide +kernel) (by decide)
theorem te_X1_numbersNearer : Cond.selects yX1_numbersNearer.cls yX1_numbersNearer yX1_numbersNearer ∈ TW := tw (i := 611) (by decide +kernel) (by decide)
theorem tk_X1_pay : Cond.code yX1_pay cX1_pay 3 none ∈ TW := tw (i := 445) (by decide +kernel) (by decide)
theorem ti_X1_pay : Cond.instanceMethod yX1_pay ∈ TW := tw (i := 443) (by decide +kernel) (by decide)
theorem te_X1_pay : Cond.selects yX1_pay.cls yX1_pay yX1_pay ∈ TW := tw (i := 444) (by decide +kernel) (by decide)
theorem tk_X1_takeGift : Cond.code yX1_takeGift cX1_takeGift 4 none ∈ TW := tw (i := 493) (by decide +kernel) (by decide)
theorem ti_X1_takeGift : Cond.instanceMethod yX1_takeGift ∈ TW := tw (i := 491) (by decide +kernel) (by decide)
theorem te_X1_takeGift : Cond.selects yX1_takeGift.cls yX1_takeGift yX1_takeGift ∈ TW := tw (i := 492) (by decide +kernel) (by decide)
theorem tk_X2_init : Cond.code yX2_init cX2_init 2 none ∈ TW := tw (i := 231) (by decide +kernel) (by decide)
theorem ti_X2_init : Cond.instanceMethod yX2_init ∈ TW := tw (i := 230) (by decide +kernel) (by decide)
theorem tk_X2_note : Cond.code yX2_note cX2_note 2 none ∈ TW := tw (i := 321) (by decide +kernel) (by decide)
theorem ti_X2_note : Cond.instanceMethod yX2_note ∈ TW := tw (i := 319) (by decide +kernel) (by decide)
theorem te_X2_note : Cond.selects yX2_note.cls yX2_note yX2_note ∈ TW := tw (i := 320) (by decide +kernel) (by decide)
theorem tk_X2_keepNoted : Cond.code yX2_keepNoted cX2_keepNoted 1 none ∈ TW := tw (i := 353) (by decide +kernel) (by decide)
theorem ti_X2_keepNoted : Cond.instanceMethod yX2_keepNoted ∈ TW := tw (i := 351) (by decide +kernel) (by decide)
theorem te_X2_keepNoted : Cond.selects yX2_keepNoted.cls yX2_keepNoted yX2_keepNoted ∈ TW := tw (i := 352) (by decide +kernel) (by decide)
theorem tk_X2_takeBack : Cond.code yX2_takeBack cX2_takeBack 2 none ∈ TW := tw (i := 724) (by decide +kernel) (by decide)
theorem ti_X2_takeBack : Cond.instanceMethod yX2_takeBack ∈ TW := tw (i := 722) (by decide +kernel) (by decide)
theorem te_X2_takeBack : Cond.selects yX2_takeBack.cls yX2_takeBack yX2_takeBack ∈ TW := tw (i := 723) (by decide +kernel) (by decide)
theorem tk_X3_init : Cond.code yX3_init cX3_init 2 none ∈ TW := tw (i := 267) (by decide +kernel) (by decide)
theorem ti_X3_init : Cond.instanceMethod yX3_init ∈ TW := tw (i := 266) (by decide +kernel) (by decide)
theorem tk_X3_goToStart : Cond.code yX3_goToStart cX3_goToStart 1 none ∈ TW := tw (i := 669) (by decide +kernel) (by decide)
theorem ti_X3_goToStart : Cond.instanceMethod yX3_goToStart ∈ TW := tw (i := 667) (by decide +kernel) (by decide)
theorem te_X3_goToStart : Cond.selects yX3_goToStart.cls yX3_goToStart yX3_goToStart ∈ TW := tw (i := 668) (by decide +kernel) (by decide)
theorem tk_X3_faultPlace : Cond.code yX3_faultPlace cX3_faultPlace 2 (some .int) ∈ TW := tw (i := 665) (by decide +kernel) (by decide)
theorem ti_X3_faultPlace : Cond.instanceMethod yX3_faultPlace ∈ TW := tw (i := 663) (by decide +kernel) (by decide)
theorem te_X3_faultPlace : Cond.selects yX3_faultPlace.cls yX3_faultPlace yX3_faultPlace ∈ TW := tw (i := 664) (by decide +kernel) (by decide)
theorem tk_X3_readOrder : Cond.code yX3_readOrder cX3_readOrder 1 (some .boolean) ∈ TW := tw (i := 673) (by decide +kernel) (by decide)
theorem ti_X3_readOrder : Cond.instanceMethod yX3_readOrder ∈ TW := tw (i := 671) (by decide +kernel) (by decide)
theorem te_X3_readOrder : Cond.selects yX3_readOrder.cls yX3_readOrder yX3_readOrder ∈ TW := tw (i := 672) (by decide +kernel) (by decide)
theorem tk_X3_readSign : Cond.code yX3_readSign cX3_readSign 3 (some .boolean) ∈ TW := tw (i := 693) (by decide +kernel) (by decide)
theorem ti_X3_readSign : Cond.instanceMethod yX3_readSign ∈ TW := tw (i := 691) (by decide +kernel) (by decide)
theorem te_X3_readSign : Cond.selects yX3_readSign.cls yX3_readSign yX3_readSign ∈ TW := tw (i := 692) (by decide +kernel) (by decide)
theorem tk_X3_isKind : Cond.code yX3_isKind cX3_isKind 1 (some .boolean) ∈ TW := tw (i := 677) (by decide +kernel) (by decide)
theorem ts_X3_isKind : Cond.static yX3_isKind ∈ TW := tw (i := 676) (by decide +kernel) (by decide)
theorem tk_X3_readDigit : Cond.code yX3_readDigit cX3_readDigit 1 (some .boolean) ∈ TW := tw (i := 685) (by decide +kernel) (by decide)
theorem ti_X3_readDigit : Cond.instanceMethod yX3_readDigit ∈ TW := tw (i := 684) (by decide +kernel) (by decide)
theorem te_X3_readDigit : Cond.selects yX3_readDigit.cls yX3_readDigit yX3_readDigit ∈ TW := tw (i := 10) (by decide +kernel) (by decide)
theorem tk_X3_readDigitPair : Cond.code yX3_readDigitPair cX3_readDigitPair 1 (some .boolean) ∈ TW := tw (i := 681) (by decide +kernel) (by decide)
theorem ti_X3_readDigitPair : Cond.instanceMethod yX3_readDigitPair ∈ TW := tw (i := 680) (by decide +kernel) (by decide)
theorem te_X3_readDigitPair : Cond.selects yX3_readDigitPair.cls yX3_readDigitPair yX3_readDigitPair ∈ TW := tw (i := 9) (by decide +kernel) (by decide)
theorem tk_X3_readSecond : Cond.code yX3_readSecond cX3_readSecond 1 (some .boolean) ∈ TW := tw (i := 705) (by decide +kernel) (by decide)
theorem ti_X3_readSecond : Cond.instanceMethod yX3_readSecond ∈ TW := tw (i := 704) (by decide +kernel) (by decide)
theorem te_X3_readSecond : Cond.selects yX3_readSecond.cls yX3_readSecond yX3_readSecond ∈ TW := tw (i := 14) (by decide +kernel) (by decide)
theorem tk_X3_readThird : Cond.code yX3_readThird cX3_readThird 1 (some .boolean) ∈ TW := tw (i := 697) (by decide +kernel) (by decide)
theorem ti_X3_readThird : Cond.instanceMethod yX3_readThird ∈ TW := tw (i := 696) (by decide +kernel) (by decide)
theorem te_X3_readThird : Cond.selects yX3_readThird.cls yX3_readThird yX3_readThird ∈ TW := tw (i := 12) (by decide +kernel) (by decide)
theorem tk_X3_readNumber : Cond.code yX3_readNumber cX3_readNumber 4 (some .int) ∈ TW := tw (i := 701) (by decide +kernel) (by decide)
theorem ti_X3_readNumber : Cond.instanceMethod yX3_readNumber ∈ TW := tw (i := 700) (by decide +kernel) (by decide)
theorem te_X3_readNumber : Cond.selects yX3_readNumber.cls yX3_readNumber yX3_readNumber ∈ TW := tw (i := 13) (by decide +kernel) (by decide)
theorem tk_X3_nextDigit : Cond.code yX3_nextDigit cX3_nextDigit 2 (some .int) ∈ TW := tw (i := 689) (by decide +kernel) (by decide)
theorem ti_X3_nextDigit : Cond.instanceMethod yX3_nextDigit ∈ TW := tw (i := 688) (by decide +kernel) (by decide)
theorem te_X3_nextDigit : Cond.selects yX3_nextDigit.cls yX3_nextDigit yX3_nextDigit ∈ TW := tw (i := 11) (by decide +kernel) (by decide)
theorem tk_X4_init : Cond.code yX4_init cX4_init 1 none ∈ TW := tw (i := 251) (by decide +kernel) (by decide)
theorem ti_X4_init : Cond.instanceMethod yX4_init ∈ TW := tw (i := 250) (by decide +kernel) (by decide)
theorem tk_X4_clear : Cond.code yX4_clear cX4_clear 1 none ∈ TW := tw (i := 507) (by decide +kernel) (by decide)
theorem ti_X4_clear : Cond.instanceMethod yX4_clear ∈ TW := tw (i := 505) (by decide +kernel) (by decide)
theorem te_X4_clear : Cond.selects yX4_clear.cls yX4_clear yX4_clear ∈ TW := tw (i := 506) (by decide +kernel) (by decide)
theorem tk_X4_codeAt : Cond.code yX4_codeAt cX4_codeAt 2 (some .int) ∈ TW := tw (i := 562) (by decide +kernel) (by decide)
theorem ti_X4_codeAt : Cond.instanceMethod yX4_codeAt ∈ TW := tw (i := 560) (by decide +kernel) (by decide)
theorem te_X4_codeAt : Cond.selects yX4_codeAt.cls yX4_codeAt yX4_codeAt ∈ TW := tw (i := 561) (by decide +kernel) (by decide)
theorem tk_X4_append : Cond.code yX4_append cX4_append 2 none ∈ TW := tw (i := 515) (by decide +kernel) (by decide)
theorem ti_X4_append : Cond.instanceMethod yX4_append ∈ TW := tw (i := 513) (by decide +kernel) (by decide)
theorem te_X4_append : Cond.selects yX4_append.cls yX4_append yX4_append ∈ TW := tw (i := 514) (by decide +kernel) (by decide)
theorem tk_X4_appendNumber : Cond.code yX4_appendNumber cX4_appendNumber 3 none ∈ TW := tw (i := 519) (by decide +kernel) (by decide)
theorem ti_X4_appendNumber : Cond.instanceMethod yX4_appendNumber ∈ TW := tw (i := 517) (by decide +kernel) (by decide)
theorem te_X4_appendNumber : Cond.selects yX4_appendNumber.cls yX4_appendNumber yX4_appendNumber ∈ TW := tw (i := 518) (by decide +kernel) (by decide)
theorem tk_X5_init : Cond.code yX5_init cX5_init 2 none ∈ TW := tw (i := 84) (by decide +kernel) (by decide)
theorem ti_X5_init : Cond.instanceMethod yX5_init ∈ TW := tw (i := 83) (by decide +kernel) (by decide)
theorem tk_X5_copyFrom : Cond.code yX5_copyFrom cX5_copyFrom 3 none ∈ TW := tw (i := 325) (by decide +kernel) (by decide)
theorem ti_X5_copyFrom : Cond.instanceMethod yX5_copyFrom ∈ TW := tw (i := 323) (by decide +kernel) (by decide)
theorem te_X5_copyFrom : Cond.selects yX5_copyFrom.cls yX5_copyFrom yX5_copyFrom ∈ TW := tw (i := 324) (by decide +kernel) (by decide)
theorem tk_X5_bridgeOf : Cond.code yX5_bridgeOf cX5_bridgeOf 2 (some (.object "BridgeWardens$Bridge")) ∈ TW := tw (i := 401) (by decide +kernel) (by decide)
theorem ti_X5_bridgeOf : Cond.instanceMethod yX5_bridgeOf ∈ TW := tw (i := 399) (by decide +kernel) (by decide)
theorem te_X5_bridgeOf : Cond.selects yX5_bridgeOf.cls yX5_bridgeOf yX5_bridgeOf ∈ TW := tw (i := 400) (by decide +kernel) (by decide)
theorem tk_X5_cartOf : Cond.code yX5_cartOf cX5_cartOf 2 (some (.object "BridgeWardens$Cart")) ∈ TW := tw (i := 397) (by decide +kernel) (by decide)
theorem ti_X5_cartOf : Cond.instanceMethod yX5_cartOf ∈ TW := tw (i := 395) (by decide +kernel) (by decide)
theorem te_X5_cartOf : Cond.selects yX5_cartOf.cls yX5_cartOf yX5_cartOf ∈ TW := tw (i := 396) (by decide +kernel) (by decide)
theorem tk_X5_changeSetting : Cond.code yX5_changeSetting cX5_changeSetting 4 (some .int) ∈ TW := tw (i := 338) (by decide +kernel) (by decide)
theorem ti_X5_changeSetting : Cond.instanceMethod yX5_changeSetting ∈ TW := tw (i := 336) (by decide +kernel) (by decide)
theorem te_X5_changeSetting : Cond.selects yX5_changeSetting.cls yX5_changeSetting yX5_changeSetting ∈ TW := tw (i := 337) (by decide +kernel) (by decide)
theorem tk_X5_addBridge : Cond.code yX5_addBridge cX5_addBridge 5 (some .int) ∈ TW := tw (i := 364) (by decide +kernel) (by decide)
theorem ti_X5_addBridge : Cond.instanceMethod yX5_addBridge ∈ TW := tw (i := 362) (by decide +kernel) (by decide)
theorem te_X5_addBridge : Cond.selects yX5_addBridge.cls yX5_addBridge yX5_addBridge ∈ TW := tw (i := 363) (by decide +kernel) (by decide)
theorem tk_X5_addCart : Cond.code yX5_addCart cX5_addCart 4 (some .int) ∈ TW := tw (i := 385) (by decide +kernel) (by decide)
theorem ti_X5_addCart : Cond.instanceMethod yX5_addCart ∈ TW := tw (i := 383) (by decide +kernel) (by decide)
theorem te_X5_addCart : Cond.selects yX5_addCart.cls yX5_addCart yX5_addCart ∈ TW := tw (i := 384) (by decide +kernel) (by decide)
theorem tk_X5_comeToWait : Cond.code yX5_comeToWait cX5_comeToWait 6 (some .int) ∈ TW := tw (i := 393) (by decide +kernel) (by decide)
theorem ti_X5_comeToWait : Cond.instanceMethod yX5_comeToWait ∈ TW := tw (i := 391) (by decide +kernel) (by decide)
theorem te_X5_comeToWait : Cond.selects yX5_comeToWait.cls yX5_comeToWait yX5_comeToWait ∈ TW := tw (i := 392) (by decide +kernel) (by decide)
theorem tk_X5_stopWaiting : Cond.code yX5_stopWaiting cX5_stopWaiting 4 (some .int) ∈ TW := tw (i := 417) (by decide +kernel) (by decide)
theorem ti_X5_stopWaiting : Cond.instanceMethod yX5_stopWaiting ∈ TW := tw (i := 415) (by decide +kernel) (by decide)
theorem te_X5_stopWaiting : Cond.selects yX5_stopWaiting.cls yX5_stopWaiting yX5_stopWaiting ∈ TW := tw (i := 416) (by decide +kernel) (by decide)
theorem tk_X5_buyHint : Cond.code yX5_buyHint cX5_buyHint 6 (some .int) ∈ TW := tw (i := 429) (by decide +kernel) (by decide)
theorem ti_X5_buyHint : Cond.instanceMethod yX5_buyHint ∈ TW := tw (i := 427) (by decide +kernel) (by decide)
theorem te_X5_buyHint : Cond.selects yX5_buyHint.cls yX5_buyHint yX5_buyHint ∈ TW := tw (i := 428) (by decide +kernel) (by decide)
theorem tk_X5_passHours : Cond.code yX5_passHours cX5_passHours 4 (some .int) ∈ TW := tw (i := 457) (by decide +kernel) (by decide)
theorem ti_X5_passHours : Cond.instanceMethod yX5_passHours ∈ TW := tw (i := 455) (by decide +kernel) (by decide)
theorem te_X5_passHours : Cond.selects yX5_passHours.cls yX5_passHours yX5_passHours ∈ TW := tw (i := 456) (by decide +kernel) (by decide)
theorem tk_X5_playHour : Cond.code yX5_playHour cX5_playHour 3 (some .int) ∈ TW := tw (i := 461) (by decide +kernel) (by decide)
theorem ti_X5_playHour : Cond.instanceMethod yX5_playHour ∈ TW := tw (i := 459) (by decide +kernel) (by decide)
theorem te_X5_playHour : Cond.selects yX5_playHour.cls yX5_playHour yX5_playHour ∈ TW := tw (i := 460) (by decide +kernel) (by decide)
theorem tk_X5_letOver : Cond.code yX5_letOver cX5_letOver 4 (some .int) ∈ TW := tw (i := 465) (by decide +kernel) (by decide)
theorem ti_X5_letOver : Cond.instanceMethod yX5_letOver ∈ TW := tw (i := 464) (by decide +kernel) (by decide)
theorem te_X5_letOver : Cond.selects yX5_letOver.cls yX5_letOver yX5_letOver ∈ TW := tw (i := 3) (by decide +kernel) (by decide)
theorem tk_X5_comerOver : Cond.code yX5_comerOver cX5_comerOver 5 (some (.object "BridgeWardens$Cart")) ∈ TW := tw (i := 484) (by decide +kernel) (by decide)
theorem ti_X5_comerOver : Cond.instanceMethod yX5_comerOver ∈ TW := tw (i := 482) (by decide +kernel) (by decide)
theorem te_X5_comerOver : Cond.selects yX5_comerOver.cls yX5_comerOver yX5_comerOver ∈ TW := tw (i := 483) (by decide +kernel) (by decide)
theorem tk_X5_isTied : Cond.code yX5_isTied cX5_isTied 4 (some .boolean) ∈ TW := tw (i := 469) (by decide +kernel) (by decide)
theorem ti_X5_isTied : Cond.instanceMethod yX5_isTied ∈ TW := tw (i := 468) (by decide +kernel) (by decide)
theorem te_X5_isTied : Cond.selects yX5_isTied.cls yX5_isTied yX5_isTied ∈ TW := tw (i := 4) (by decide +kernel) (by decide)
theorem tk_X5_payerOfTie : Cond.code yX5_payerOfTie cX5_payerOfTie 5 (some (.object "BridgeWardens$Cart")) ∈ TW := tw (i := 488) (by decide +kernel) (by decide)
theorem ti_X5_payerOfTie : Cond.instanceMethod yX5_payerOfTie ∈ TW := tw (i := 487) (by decide +kernel) (by decide)
theorem te_X5_payerOfTie : Cond.selects yX5_payerOfTie.cls yX5_payerOfTie yX5_payerOfTie ∈ TW := tw (i := 5) (by decide +kernel) (by decide)
theorem tk_X5_release : Cond.code yX5_release cX5_release 5 none ∈ TW := tw (i := 421) (by decide +kernel) (by decide)
theorem ti_X5_release : Cond.instanceMethod yX5_release ∈ TW := tw (i := 420) (by decide +kernel) (by decide)
theorem te_X5_release : Cond.selects yX5_release.cls yX5_release yX5_release ∈ TW := tw (i := 2) (by decide +kernel) (by decide)
theorem tk_X5_drawRiddle : Cond.code yX5_drawRiddle cX5_drawRiddle 3 none ∈ TW := tw (i := 368) (by decide +kernel) (by decide)
theorem ti_X5_drawRiddle : Cond.instanceMethod yX5_drawRiddle ∈ TW := tw (i := 367) (by decide +kernel) (by decide)
theorem te_X5_drawRiddle : Cond.selects yX5_drawRiddle.cls yX5_drawRiddle yX5_drawRiddle ∈ TW := tw (i := 1) (by decide +kernel) (by decide)
theorem tk_X5_waiterAt : Cond.code yX5_waiterAt cX5_waiterAt 6 (some (.object "BridgeWardens$Cart")) ∈ TW := tw (i := 473) (by decide +kernel) (by decide)
theorem ti_X5_waiterAt : Cond.instanceMethod yX5_waiterAt ∈ TW := tw (i := 471) (by decide +kernel) (by decide)
theorem te_X5_waiterAt : Cond.selects yX5_waiterAt.cls yX5_waiterAt yX5_waiterAt ∈ TW := tw (i := 472) (by decide +kernel) (by decide)
theorem tk_X5_reasonToStay : Cond.code yX5_reasonToStay cX5_reasonToStay 4 (some .int) ∈ TW := tw (i := 597) (by decide +kernel) (by decide)
theorem ti_X5_reasonToStay : Cond.instanceMethod yX5_reasonToStay ∈ TW := tw (i := 595) (by decide +kernel) (by decide)
theorem te_X5_reasonToStay : Cond.selects yX5_reasonToStay.cls yX5_reasonToStay yX5_reasonToStay ∈ TW := tw (i := 596) (by decide +kernel) (by decide)
theorem tk_X5_total : Cond.code yX5_total cX5_total 3 (some .int) ∈ TW := tw (i := 570) (by decide +kernel) (by decide)
theorem ti_X5_total : Cond.instanceMethod yX5_total ∈ TW := tw (i := 568) (by decide +kernel) (by decide)
theorem te_X5_total : Cond.selects yX5_total.cls yX5_total yX5_total ∈ TW := tw (i := 569) (by decide +kernel) (by decide)
theorem tk_X5_waitingSet : Cond.code yX5_waitingSet cX5_waitingSet 3 (some .int) ∈ TW := tw (i := 574) (by decide +kernel) (by decide)
theorem ti_X5_waitingSet : Cond.instanceMethod yX5_waitingSet ∈ TW := tw (i := 572) (by decide +kernel) (by decide)
theorem te_X5_waitingSet : Cond.selects yX5_waitingSet.cls yX5_waitingSet yX5_waitingSet ∈ TW := tw (i := 573) (by decide +kernel) (by decide)
theorem tk_X5_sumOverCarts : Cond.code yX5_sumOverCarts cX5_sumOverCarts 4 (some .int) ∈ TW := tw (i := 583) (by decide +kernel) (by decide)
theorem ti_X5_sumOverCarts : Cond.instanceMethod yX5_sumOverCarts ∈ TW := tw (i := 581) (by decide +kernel) (by decide)
theorem te_X5_sumOverCarts : Cond.selects yX5_sumOverCarts.cls yX5_sumOverCarts yX5_sumOverCarts ∈ TW := tw (i := 582) (by decide +kernel) (by decide)
theorem tk_X5_sumOverBridges : Cond.code yX5_sumOverBridges cX5_sumOverBridges 4 (some .int) ∈ TW := tw (i := 578) (by decide +kernel) (by decide)
theorem ti_X5_sumOverBridges : Cond.instanceMethod yX5_sumOverBridges ∈ TW := tw (i := 577) (by decide +kernel) (by decide)
theorem te_X5_sumOverBridges : Cond.selects yX5_sumOverBridges.cls yX5_sumOverBridges yX5_sumOverBridges ∈ TW := tw (i := 7) (by decide +kernel) (by decide)
theorem tk_X5_stepsBetween : Cond.code yX5_stepsBetween cX5_stepsBetween 5 (some .int) ∈ TW := tw (i := 627) (by decide +kernel) (by decide)
theorem ti_X5_stepsBetween : Cond.instanceMethod yX5_stepsBetween ∈ TW := tw (i := 625) (by decide +kernel) (by decide)
theorem te_X5_stepsBetween : Cond.selects yX5_stepsBetween.cls yX5_stepsBetween yX5_stepsBetween ∈ TW := tw (i := 626) (by decide +kernel) (by decide)
theorem tk_X5_withNeighbours : Cond.code yX5_withNeighbours cX5_withNeighbours 5 (some .int) ∈ TW := tw (i := 631) (by decide +kernel) (by decide)
theorem ti_X5_withNeighbours : Cond.instanceMethod yX5_withNeighbours ∈ TW := tw (i := 630) (by decide +kernel) (by decide)
theorem te_X5_withNeighbours : Cond.selects yX5_withNeighbours.cls yX5_withNeighbours yX5_withNeighbours ∈ TW := tw (i := 8) (by decide +kernel) (by decide)
theorem tk_X5_firstBridge : Cond.code yX5_firstBridge cX5_firstBridge 6 (some .int) ∈ TW := tw (i := 639) (by decide +kernel) (by decide)
theorem ti_X5_firstBridge : Cond.instanceMethod yX5_firstBridge ∈ TW := tw (i := 637) (by decide +kernel) (by decide)
theorem te_X5_firstBridge : Cond.selects yX5_firstBridge.cls yX5_firstBridge yX5_firstBridge ∈ TW := tw (i := 638) (by decide +kernel) (by decide)
theorem tk_X6_init : Cond.code yX6_init cX6_init 1 none ∈ TW := tw (i := 76) (by decide +kernel) (by decide)
theorem ti_X6_init : Cond.instanceMethod yX6_init ∈ TW := tw (i := 75) (by decide +kernel) (by decide)
theorem tk_X6_set : Cond.code yX6_set cX6_set 3 (some .int) ∈ TW := tw (i := 317) (by decide +kernel) (by decide)
theorem ti_X6_set : Cond.instanceMethod yX6_set ∈ TW := tw (i := 315) (by decide +kernel) (by decide)
theorem te_X6_set : Cond.selects yX6_set.cls yX6_set yX6_set ∈ TW := tw (i := 316) (by decide +kernel) (by decide)
theorem tk_X6_bridge : Cond.code yX6_bridge cX6_bridge 4 (some .int) ∈ TW := tw (i := 360) (by decide +kernel) (by decide)
theorem ti_X6_bridge : Cond.instanceMethod yX6_bridge ∈ TW := tw (i := 358) (by decide +kernel) (by decide)
theorem te_X6_bridge : Cond.selects yX6_bridge.cls yX6_bridge yX6_bridge ∈ TW := tw (i := 359) (by decide +kernel) (by decide)
theorem tk_X6_cart : Cond.code yX6_cart cX6_cart 3 (some .int) ∈ TW := tw (i := 381) (by decide +kernel) (by decide)
theorem ti_X6_cart : Cond.instanceMethod yX6_cart ∈ TW := tw (i := 379) (by decide +kernel) (by decide)
theorem te_X6_cart : Cond.selects yX6_cart.cls yX6_cart yX6_cart ∈ TW := tw (i := 380) (by decide +kernel) (by decide)
theorem tk_X6_guess : Cond.code yX6_guess cX6_guess 4 (some .int) ∈ TW := tw (i := 389) (by decide +kernel) (by decide)
theorem ti_X6_guess : Cond.instanceMethod yX6_guess ∈ TW := tw (i := 387) (by decide +kernel) (by decide)
theorem te_X6_guess : Cond.selects yX6_guess.cls yX6_guess yX6_guess ∈ TW := tw (i := 388) (by decide +kernel) (by decide)
theorem tk_X6_leave : Cond.code yX6_leave cX6_leave 2 (some .int) ∈ TW := tw (i := 413) (by decide +kernel) (by decide)
theorem ti_X6_leave : Cond.instanceMethod yX6_leave ∈ TW := tw (i := 411) (by decide +kernel) (by decide)
theorem te_X6_leave : Cond.selects yX6_leave.cls yX6_leave yX6_leave ∈ TW := tw (i := 412) (by decide +kernel) (by decide)
theorem tk_X6_hint : Cond.code yX6_hint cX6_hint 3 (some .int) ∈ TW := tw (i := 425) (by decide +kernel) (by decide)
theorem ti_X6_hint : Cond.instanceMethod yX6_hint ∈ TW := tw (i := 423) (by decide +kernel) (by decide)
theorem te_X6_hint : Cond.selects yX6_hint.cls yX6_hint yX6_hint ∈ TW := tw (i := 424) (by decide +kernel) (by decide)
theorem tk_X6_pass : Cond.code yX6_pass cX6_pass 2 (some .int) ∈ TW := tw (i := 453) (by decide +kernel) (by decide)
theorem ti_X6_pass : Cond.instanceMethod yX6_pass ∈ TW := tw (i := 451) (by decide +kernel) (by decide)
theorem te_X6_pass : Cond.selects yX6_pass.cls yX6_pass yX6_pass ∈ TW := tw (i := 452) (by decide +kernel) (by decide)
theorem tk_X6_write : Cond.code yX6_write cX6_write 3 (some .int) ∈ TW := tw (i := 502) (by decide +kernel) (by decide)
theorem ti_X6_write : Cond.instanceMethod yX6_write ∈ TW := tw (i := 500) (by decide +kernel) (by decide)
theorem te_X6_write : Cond.selects yX6_write.cls yX6_write yX6_write ∈ TW := tw (i := 501) (by decide +kernel) (by decide)
theorem tk_X6_ofBridge : Cond.code yX6_ofBridge cX6_ofBridge 4 (some .int) ∈ TW := tw (i := 529) (by decide +kernel) (by decide)
theorem ti_X6_ofBridge : Cond.instanceMethod yX6_ofBridge ∈ TW := tw (i := 527) (by decide +kernel) (by decide)
theorem te_X6_ofBridge : Cond.selects yX6_ofBridge.cls yX6_ofBridge yX6_ofBridge ∈ TW := tw (i := 528) (by decide +kernel) (by decide)
theorem tk_X6_ofCart : Cond.code yX6_ofCart cX6_ofCart 4 (some .int) ∈ TW := tw (i := 538) (by decide +kernel) (by decide)
theorem ti_X6_ofCart : Cond.instanceMethod yX6_ofCart ∈ TW := tw (i := 536) (by decide +kernel) (by decide)
theorem te_X6_ofCart : Cond.selects yX6_ofCart.cls yX6_ofCart yX6_ofCart ∈ TW := tw (i := 537) (by decide +kernel) (by decide)
theorem tk_X6_knows : Cond.code yX6_knows cX6_knows 6 (some .int) ∈ TW := tw (i := 546) (by decide +kernel) (by decide)
theorem ti_X6_knows : Cond.instanceMethod yX6_knows ∈ TW := tw (i := 544) (by decide +kernel) (by decide)
theorem te_X6_knows : Cond.selects yX6_knows.cls yX6_knows yX6_knows ∈ TW := tw (i := 545) (by decide +kernel) (by decide)
theorem tk_X6_waits : Cond.code yX6_waits cX6_waits 4 (some .int) ∈ TW := tw (i := 550) (by decide +kernel) (by decide)
theorem ti_X6_waits : Cond.instanceMethod yX6_waits ∈ TW := tw (i := 548) (by decide +kernel) (by decide)
theorem te_X6_waits : Cond.selects yX6_waits.cls yX6_waits yX6_waits ∈ TW := tw (i := 549) (by decide +kernel) (by decide)
theorem tk_X6_sign : Cond.code yX6_sign cX6_sign 2 (some .int) ∈ TW := tw (i := 558) (by decide +kernel) (by decide)
theorem ti_X6_sign : Cond.instanceMethod yX6_sign ∈ TW := tw (i := 556) (by decide +kernel) (by decide)
theorem te_X6_sign : Cond.selects yX6_sign.cls yX6_sign yX6_sign ∈ TW := tw (i := 557) (by decide +kernel) (by decide)
theorem tk_X6_count : Cond.code yX6_count cX6_count 2 (some .int) ∈ TW := tw (i := 566) (by decide +kernel) (by decide)
theorem ti_X6_count : Cond.instanceMethod yX6_count ∈ TW := tw (i := 564) (by decide +kernel) (by decide)
theorem te_X6_count : Cond.selects yX6_count.cls yX6_count yX6_count ∈ TW := tw (i := 565) (by decide +kernel) (by decide)
theorem tk_X6_next : Cond.code yX6_next cX6_next 3 (some .int) ∈ TW := tw (i := 588) (by decide +kernel) (by decide)
theorem ti_X6_next : Cond.instanceMethod yX6_next ∈ TW := tw (i := 586) (by decide +kernel) (by decide)
theorem te_X6_next : Cond.selects yX6_next.cls yX6_next yX6_next ∈ TW := tw (i := 587) (by decide +kernel) (by decide)
theorem tk_X6_why : Cond.code yX6_why cX6_why 3 (some .int) ∈ TW := tw (i := 593) (by decide +kernel) (by decide)
theorem ti_X6_why : Cond.instanceMethod yX6_why ∈ TW := tw (i := 591) (by decide +kernel) (by decide)
theorem te_X6_why : Cond.selects yX6_why.cls yX6_why yX6_why ∈ TW := tw (i := 592) (by decide +kernel) (by decide)
theorem tk_X6_overIn : Cond.code yX6_overIn cX6_overIn 4 (some .int) ∈ TW := tw (i := 601) (by decide +kernel) (by decide)
theorem ti_X6_overIn : Cond.instanceMethod yX6_overIn ∈ TW := tw (i := 599) (by decide +kernel) (by decide)
theorem te_X6_overIn : Cond.selects yX6_overIn.cls yX6_overIn yX6_overIn ∈ TW := tw (i := 600) (by decide +kernel) (by decide)
theorem tk_X6_wins : Cond.code yX6_wins cX6_wins 7 (some .int) ∈ TW := tw (i := 608) (by decide +kernel) (by decide)
theorem ti_X6_wins : Cond.instanceMethod yX6_wins ∈ TW := tw (i := 606) (by decide +kernel) (by decide)
theorem te_X6_wins : Cond.selects yX6_wins.cls yX6_wins yX6_wins ∈ TW := tw (i := 607) (by decide +kernel) (by decide)
theorem tk_X6_bestGuess : Cond.code yX6_bestGuess cX6_bestGuess 11 (some .int) ∈ TW := tw (i := 619) (by decide +kernel) (by decide)
theorem ti_X6_bestGuess : Cond.instanceMethod yX6_bestGuess ∈ TW := tw (i := 617) (by decide +kernel) (by decide)
theorem te_X6_bestGuess : Cond.selects yX6_bestGuess.cls yX6_bestGuess yX6_bestGuess ∈ TW := tw (i := 618) (by decide +kernel) (by decide)
theorem tk_X6_route : Cond.code yX6_route cX6_route 5 (some .int) ∈ TW := tw (i := 623) (by decide +kernel) (by decide)
theorem ti_X6_route : Cond.instanceMethod yX6_route ∈ TW := tw (i := 621) (by decide +kernel) (by decide)
theorem te_X6_route : Cond.selects yX6_route.cls yX6_route yX6_route ∈ TW := tw (i := 622) (by decide +kernel) (by decide)
theorem tk_X6_would : Cond.code yX6_would cX6_would 5 (some .int) ∈ TW := tw (i := 644) (by decide +kernel) (by decide)
theorem ti_X6_would : Cond.instanceMethod yX6_would ∈ TW := tw (i := 642) (by decide +kernel) (by decide)
theorem te_X6_would : Cond.selects yX6_would.cls yX6_would yX6_would ∈ TW := tw (i := 643) (by decide +kernel) (by decide)
theorem tk_X6_put : Cond.code yX6_put cX6_put 5 (some .int) ∈ TW := tw (i := 650) (by decide +kernel) (by decide)
theorem ti_X6_put : Cond.instanceMethod yX6_put ∈ TW := tw (i := 648) (by decide +kernel) (by decide)
theorem te_X6_put : Cond.selects yX6_put.cls yX6_put yX6_put ∈ TW := tw (i := 649) (by decide +kernel) (by decide)
theorem tk_X6_wipe : Cond.code yX6_wipe cX6_wipe 2 (some .int) ∈ TW := tw (i := 657) (by decide +kernel) (by decide)
theorem ti_X6_wipe : Cond.instanceMethod yX6_wipe ∈ TW := tw (i := 655) (by decide +kernel) (by decide)
theorem te_X6_wipe : Cond.selects yX6_wipe.cls yX6_wipe yX6_wipe ∈ TW := tw (i := 656) (by decide +kernel) (by decide)
theorem tk_X6_fault : Cond.code yX6_fault cX6_fault 1 (some .int) ∈ TW := tw (i := 661) (by decide +kernel) (by decide)
theorem ti_X6_fault : Cond.instanceMethod yX6_fault ∈ TW := tw (i := 659) (by decide +kernel) (by decide)
theorem te_X6_fault : Cond.selects yX6_fault.cls yX6_fault yX6_fault ∈ TW := tw (i := 660) (by decide +kernel) (by decide)
theorem tk_X6_carryOut : Cond.code yX6_carryOut cX6_carryOut 2 (some .int) ∈ TW := tw (i := 709) (by decide +kernel) (by decide)
theorem ti_X6_carryOut : Cond.instanceMethod yX6_carryOut ∈ TW := tw (i := 707) (by decide +kernel) (by decide)
theorem te_X6_carryOut : Cond.selects yX6_carryOut.cls yX6_carryOut yX6_carryOut ∈ TW := tw (i := 708) (by decide +kernel) (by decide)
theorem tk_X6_undo : Cond.code yX6_undo cX6_undo 1 (some .int) ∈ TW := tw (i := 720) (by decide +kernel) (by decide)
theorem ti_X6_undo : Cond.instanceMethod yX6_undo ∈ TW := tw (i := 718) (by decide +kernel) (by decide)
theorem te_X6_undo : Cond.selects yX6_undo.cls yX6_undo yX6_undo ∈ TW := tw (i := 719) (by decide +kernel) (by decide)
theorem tk_X6_save : Cond.code yX6_save cX6_save 2 (some .int) ∈ TW := tw (i := 728) (by decide +kernel) (by decide)
theorem ti_X6_save : Cond.instanceMethod yX6_save ∈ TW := tw (i := 726) (by decide +kernel) (by decide)
theorem te_X6_save : Cond.selects yX6_save.cls yX6_save yX6_save ∈ TW := tw (i := 727) (by decide +kernel) (by decide)
theorem tk_X6_restore : Cond.code yX6_restore cX6_restore 2 (some .int) ∈ TW := tw (i := 732) (by decide +kernel) (by decide)
theorem ti_X6_restore : Cond.instanceMethod yX6_restore ∈ TW := tw (i := 730) (by decide +kernel) (by decide)
theorem te_X6_restore : Cond.selects yX6_restore.cls yX6_restore yX6_restore ∈ TW := tw (i := 731) (by decide +kernel) (by decide)
theorem tk_X6_isBelow : Cond.code yX6_isBelow cX6_isBelow 2 (some .boolean) ∈ TW := tw (i := 341) (by decide +kernel) (by decide)
theorem ts_X6_isBelow : Cond.static yX6_isBelow ∈ TW := tw (i := 340) (by decide +kernel) (by decide)
theorem tk_X6_numberOf : Cond.code yX6_numberOf cX6_numberOf 2 (some .int) ∈ TW := tw (i := 554) (by decide +kernel) (by decide)
theorem ts_X6_numberOf : Cond.static yX6_numberOf ∈ TW := tw (i := 553) (by decide +kernel) (by decide)
theorem tk_X6_recorded : Cond.code yX6_recorded cX6_recorded 2 (some .int) ∈ TW := tw (i := 349) (by decide +kernel) (by decide)
theorem ti_X6_recorded : Cond.instanceMethod yX6_recorded ∈ TW := tw (i := 348) (by decide +kernel) (by decide)
theorem te_X6_recorded : Cond.selects yX6_recorded.cls yX6_recorded yX6_recorded ∈ TW := tw (i := 0) (by decide +kernel) (by decide)
theorem tk_X6_signsIn : Cond.code yX6_signsIn cX6_signsIn 6 (some .int) ∈ TW := tw (i := 653) (by decide +kernel) (by decide)
theorem ts_X6_signsIn : Cond.static yX6_signsIn ∈ TW := tw (i := 652) (by decide +kernel) (by decide)
theorem tk_X6_appendNote : Cond.code yX6_appendNote cX6_appendNote 4 none ∈ TW := tw (i := 511) (by decide +kernel) (by decide)
theorem ti_X6_appendNote : Cond.instanceMethod yX6_appendNote ∈ TW := tw (i := 510) (by decide +kernel) (by decide)
theorem te_X6_appendNote : Cond.selects yX6_appendNote.cls yX6_appendNote yX6_appendNote ∈ TW := tw (i := 6) (by decide +kernel) (by decide)
theorem tk_X6_obey : Cond.code yX6_obey cX6_obey 1 (some .int) ∈ TW := tw (i := 715) (by decide +kernel) (by decide)
theorem ti_X6_obey : Cond.instanceMethod yX6_obey ∈ TW := tw (i := 714) (by decide +kernel) (by decide)
theorem te_X6_obey : Cond.selects yX6_obey.cls yX6_obey yX6_obey ∈ TW := tw (i := 15) (by decide +kernel) (by decide)
theorem tk_X7_init : Cond.code yX7_init cX7_init 1 none ∈ TW := tw (i := 737) (by decide +kernel) (by decide)
theorem ti_X7_init : Cond.instanceMethod yX7_init ∈ TW := tw (i := 736) (by decide +kernel) (by decide)
theorem tk_X7_in : Cond.code yX7_in cX7_in 6 (some .boolean) ∈ TW := tw (i := 783) (by decide +kernel) (by decide)
theorem ts_X7_in : Cond.static yX7_in ∈ TW := tw (i := 782) (by decide +kernel) (by decide)
theorem tk_X7_copies : Cond.code yX7_copies cX7_copies 4 none ∈ TW := tw (i := 792) (by decide +kernel) (by decide)
theorem ti_X7_copies : Cond.instanceMethod yX7_copies ∈ TW := tw (i := 791) (by decide +kernel) (by decide)
theorem te_X7_copies : Cond.selects yX7_copies.cls yX7_copies yX7_copies ∈ TW := tw (i := 17) (by decide +kernel) (by decide)
theorem tk_X7_changes : Cond.code yX7_changes cX7_changes 2 none ∈ TW := tw (i := 788) (by decide +kernel) (by decide)
theorem ti_X7_changes : Cond.instanceMethod yX7_changes ∈ TW := tw (i := 787) (by decide +kernel) (by decide)
theorem te_X7_changes : Cond.selects yX7_changes.cls yX7_changes yX7_changes ∈ TW := tw (i := 16) (by decide +kernel) (by decide)
theorem tk_X7_bridgeAt : Cond.code yX7_bridgeAt cX7_bridgeAt 2 (some .int) ∈ TW := tw (i := 813) (by decide +kernel) (by decide)
theorem ts_X7_bridgeAt : Cond.static yX7_bridgeAt ∈ TW := tw (i := 812) (by decide +kernel) (by decide)
theorem tk_X7_cartAt : Cond.code yX7_cartAt cX7_cartAt 2 (some .int) ∈ TW := tw (i := 837) (by decide +kernel) (by decide)
theorem ts_X7_cartAt : Cond.static yX7_cartAt ∈ TW := tw (i := 836) (by decide +kernel) (by decide)
theorem tk_X7_rangeAt : Cond.code yX7_rangeAt cX7_rangeAt 3 (some .int) ∈ TW := tw (i := 821) (by decide +kernel) (by decide)
theorem ts_X7_rangeAt : Cond.static yX7_rangeAt ∈ TW := tw (i := 820) (by decide +kernel) (by decide)
theorem tk_X7_isAt : Cond.code yX7_isAt cX7_isAt 4 (some .boolean) ∈ TW := tw (i := 861) (by decide +kernel) (by decide)
theorem ti_X7_isAt : Cond.instanceMethod yX7_isAt ∈ TW := tw (i := 860) (by decide +kernel) (by decide)
theorem te_X7_isAt : Cond.selects yX7_isAt.cls yX7_isAt yX7_isAt ∈ TW := tw (i := 27) (by decide +kernel) (by decide)
theorem tk_X7_draws : Cond.code yX7_draws cX7_draws 5 none ∈ TW := tw (i := 817) (by decide +kernel) (by decide)
theorem ti_X7_draws : Cond.instanceMethod yX7_draws ∈ TW := tw (i := 816) (by decide +kernel) (by decide)
theorem te_X7_draws : Cond.selects yX7_draws.cls yX7_draws yX7_draws ∈ TW := tw (i := 20) (by decide +kernel) (by decide)
theorem tk_X7_many : Cond.code yX7_many cX7_many 5 (some .int) ∈ TW := tw (i := 869) (by decide +kernel) (by decide)
theorem ti_X7_many : Cond.instanceMethod yX7_many ∈ TW := tw (i := 868) (by decide +kernel) (by decide)
theorem te_X7_many : Cond.selects yX7_many.cls yX7_many yX7_many ∈ TW := tw (i := 29) (by decide +kernel) (by decide)
theorem tk_X7_waiter : Cond.code yX7_waiter cX7_waiter 7 (some .int) ∈ TW := tw (i := 930) (by decide +kernel) (by decide)
theorem ti_X7_waiter : Cond.instanceMethod yX7_waiter ∈ TW := tw (i := 929) (by decide +kernel) (by decide)
theorem te_X7_waiter : Cond.selects yX7_waiter.cls yX7_waiter yX7_waiter ∈ TW := tw (i := 41) (by decide +kernel) (by decide)
theorem tk_X7_size : Cond.code yX7_size cX7_size 1 (some .int) ∈ TW := tw (i := 937) (by decide +kernel) (by decide)
theorem ts_X7_size : Cond.static yX7_size ∈ TW := tw (i := 936) (by decide +kernel) (by decide)
theorem tk_X7_far : Cond.code yX7_far cX7_far 4 (some .int) ∈ TW := tw (i := 934) (by decide +kernel) (by decide)
theorem ti_X7_far : Cond.instanceMethod yX7_far ∈ TW := tw (i := 933) (by decide +kernel) (by decide)
theorem te_X7_far : Cond.selects yX7_far.cls yX7_far yX7_far ∈ TW := tw (i := 42) (by decide +kernel) (by decide)
theorem tk_X7_areAsNear : Cond.code yX7_areAsNear cX7_areAsNear 3 (some .boolean) ∈ TW := tw (i := 926) (by decide +kernel) (by decide)
theorem ti_X7_areAsNear : Cond.instanceMethod yX7_areAsNear ∈ TW := tw (i := 925) (by decide +kernel) (by decide)
theorem te_X7_areAsNear : Cond.selects yX7_areAsNear.cls yX7_areAsNear yX7_areAsNear ∈ TW := tw (i := 40) (by decide +kernel) (by decide)
theorem tk_X7_comer : Cond.code yX7_comer cX7_comer 8 (some .int) ∈ TW := tw (i := 941) (by decide +kernel) (by decide)
theorem ti_X7_comer : Cond.instanceMethod yX7_comer ∈ TW := tw (i := 940) (by decide +kernel) (by decide)
theorem te_X7_comer : Cond.selects yX7_comer.cls yX7_comer yX7_comer ∈ TW := tw (i := 43) (by decide +kernel) (by decide)
theorem tk_X7_pays : Cond.code yX7_pays cX7_pays 5 none ∈ TW := tw (i := 901) (by decide +kernel) (by decide)
theorem ti_X7_pays : Cond.instanceMethod yX7_pays ∈ TW := tw (i := 900) (by decide +kernel) (by decide)
theorem te_X7_pays : Cond.selects yX7_pays.cls yX7_pays yX7_pays ∈ TW := tw (i := 35) (by decide +kernel) (by decide)
theorem tk_X7_stopsWaiting : Cond.code yX7_stopsWaiting cX7_stopsWaiting 6 none ∈ TW := tw (i := 885) (by decide +kernel) (by decide)
theorem ti_X7_stopsWaiting : Cond.instanceMethod yX7_stopsWaiting ∈ TW := tw (i := 884) (by decide +kernel) (by decide)
theorem te_X7_stopsWaiting : Cond.selects yX7_stopsWaiting.cls yX7_stopsWaiting yX7_stopsWaiting ∈ TW := tw (i := 32) (by decide +kernel) (by decide)
theorem tk_X7_opens : Cond.code yX7_opens cX7_opens 10 (some .boolean) ∈ TW := tw (i := 922) (by decide +kernel) (by decide)
theorem ti_X7_opens : Cond.instanceMethod yX7_opens ∈ TW := tw (i := 921) (by decide +kernel) (by decide)
theorem te_X7_opens : Cond.selects yX7_opens.cls yX7_opens yX7_opens ∈ TW := tw (i := 39) (by decide +kernel) (by decide)
theorem tk_X7_hour : Cond.code yX7_hour cX7_hour 4 (some .int) ∈ TW := tw (i := 918) (by decide +kernel) (by decide)
theorem ti_X7_hour : Cond.instanceMethod yX7_hour ∈ TW := tw (i := 917) (by decide +kernel) (by decide)
theorem te_X7_hour : Cond.selects yX7_hour.cls yX7_hour yX7_hour ∈ TW := tw (i := 38) (by decide +kernel) (by decide)
theorem tk_X7_hours : Cond.code yX7_hours cX7_hours 5 (some .int) ∈ TW := tw (i := 914) (by decide +kernel) (by decide)
theorem ti_X7_hours : Cond.instanceMethod yX7_hours ∈ TW := tw (i := 913) (by decide +kernel) (by decide)
theorem te_X7_hours : Cond.selects yX7_hours.cls yX7_hours yX7_hours ∈ TW := tw (i := 37) (by decide +kernel) (by decide)
theorem tk_X7_ofCarts : Cond.code yX7_ofCarts cX7_ofCarts 5 (some .int) ∈ TW := tw (i := 986) (by decide +kernel) (by decide)
theorem ti_X7_ofCarts : Cond.instanceMethod yX7_ofCarts ∈ TW := tw (i := 985) (by decide +kernel) (by decide)
theorem te_X7_ofCarts : Cond.selects yX7_ofCarts.cls yX7_ofCarts yX7_ofCarts ∈ TW := tw (i := 47) (by decide +kernel) (by decide)
theorem tk_X7_waitingSet : Cond.code yX7_waitingSet cX7_waitingSet 4 (some .int) ∈ TW := tw (i := 982) (by decide +kernel) (by decide)
theorem ti_X7_waitingSet : Cond.instanceMethod yX7_waitingSet ∈ TW := tw (i := 981) (by decide +kernel) (by decide)
theorem te_X7_waitingSet : Cond.selects yX7_waitingSet.cls yX7_waitingSet yX7_waitingSet ∈ TW := tw (i := 46) (by decide +kernel) (by decide)
theorem tk_X7_isTown : Cond.code yX7_isTown cX7_isTown 1 (some .boolean) ∈ TW := tw (i := 803) (by decide +kernel) (by decide)
theorem ts_X7_isTown : Cond.static yX7_isTown ∈ TW := tw (i := 802) (by decide +kernel) (by decide)
theorem tk_X7_isBridge : Cond.code yX7_isBridge cX7_isBridge 2 (some .boolean) ∈ TW := tw (i := 853) (by decide +kernel) (by decide)
theorem ti_X7_isBridge : Cond.instanceMethod yX7_isBridge ∈ TW := tw (i := 852) (by decide +kernel) (by decide)
theorem te_X7_isBridge : Cond.selects yX7_isBridge.cls yX7_isBridge yX7_isBridge ∈ TW := tw (i := 25) (by decide +kernel) (by decide)
theorem tk_X7_isCart : Cond.code yX7_isCart cX7_isCart 2 (some .boolean) ∈ TW := tw (i := 849) (by decide +kernel) (by decide)
theorem ti_X7_isCart : Cond.instanceMethod yX7_isCart ∈ TW := tw (i := 848) (by decide +kernel) (by decide)
theorem te_X7_isCart : Cond.selects yX7_isCart.cls yX7_isCart yX7_isCart ∈ TW := tw (i := 24) (by decide +kernel) (by decide)
theorem tk_X7_isNumber : Cond.code yX7_isNumber cX7_isNumber 3 (some .boolean) ∈ TW := tw (i := 857) (by decide +kernel) (by decide)
theorem ti_X7_isNumber : Cond.instanceMethod yX7_isNumber ∈ TW := tw (i := 856) (by decide +kernel) (by decide)
theorem te_X7_isNumber : Cond.selects yX7_isNumber.cls yX7_isNumber yX7_isNumber ∈ TW := tw (i := 26) (by decide +kernel) (by decide)
theorem tk_X7_bridgeError : Cond.code yX7_bridgeError cX7_bridgeError 4 (some .int) ∈ TW := tw (i := 800) (by decide +kernel) (by decide)
theorem ti_X7_bridgeError : Cond.instanceMethod yX7_bridgeError ∈ TW := tw (i := 799) (by decide +kernel) (by decide)
theorem te_X7_bridgeError : Cond.selects yX7_bridgeError.cls yX7_bridgeError yX7_bridgeError ∈ TW := tw (i := 18) (by decide +kernel) (by decide)
theorem tk_X7_cartError : Cond.code yX7_cartError cX7_cartError 3 (some .int) ∈ TW := tw (i := 829) (by decide +kernel) (by decide)
theorem ti_X7_cartError : Cond.instanceMethod yX7_cartError ∈ TW := tw (i := 828) (by decide +kernel) (by decide)
theorem te_X7_cartError : Cond.selects yX7_cartError.cls yX7_cartError yX7_cartError ∈ TW := tw (i := 21) (by decide +kernel) (by decide)
theorem tk_X7_guessError : Cond.code yX7_guessError cX7_guessError 4 (some .int) ∈ TW := tw (i := 845) (by decide +kernel) (by decide)
theorem ti_X7_guessError : Cond.instanceMethod yX7_guessError ∈ TW := tw (i := 844) (by decide +kernel) (by decide)
theorem te_X7_guessError : Cond.selects yX7_guessError.cls yX7_guessError yX7_guessError ∈ TW := tw (i := 23) (by decide +kernel) (by decide)
theorem tk_X7_leaveError : Cond.code yX7_leaveError cX7_leaveError 2 (some .int) ∈ TW := tw (i := 877) (by decide +kernel) (by decide)
theorem ti_X7_leaveError : Cond.instanceMethod yX7_leaveError ∈ TW := tw (i := 876) (by decide +kernel) (by decide)
theorem te_X7_leaveError : Cond.selects yX7_leaveError.cls yX7_leaveError yX7_leaveError ∈ TW := tw (i := 30) (by decide +kernel) (by decide)
theorem tk_X7_hintError : Cond.code yX7_hintError cX7_hintError 5 (some .int) ∈ TW := tw (i := 893) (by decide +kernel) (by decide)
theorem ti_X7_hintError : Cond.instanceMethod yX7_hintError ∈ TW := tw (i := 892) (by decide +kernel) (by decide)
theorem te_X7_hintError : Cond.selects yX7_hintError.cls yX7_hintError yX7_hintError ∈ TW := tw (i := 33) (by decide +kernel) (by decide)
theorem tk_X7_passError : Cond.code yX7_passError cX7_passError 2 (some .int) ∈ TW := tw (i := 909) (by decide +kernel) (by decide)
theorem ti_X7_passError : Cond.instanceMethod yX7_passError ∈ TW := tw (i := 908) (by decide +kernel) (by decide)
theorem te_X7_passError : Cond.selects yX7_passError.cls yX7_passError yX7_passError ∈ TW := tw (i := 36) (by decide +kernel) (by decide)
theorem tk_X7_builds : Cond.code yX7_builds cX7_builds 7 (some .int) ∈ TW := tw (i := 810) (by decide +kernel) (by decide)
theorem ti_X7_builds : Cond.instanceMethod yX7_builds ∈ TW := tw (i := 809) (by decide +kernel) (by decide)
theorem te_X7_builds : Cond.selects yX7_builds.cls yX7_builds yX7_builds ∈ TW := tw (i := 19) (by decide +kernel) (by decide)
theorem tk_X7_comes : Cond.code yX7_comes cX7_comes 6 (some .int) ∈ TW := tw (i := 834) (by decide +kernel) (by decide)
theorem ti_X7_comes : Cond.instanceMethod yX7_comes ∈ TW := tw (i := 833) (by decide +kernel) (by decide)
theorem te_X7_comes : Cond.selects yX7_comes.cls yX7_comes yX7_comes ∈ TW := tw (i := 22) (by decide +kernel) (by decide)
theorem tk_X7_guesses : Cond.code yX7_guesses cX7_guesses 5 (some .int) ∈ TW := tw (i := 865) (by decide +kernel) (by decide)
theorem ti_X7_guesses : Cond.instanceMethod yX7_guesses ∈ TW := tw (i := 864) (by decide +kernel) (by decide)
theorem te_X7_guesses : Cond.selects yX7_guesses.cls yX7_guesses yX7_guesses ∈ TW := tw (i := 28) (by decide +kernel) (by decide)
theorem tk_X7_leaves : Cond.code yX7_leaves cX7_leaves 3 (some .int) ∈ TW := tw (i := 881) (by decide +kernel) (by decide)
theorem ti_X7_leaves : Cond.instanceMethod yX7_leaves ∈ TW := tw (i := 880) (by decide +kernel) (by decide)
theorem te_X7_leaves : Cond.selects yX7_leaves.cls yX7_leaves yX7_leaves ∈ TW := tw (i := 31) (by decide +kernel) (by decide)
theorem tk_X7_hints : Cond.code yX7_hints cX7_hints 5 (some .int) ∈ TW := tw (i := 897) (by decide +kernel) (by decide)
theorem ti_X7_hints : Cond.instanceMethod yX7_hints ∈ TW := tw (i := 896) (by decide +kernel) (by decide)
theorem te_X7_hints : Cond.selects yX7_hints.cls yX7_hints yX7_hints ∈ TW := tw (i := 34) (by decide +kernel) (by decide)
theorem tk_X7_isValue : Cond.code yX7_isValue cX7_isValue 2 (some .boolean) ∈ TW := tw (i := 779) (by decide +kernel) (by decide)
theorem ts_X7_isValue : Cond.static yX7_isValue ∈ TW := tw (i := 778) (by decide +kernel) (by decide)
theorem tk_X7_set : Cond.code yX7_set cX7_set 4 (some .int) ∈ TW := tw (i := 776) (by decide +kernel) (by decide)
theorem ti_X7_set : Cond.instanceMethod yX7_set ∈ TW := tw (i := 774) (by decide +kernel) (by decide)
theorem te_X7_set : Cond.selects yX7_set.cls yX7_set yX7_set ∈ TW := tw (i := 775) (by decide +kernel) (by decide)
theorem tk_X7_bridge : Cond.code yX7_bridge cX7_bridge 5 (some .int) ∈ TW := tw (i := 796) (by decide +kernel) (by decide)
theorem ti_X7_bridge : Cond.instanceMethod yX7_bridge ∈ TW := tw (i := 794) (by decide +kernel) (by decide)
theorem te_X7_bridge : Cond.selects yX7_bridge.cls yX7_bridge yX7_bridge ∈ TW := tw (i := 795) (by decide +kernel) (by decide)
theorem tk_X7_cart : Cond.code yX7_cart cX7_cart 4 (some .int) ∈ TW := tw (i := 825) (by decide +kernel) (by decide)
theorem ti_X7_cart : Cond.instanceMethod yX7_cart ∈ TW := tw (i := 823) (by decide +kernel) (by decide)
theorem te_X7_cart : Cond.selects yX7_cart.cls yX7_cart yX7_cart ∈ TW := tw (i := 824) (by decide +kernel) (by decide)
theorem tk_X7_guess : Cond.code yX7_guess cX7_guess 5 (some .int) ∈ TW := tw (i := 841) (by decide +kernel) (by decide)
theorem ti_X7_guess : Cond.instanceMethod yX7_guess ∈ TW := tw (i := 839) (by decide +kernel) (by decide)
theorem te_X7_guess : Cond.selects yX7_guess.cls yX7_guess yX7_guess ∈ TW := tw (i := 840) (by decide +kernel) (by decide)
theorem tk_X7_leave : Cond.code yX7_leave cX7_leave 3 (some .int) ∈ TW := tw (i := 873) (by decide +kernel) (by decide)
theorem ti_X7_leave : Cond.instanceMethod yX7_leave ∈ TW := tw (i := 871) (by decide +kernel) (by decide)
theorem te_X7_leave : Cond.selects yX7_leave.cls yX7_leave yX7_leave ∈ TW := tw (i := 872) (by decide +kernel) (by decide)
theorem tk_X7_hint : Cond.code yX7_hint cX7_hint 4 (some .int) ∈ TW := tw (i := 889) (by decide +kernel) (by decide)
theorem ti_X7_hint : Cond.instanceMethod yX7_hint ∈ TW := tw (i := 887) (by decide +kernel) (by decide)
theorem te_X7_hint : Cond.selects yX7_hint.cls yX7_hint yX7_hint ∈ TW := tw (i := 888) (by decide +kernel) (by decide)
theorem tk_X7_pass : Cond.code yX7_pass cX7_pass 3 (some .int) ∈ TW := tw (i := 905) (by decide +kernel) (by decide)
theorem ti_X7_pass : Cond.instanceMethod yX7_pass ∈ TW := tw (i := 903) (by decide +kernel) (by decide)
theorem te_X7_pass : Cond.selects yX7_pass.cls yX7_pass yX7_pass ∈ TW := tw (i := 904) (by decide +kernel) (by decide)
theorem tk_X7_types : Cond.code yX7_types cX7_types 2 none ∈ TW := tw (i := 949) (by decide +kernel) (by decide)
theorem ti_X7_types : Cond.instanceMethod yX7_types ∈ TW := tw (i := 948) (by decide +kernel) (by decide)
theorem te_X7_types : Cond.selects yX7_types.cls yX7_types yX7_types ∈ TW := tw (i := 44) (by decide +kernel) (by decide)
theorem tk_X7_typesNumber : Cond.code yX7_typesNumber cX7_typesNumber 3 none ∈ TW := tw (i := 953) (by decide +kernel) (by decide)
theorem ti_X7_typesNumber : Cond.instanceMethod yX7_typesNumber ∈ TW := tw (i := 952) (by decide +kernel) (by decide)
theorem te_X7_typesNumber : Cond.selects yX7_typesNumber.cls yX7_typesNumber yX7_typesNumber ∈ TW := tw (i := 45) (by decide +kernel) (by decide)
theorem tk_X7_write : Cond.code yX7_write cX7_write 4 (some .int) ∈ TW := tw (i := 945) (by decide +kernel) (by decide)
theorem ti_X7_write : Cond.instanceMethod yX7_write ∈ TW := tw (i := 943) (by decide +kernel) (by decide)
theorem te_X7_write : Cond.selects yX7_write.cls yX7_write yX7_write ∈ TW := tw (i := 944) (by decide +kernel) (by decide)
theorem tk_X7_ofBridge : Cond.code yX7_ofBridge cX7_ofBridge 3 (some .int) ∈ TW := tw (i := 958) (by decide +kernel) (by decide)
theorem ti_X7_ofBridge : Cond.instanceMethod yX7_ofBridge ∈ TW := tw (i := 956) (by decide +kernel) (by decide)
theorem te_X7_ofBridge : Cond.selects yX7_ofBridge.cls yX7_ofBridge yX7_ofBridge ∈ TW := tw (i := 957) (by decide +kernel) (by decide)
theorem tk_X7_ofCart : Cond.code yX7_ofCart cX7_ofCart 3 (some .int) ∈ TW := tw (i := 962) (by decide +kernel) (by decide)
theorem ti_X7_ofCart : Cond.instanceMethod yX7_ofCart ∈ TW := tw (i := 960) (by decide +kernel) (by decide)
theorem te_X7_ofCart : Cond.selects yX7_ofCart.cls yX7_ofCart yX7_ofCart ∈ TW := tw (i := 961) (by decide +kernel) (by decide)
theorem tk_X7_knows : Cond.code yX7_knows cX7_knows 4 (some .int) ∈ TW := tw (i := 966) (by decide +kernel) (by decide)
theorem ti_X7_knows : Cond.instanceMethod yX7_knows ∈ TW := tw (i := 964) (by decide +kernel) (by decide)
theorem te_X7_knows : Cond.selects yX7_knows.cls yX7_knows yX7_knows ∈ TW := tw (i := 965) (by decide +kernel) (by decide)
theorem tk_X7_waits : Cond.code yX7_waits cX7_waits 3 (some .int) ∈ TW := tw (i := 970) (by decide +kernel) (by decide)
theorem ti_X7_waits : Cond.instanceMethod yX7_waits ∈ TW := tw (i := 968) (by decide +kernel) (by decide)
theorem te_X7_waits : Cond.selects yX7_waits.cls yX7_waits yX7_waits ∈ TW := tw (i := 969) (by decide +kernel) (by decide)
theorem tk_X7_sign : Cond.code yX7_sign cX7_sign 2 (some .int) ∈ TW := tw (i := 974) (by decide +kernel) (by decide)
theorem ti_X7_sign : Cond.instanceMethod yX7_sign ∈ TW := tw (i := 972) (by decide +kernel) (by decide)
theorem te_X7_sign : Cond.selects yX7_sign.cls yX7_sign yX7_sign ∈ TW := tw (i := 973) (by decide +kernel) (by decide)
theorem tk_X7_inTills : Cond.code yX7_inTills cX7_inTills 3 (some .int) ∈ TW := tw (i := 990) (by decide +kernel) (by decide)
theorem ti_X7_inTills : Cond.instanceMethod yX7_inTills ∈ TW := tw (i := 989) (by decide +kernel) (by decide)
theorem te_X7_inTills : Cond.selects yX7_inTills.cls yX7_inTills yX7_inTills ∈ TW := tw (i := 48) (by decide +kernel) (by decide)
theorem tk_X7_count : Cond.code yX7_count cX7_count 2 (some .int) ∈ TW := tw (i := 978) (by decide +kernel) (by decide)
theorem ti_X7_count : Cond.instanceMethod yX7_count ∈ TW := tw (i := 976) (by decide +kernel) (by decide)
theorem te_X7_count : Cond.selects yX7_count.cls yX7_count yX7_count ∈ TW := tw (i := 977) (by decide +kernel) (by decide)
theorem tk_X7_next : Cond.code yX7_next cX7_next 2 (some .int) ∈ TW := tw (i := 994) (by decide +kernel) (by decide)
theorem ti_X7_next : Cond.instanceMethod yX7_next ∈ TW := tw (i := 992) (by decide +kernel) (by decide)
theorem te_X7_next : Cond.selects yX7_next.cls yX7_next yX7_next ∈ TW := tw (i := 993) (by decide +kernel) (by decide)
theorem tk_X7_why : Cond.code yX7_why cX7_why 3 (some .int) ∈ TW := tw (i := 998) (by decide +kernel) (by decide)
theorem ti_X7_why : Cond.instanceMethod yX7_why ∈ TW := tw (i := 996) (by decide +kernel) (by decide)
theorem te_X7_why : Cond.selects yX7_why.cls yX7_why yX7_why ∈ TW := tw (i := 997) (by decide +kernel) (by decide)
theorem tk_X7_overIn : Cond.code yX7_overIn cX7_overIn 5 (some .int) ∈ TW := tw (i := 1002) (by decide +kernel) (by decide)
theorem ti_X7_overIn : Cond.instanceMethod yX7_overIn ∈ TW := tw (i := 1000) (by decide +kernel) (by decide)
theorem te_X7_overIn : Cond.selects yX7_overIn.cls yX7_overIn yX7_overIn ∈ TW := tw (i := 1001) (by decide +kernel) (by decide)
theorem tk_X7_nearer : Cond.code yX7_nearer cX7_nearer 6 (some .int) ∈ TW := tw (i := 1009) (by decide +kernel) (by decide)
theorem ts_X7_nearer : Cond.static yX7_nearer ∈ TW := tw (i := 1008) (by decide +kernel) (by decide)
theorem tk_X7_wins : Cond.code yX7_wins cX7_wins 6 (some .int) ∈ TW := tw (i := 1006) (by decide +kernel) (by decide)
theorem ti_X7_wins : Cond.instanceMethod yX7_wins ∈ TW := tw (i := 1004) (by decide +kernel) (by decide)
theorem te_X7_wins : Cond.selects yX7_wins.cls yX7_wins yX7_wins ∈ TW := tw (i := 1005) (by decide +kernel) (by decide)
theorem tk_X7_bestGuess : Cond.code yX7_bestGuess cX7_bestGuess 10 (some .int) ∈ TW := tw (i := 1013) (by decide +kernel) (by decide)
theorem ti_X7_bestGuess : Cond.instanceMethod yX7_bestGuess ∈ TW := tw (i := 1011) (by decide +kernel) (by decide)
theorem te_X7_bestGuess : Cond.selects yX7_bestGuess.cls yX7_bestGuess yX7_bestGuess ∈ TW := tw (i := 1012) (by decide +kernel) (by decide)
theorem tk_X7_measures : Cond.code yX7_measures cX7_measures 6 none ∈ TW := tw (i := 1021) (by decide +kernel) (by decide)
theorem ti_X7_measures : Cond.instanceMethod yX7_measures ∈ TW := tw (i := 1020) (by decide +kernel) (by decide)
theorem te_X7_measures : Cond.selects yX7_measures.cls yX7_measures yX7_measures ∈ TW := tw (i := 49) (by decide +kernel) (by decide)
theorem tk_X7_firstBridge : Cond.code yX7_firstBridge cX7_firstBridge 7 (some .int) ∈ TW := tw (i := 1025) (by decide +kernel) (by decide)
theorem ti_X7_firstBridge : Cond.instanceMethod yX7_firstBridge ∈ TW := tw (i := 1024) (by decide +kernel) (by decide)
theorem te_X7_firstBridge : Cond.selects yX7_firstBridge.cls yX7_firstBridge yX7_firstBridge ∈ TW := tw (i := 50) (by decide +kernel) (by decide)
theorem tk_X7_route : Cond.code yX7_route cX7_route 4 (some .int) ∈ TW := tw (i := 1017) (by decide +kernel) (by decide)
theorem ti_X7_route : Cond.instanceMethod yX7_route ∈ TW := tw (i := 1015) (by decide +kernel) (by decide)
theorem te_X7_route : Cond.selects yX7_route.cls yX7_route yX7_route ∈ TW := tw (i := 1016) (by decide +kernel) (by decide)
theorem tk_X7_would : Cond.code yX7_would cX7_would 5 (some .int) ∈ TW := tw (i := 1029) (by decide +kernel) (by decide)
theorem ti_X7_would : Cond.instanceMethod yX7_would ∈ TW := tw (i := 1027) (by decide +kernel) (by decide)
theorem te_X7_would : Cond.selects yX7_would.cls yX7_would yX7_would ∈ TW := tw (i := 1028) (by decide +kernel) (by decide)
theorem tk_X7_charactersOf : Cond.code yX7_charactersOf cX7_charactersOf 5 (some .int) ∈ TW := tw (i := 1037) (by decide +kernel) (by decide)
theorem ts_X7_charactersOf : Cond.static yX7_charactersOf ∈ TW := tw (i := 1036) (by decide +kernel) (by decide)
theorem tk_X7_put : Cond.code yX7_put cX7_put 5 (some .int) ∈ TW := tw (i := 1034) (by decide +kernel) (by decide)
theorem ti_X7_put : Cond.instanceMethod yX7_put ∈ TW := tw (i := 1032) (by decide +kernel) (by decide)
theorem te_X7_put : Cond.selects yX7_put.cls yX7_put yX7_put ∈ TW := tw (i := 1033) (by decide +kernel) (by decide)
theorem tk_X7_wipe : Cond.code yX7_wipe cX7_wipe 2 (some .int) ∈ TW := tw (i := 1044) (by decide +kernel) (by decide)
theorem ti_X7_wipe : Cond.instanceMethod yX7_wipe ∈ TW := tw (i := 1042) (by decide +kernel) (by decide)
theorem te_X7_wipe : Cond.selects yX7_wipe.cls yX7_wipe yX7_wipe ∈ TW := tw (i := 1043) (by decide +kernel) (by decide)
theorem tk_X7_isHere : Cond.code yX7_isHere cX7_isHere 3 (some .boolean) ∈ TW := tw (i := 1064) (by decide +kernel) (by decide)
theorem ti_X7_isHere : Cond.instanceMethod yX7_isHere ∈ TW := tw (i := 1063) (by decide +kernel) (by decide)
theorem te_X7_isHere : Cond.selects yX7_isHere.cls yX7_isHere yX7_isHere ∈ TW := tw (i := 54) (by decide +kernel) (by decide)
theorem tk_X7_takes : Cond.code yX7_takes cX7_takes 3 (some .boolean) ∈ TW := tw (i := 1077) (by decide +kernel) (by decide)
theorem ti_X7_takes : Cond.instanceMethod yX7_takes ∈ TW := tw (i := 1076) (by decide +kernel) (by decide)
theorem te_X7_takes : Cond.selects yX7_takes.cls yX7_takes yX7_takes ∈ TW := tw (i := 57) (by decide +kernel) (by decide)
theorem tk_X7_digit : Cond.code yX7_digit cX7_digit 2 (some .int) ∈ TW := tw (i := 1060) (by decide +kernel) (by decide)
theorem ti_X7_digit : Cond.instanceMethod yX7_digit ∈ TW := tw (i := 1059) (by decide +kernel) (by decide)
theorem te_X7_digit : Cond.selects yX7_digit.cls yX7_digit yX7_digit ∈ TW := tw (i := 53) (by decide +kernel) (by decide)
theorem tk_X7_number : Cond.code yX7_number cX7_number 2 (some .int) ∈ TW := tw (i := 1072) (by decide +kernel) (by decide)
theorem ti_X7_number : Cond.instanceMethod yX7_number ∈ TW := tw (i := 1071) (by decide +kernel) (by decide)
theorem te_X7_number : Cond.selects yX7_number.cls yX7_number yX7_number ∈ TW := tw (i := 56) (by decide +kernel) (by decide)
theorem tk_X7_readsOne : Cond.code yX7_readsOne cX7_readsOne 1 (some .boolean) ∈ TW := tw (i := 1056) (by decide +kernel) (by decide)
theorem ti_X7_readsOne : Cond.instanceMethod yX7_readsOne ∈ TW := tw (i := 1055) (by decide +kernel) (by decide)
theorem te_X7_readsOne : Cond.selects yX7_readsOne.cls yX7_readsOne yX7_readsOne ∈ TW := tw (i := 52) (by decide +kernel) (by decide)
theorem tk_X7_readsTwo : Cond.code yX7_readsTwo cX7_readsTwo 2 (some .boolean) ∈ TW := tw (i := 1068) (by decide +kernel) (by decide)
theorem ti_X7_readsTwo : Cond.instanceMethod yX7_readsTwo ∈ TW := tw (i := 1067) (by decide +kernel) (by decide)
theorem te_X7_readsTwo : Cond.selects yX7_readsTwo.cls yX7_readsTwo yX7_readsTwo ∈ TW := tw (i := 55) (by decide +kernel) (by decide)
theorem tk_X7_readsThree : Cond.code yX7_readsThree cX7_readsThree 1 (some .boolean) ∈ TW := tw (i := 1081) (by decide +kernel) (by decide)
theorem ti_X7_readsThree : Cond.instanceMethod yX7_readsThree ∈ TW := tw (i := 1080) (by decide +kernel) (by decide)
theorem te_X7_readsThree : Cond.selects yX7_readsThree.cls yX7_readsThree yX7_readsThree ∈ TW := tw (i := 58) (by decide +kernel) (by decide)
theorem tk_X7_readsOrder : Cond.code yX7_readsOrder cX7_readsOrder 1 (some .boolean) ∈ TW := tw (i := 1052) (by decide +kernel) (by decide)
theorem ti_X7_readsOrder : Cond.instanceMethod yX7_readsOrder ∈ TW := tw (i := 1051) (by decide +kernel) (by decide)
theorem te_X7_readsOrder : Cond.selects yX7_readsOrder.cls yX7_readsOrder yX7_readsOrder ∈ TW := tw (i := 51) (by decide +kernel) (by decide)
theorem tk_X7_fault : Cond.code yX7_fault cX7_fault 2 (some .int) ∈ TW := tw (i := 1048) (by decide +kernel) (by decide)
theorem ti_X7_fault : Cond.instanceMethod yX7_fault ∈ TW := tw (i := 1046) (by decide +kernel) (by decide)
theorem te_X7_fault : Cond.selects yX7_fault.cls yX7_fault yX7_fault ∈ TW := tw (i := 1047) (by decide +kernel) (by decide)
theorem tk_X7_orderError : Cond.code yX7_orderError cX7_orderError 1 (some .int) ∈ TW := tw (i := 1090) (by decide +kernel) (by decide)
theorem ti_X7_orderError : Cond.instanceMethod yX7_orderError ∈ TW := tw (i := 1089) (by decide +kernel) (by decide)
theorem te_X7_orderError : Cond.selects yX7_orderError.cls yX7_orderError yX7_orderError ∈ TW := tw (i := 59) (by decide +kernel) (by decide)
theorem tk_X7_does : Cond.code yX7_does cX7_does 1 (some .int) ∈ TW := tw (i := 1094) (by decide +kernel) (by decide)
theorem ti_X7_does : Cond.instanceMethod yX7_does ∈ TW := tw (i := 1093) (by decide +kernel) (by decide)
theorem te_X7_does : Cond.selects yX7_does.cls yX7_does yX7_does ∈ TW := tw (i := 60) (by decide +kernel) (by decide)
theorem tk_X7_carryOut : Cond.code yX7_carryOut cX7_carryOut 5 (some .int) ∈ TW := tw (i := 1085) (by decide +kernel) (by decide)
theorem ti_X7_carryOut : Cond.instanceMethod yX7_carryOut ∈ TW := tw (i := 1083) (by decide +kernel) (by decide)
theorem te_X7_carryOut : Cond.selects yX7_carryOut.cls yX7_carryOut yX7_carryOut ∈ TW := tw (i := 1084) (by decide +kernel) (by decide)
theorem tk_X7_undo : Cond.code yX7_undo cX7_undo 1 (some .int) ∈ TW := tw (i := 1098) (by decide +kernel) (by decide)
theorem ti_X7_undo : Cond.instanceMethod yX7_undo ∈ TW := tw (i := 1096) (by decide +kernel) (by decide)
theorem te_X7_undo : Cond.selects yX7_undo.cls yX7_undo yX7_undo ∈ TW := tw (i := 1097) (by decide +kernel) (by decide)
theorem tk_X7_isSlot : Cond.code yX7_isSlot cX7_isSlot 1 (some .boolean) ∈ TW := tw (i := 1105) (by decide +kernel) (by decide)
theorem ts_X7_isSlot : Cond.static yX7_isSlot ∈ TW := tw (i := 1104) (by decide +kernel) (by decide)
theorem tk_X7_save : Cond.code yX7_save cX7_save 2 (some .int) ∈ TW := tw (i := 1102) (by decide +kernel) (by decide)
theorem ti_X7_save : Cond.instanceMethod yX7_save ∈ TW := tw (i := 1100) (by decide +kernel) (by decide)
theorem te_X7_save : Cond.selects yX7_save.cls yX7_save yX7_save ∈ TW := tw (i := 1101) (by decide +kernel) (by decide)
theorem tk_X7_restore : Cond.code yX7_restore cX7_restore 2 (some .int) ∈ TW := tw (i := 1109) (by decide +kernel) (by decide)
theorem ti_X7_restore : Cond.instanceMethod yX7_restore ∈ TW := tw (i := 1107) (by decide +kernel) (by decide)
theorem te_X7_restore : Cond.selects yX7_restore.cls yX7_restore yX7_restore ∈ TW := tw (i := 1108) (by decide +kernel) (by decide)
theorem tn_0 : Cond.initialized RX0 ∈ TW := tw (i := 65) (by decide +kernel) (by decide)
theorem tn_1 : Cond.initialized RX1 ∈ TW := tw (i := 66) (by decide +kernel) (by decide)
theorem tn_2 : Cond.initialized RX2 ∈ TW := tw (i := 67) (by decide +kernel) (by decide)
theorem tn_3 : Cond.initialized RX3 ∈ TW := tw (i := 69) (by decide +kernel) (by decide)
theorem tn_4 : Cond.initialized RX4 ∈ TW := tw (i := 68) (by decide +kernel) (by decide)
theorem tn_5 : Cond.initialized RX5 ∈ TW := tw (i := 63) (by decide +kernel) (by decide)
theorem tn_6 : Cond.initialized RX6 ∈ TW := tw (i := 62) (by decide +kernel) (by decide)
theorem tn_7 : Cond.initialized RX7 ∈ TW := tw (i := 70) (by decide +kernel) (by decide)
theorem kX6_1 (X : Cx p s m args c cc nL RX6 E B) (hls : ls.size = nL) (hfr : 1 ≤ R.frames ∧ (rest.map fun v => v.category).sum + 12 ≤ R.locals) (hcs : cells ≤ R.cells ∧ slots ≤ R.slots) (hdg : decode cc pc = .ok (.invokespecial 1, 3))
    (kk : W p l e R s m args below meth c H locs cells slots Q (F0 m (pc + 3) ls rest)) : W p l e R s m args below meth c H locs cells slots Q (F0 m pc ls (.ref b :: rest)) :=
  robj X (tw (i := 77) (by decide +kernel) (by decide)) tw_obj_i tw_obj_c hls hfr hcs hdg kk
theorem kX6_9 (X : Cx p s m args c cc nL RX6 E B) (hJ : JL E B s n f H locs) (hC : Ct l yX5_init cX5_init 2 none fr lo mc ms E B (.ref b :: As) n f none n1 f1) (hn : As.length = 0) (hls : ls.size = nL) (hfr : fr + 1 ≤ R.frames ∧ 8 + (2 + 11) + lo ≤ R.locals) (hcs : cells + mc ≤ R.cells ∧ slots + ms ≤ R.slots) (hst : st = As.reverse ++ .ref b :: rest) (hW : (rest.map fun v => v.category).sum ≤ 8) (hdg : decode cc pc = .ok (.invokespecial 9, 3))
    (kk : ∀ (H1 : Heap) (locs1 : List Loc), JL E B s n1 f1 H1 locs1 → W p l e R s m args below meth c H1 locs1 (cells + mc) (slots + ms) Q (F0 m (pc + 3) ls (rest))) : W p l e R s m args below meth c H locs cells slots Q (F0 m pc ls st) :=
  rcallI X hJ hC rfl (tw (i := 82) (by decide +kernel) (by decide)) ti_X5_init tn_5 tk_X5_init ⟨by decide +kernel, by decide +kernel, by rw [hn]; decide +kernel⟩ hls hfr hcs hst hW hdg kk
theorem kX6_21 (X : Cx p s m args c cc nL RX6 E B) (hJ : JL E B s n f H locs) (hC : Ct l yX2_init cX2_init 2 none fr lo mc ms E B (.ref b :: As) n f none n1 f1) (hn : As.length = 0) (hls : ls.size = nL) (hfr : fr + 1 ≤ R.frames ∧ 8 + (2 + 11) + lo ≤ R.locals) (hcs : cells + mc ≤ R.cells ∧ slots + ms ≤ R.slots) (hst : st = As.reverse ++ .ref b :: rest) (hW : (rest.map fun v => v.category).sum ≤ 8) (hdg : decode cc pc = .ok (.invokespecial 21, 3))
    (kk : ∀ (H1 : Heap) (locs1 : List Loc), JL E B s n1 f1 H1 locs1 → W p l e R s m args below meth c H1 locs1 (cells + mc) (slots + ms) Q (F0 m (pc + 3) ls (rest))) : W p l e R s m args below meth c H locs cells slots Q (F0 m pc ls st) :=
  rcallI X hJ hC rfl (tw (i := 229) (by decide +kernel) (by decide)) ti_X2_init tn_2 tk_X2_init ⟨by decide +kernel, by decide +kernel, by rw [hn]; decide +kernel⟩ hls hfr hcs hst hW hdg kk
theorem kX6_36 (X : Cx p s m args c cc nL RX6 E B) (hJ : JL E B s n f H locs) (hC : Ct l yX4_init cX4_init 1 none fr lo mc ms E B (.ref b :: As) n f none n1 f1) (hn : As.length = 0) (hls : ls.size = nL) (hfr : fr + 1 ≤ R.frames ∧ 8 + (1 + 11) + lo ≤ R.locals) (hcs : cells + mc ≤ R.cells ∧ slots + ms ≤ R.slots) (hst : st = As.reverse ++ .ref b :: rest) (hW : (rest.map fun v => v.category).sum ≤ 8) (hdg : decode cc pc = .ok (.invokespecial 36, 3))
    (kk : ∀ (H1 : Heap) (locs1 : List Loc), JL E B s n1 f1 H1 locs1 → W p l e R s m args below meth c H1 locs1 (cells + mc) (slots + ms) Q (F0 m (pc + 3) ls (rest))) : W p l e R s m args below meth c H locs cells slots Q (F0 m pc ls st) :=
  rcallIN X hJ hC rfl X.2.2.2.2.2.2.1.2.2.2.1 ti_X4_init tn_4 tk_X4_init ⟨by decide +kernel, by decide +kernel, by rw [hn]; decide +kernel⟩ hls hfr hcs hst hW hdg kk
theorem kX6_43 (X : Cx p s m args c cc nL RX6 E B) (hJ : JL E B s n f H locs) (hC : Ct l yX3_init cX3_init 2 none fr lo mc ms E B (.ref b :: As) n f none n1 f1) (hn : As.length = 1) (hls : ls.size = nL) (hfr : fr + 1 ≤ R.frames ∧ 8 + (2 + 11) + lo ≤ R.locals) (hcs : cells + mc ≤ R.cells ∧ slots + ms ≤ R.slots) (hst : st = As.reverse ++ .ref b :: rest) (hW : (rest.map fun v => v.category).sum ≤ 8) (hdg : decode cc pc = .ok (.invokespecial 43, 3))
    (kk : ∀ (H1 : Heap) (locs1 : List Loc), JL E B s n1 f1 H1 locs1 → W p l e R s m args below meth c H1 locs1 (cells + mc) (slots + ms) Q (F0 m (pc + 3) ls (rest))) : W p l e R s m args below meth c H locs cells slots Q (F0 m pc ls st) :=
  rcallI X hJ hC rfl (tw (i := 265) (by decide +kernel) (by decide)) ti_X3_init tn_3 tk_X3_init ⟨by decide +kernel, by decide +kernel, by rw [hn]; decide +kernel⟩ hls hfr hcs hst hW hdg kk
theorem kX6_50 (X : Cx p s m args c cc nL RX6 E B) (hJ : JL E B s n f H locs) (hC : Ct l yX2_note cX2_note 2 none fr lo mc ms E B (.ref (B + o) :: As) n f none n1 f1) (hn : As.length = 1) {fs : List Value} (ho : o < n) (hf : f o = .inr (2, fs)) (hls : ls.size = nL) (hfr : fr + 1 ≤ R.frames ∧ 8 + (2 + 11) + lo ≤ R.locals) (hcs : cells + mc ≤ R.cells ∧ slots + ms ≤ R.slots) (hst : st = As.reverse ++ .ref (B + o) :: rest) (hW : (rest.map fun v => v.category).sum ≤ 8) (hdg : decode cc pc = .ok (.invokevirtual 50, 3))
    (kk : ∀ (H1 : Heap) (locs1 : List Loc), JL E B s n1 f1 H1 locs1 → W p l e R s m args below meth c H1 locs1 (cells + mc) (slots + ms) Q (F0 m (pc + 3) ls (rest))) : W p l e R s m args below meth c H locs cells slots Q (F0 m pc ls st) :=
  rcallV X hJ hC (tw (i := 318) (by decide +kernel) (by decide)) ti_X2_note te_X2_note tn_2 tk_X2_note ⟨by decide +kernel, by decide +kernel, by rw [hn]; decide +kernel⟩ rfl rfl ho hf hls hfr hcs hst hW hdg kk
theorem kX6_54 (X : Cx p s m args c cc nL RX6 E B) (hJ : JL E B s n f H locs) (hC : Ct l yX5_changeSetting cX5_changeSetting 4 (some .int) fr lo mc ms E B (.ref (B + o) :: As) n f (some rv) n1 f1) (hn : As.length = 2) {fs : List Value} (ho : o < n) (hf : f o = .inr (5, fs)) (hls : ls.size = nL) (hfr : fr + 1 ≤ R.frames ∧ 8 + (4 + 11) + lo ≤ R.locals) (hcs : cells + mc ≤ R.cells ∧ slots + ms ≤ R.slots) (hst : st = As.reverse ++ .ref (B + o) :: rest) (hW : (rest.map fun v => v.category).sum ≤ 8) (hdg : decode cc pc = .ok (.invokevirtual 54, 3))
    (kk : ∀ (H1 : Heap) (locs1 : List Loc), JL E B s n1 f1 H1 locs1 → W p l e R s m args below meth c H1 locs1 (cells + mc) (slots + ms) Q (F0 m (pc + 3) ls (rv :: rest))) : W p l e R s m args below meth c H locs cells slots Q (F0 m pc ls st) :=
  rcallV X hJ hC (tw (i := 335) (by decide +kernel) (by decide)) ti_X5_changeSetting te_X5_changeSetting tn_5 tk_X5_changeSetting ⟨by decide +kernel, by decide +kernel, by rw [hn]; decide +kernel⟩ rfl rfl ho hf hls hfr hcs hst hW hdg kk
theorem kX6_58 (X : Cx p s m args c cc nL RX6 E B) (hJ : JL E B s n f H locs) (hC : Ct l yX6_recorded cX6_recorded 2 (some .int) fr lo mc ms E B (.ref (B + o) :: As) n f (some rv) n1 f1) (hn : As.length = 1) {fs : List Value} (ho : o < n) (hf : f o = .inr (6, fs)) (hls : ls.size = nL) (hfr : fr + 1 ≤ R.frames ∧ 8 + (2 + 11) + lo ≤ R.locals) (hcs : cells + mc ≤ R.cells ∧ slots + ms ≤ R.slots) (hst : st = As.reverse ++ .ref (B + o) :: rest) (hW : (rest.map fun v => v.category).sum ≤ 8) (hdg : decode cc pc = .ok (.invokevirtual 58, 3))
    (kk : ∀ (H1 : Heap) (locs1 : List Loc), JL E B s n1 f1 H1 locs1 → W p l e R s m args below meth c H1 locs1 (cells + mc) (slots + ms) Q (F0 m (pc + 3) ls (rv :: rest))) : W p l e R s m args below meth c H locs cells slots Q (F0 m pc ls st) :=
  rcallV X hJ hC (tw (i := 346) (by decide +kernel) (by decide)) ti_X6_recorded te_X6_recorded tn_6 tk_X6_recorded ⟨by decide +kernel, by decide +kernel, by rw [hn]; decide +kernel⟩ rfl rfl ho hf hls hfr hcs hst hW hdg kk
theorem kX6_62 (X : Cx p s m args c cc nL RX6 E B) (hJ : JL E B s n f H locs) (hC : Ct l yX5_addBridge cX5_addBridge 5 (some .int) fr lo mc ms E B (.ref (B + o) :: As) n f (some rv) n1 f1) (hn : As.length = 3) {fs : List Value} (ho : o < n) (hf : f o = .inr (5, fs)) (hls : ls.size = nL) (hfr : fr + 1 ≤ R.frames ∧ 8 + (5 + 11) + lo ≤ R.locals) (hcs : cells + mc ≤ R.cells ∧ slots + ms ≤ R.slots) (hst : st = As.reverse ++ .ref (B + o) :: rest) (hW : (rest.map fun v => v.category).sum ≤ 8) (hdg : decode cc pc = .ok (.invokevirtual 62, 3))
    (kk : ∀ (H1 : Heap) (locs1 : List Loc), JL E B s n1 f1 H1 locs1 → W p l e R s m args below meth c H1 locs1 (cells + mc) (slots + ms) Q (F0 m (pc + 3) ls (rv :: rest))) : W p l e R s m args below meth c H locs cells slots Q (F0 m pc ls st) :=
  rcallV X hJ hC (tw (i := 361) (by decide +kernel) (by decide)) ti_X5_addBridge te_X5_addBridge tn_5 tk_X5_addBridge ⟨by decide +kernel, by decide +kernel, by rw [hn]; decide +kernel⟩ rfl rfl ho hf hls hfr hcs hst hW hdg kk
theorem kX6_66 (X : Cx p s m args c cc nL RX6 E B) (hJ : JL E B s n f H locs) (hC : Ct l yX5_addCart cX5_addCart 4 (some .int) fr lo mc ms E B (.ref (B + o) :: As) n f (some rv) n1 f1) (hn : As.length = 2) {fs : List Value} (ho : o < n) (hf : f o = .inr (5, fs)) (hls : ls.size = nL) (hfr : fr + 1 ≤ R.frames ∧ 8 + (4 + 11) + lo ≤ R.locals) (hcs : cells + mc ≤ R.cells ∧ slots + ms ≤ R.slots) (hst : st = As.reverse ++ .ref (B + o) :: rest) (hW : (rest.map fun v => v.category).sum ≤ 8) (hdg : decode cc pc = .ok (.invokevirtual 66, 3))
    (kk : ∀ (H1 : Heap) (locs1 : List Loc), JL E B s n1 f1 H1 locs1 → W p l e R s m args below meth c H1 locs1 (cells + mc) (slots + ms) Q (F0 m (pc + 3) ls (rv :: rest))) : W p l e R s m args below meth c H locs cells slots Q (F0 m pc ls st) :=
  rcallV X hJ hC (tw (i := 382) (by decide +kernel) (by decide)) ti_X5_addCart te_X5_addCart tn_5 tk_X5_addCart ⟨by decide +kernel, by decide +kernel, by rw [hn]; decide +kernel⟩ rfl rfl ho hf hls hfr hcs hst hW hdg kk
theorem kX6_69 (X : Cx p s m args c cc nL RX6 E B) (hJ : JL E B s n f H locs) (hC : Ct l yX5_comeToWait cX5_comeToWait 6 (some .int) fr lo mc ms E B (.ref (B + o) :: As) n f (some rv) n1 f1) (hn : As.length = 3) {fs : List Value} (ho : o < n) (hf : f o = .inr (5, fs)) (hls : ls.size = nL) (hfr : fr + 1 ≤ R.frames ∧ 8 + (6 + 11) + lo ≤ R.locals) (hcs : cells + mc ≤ R.cells ∧ slots + ms ≤ R.slots) (hst : st = As.reverse ++ .ref (B + o) :: rest) (hW : (rest.map fun v => v.category).sum ≤ 8) (hdg : decode cc pc = .ok (.invokevirtual 69, 3))
    (kk : ∀ (H1 : Heap) (locs1 : List Loc), JL E B s n1 f1 H1 locs1 → W p l e R s m args below meth c H1 locs1 (cells + mc) (slots + ms) Q (F0 m (pc + 3) ls (rv :: rest))) : W p l e R s m args below meth c H locs cells slots Q (F0 m pc ls st) :=
  rcallV X hJ hC (tw (i := 390) (by decide +kernel) (by decide)) ti_X5_comeToWait te_X5_comeToWait tn_5 tk_X5_comeToWait ⟨by decide +kernel, by decide +kernel, by rw [hn]; decide +kernel⟩ rfl rfl ho hf hls hfr hcs hst hW hdg kk
theorem kX6_72 (X : Cx p s m args c cc nL RX6 E B) (hJ : JL E B s n f H locs) (hC : Ct l yX5_stopWaiting cX5_stopWaiting 4 (some .int) fr lo mc ms E B (.ref (B + o) :: As) n f (some rv) n1 f1) (hn : As.length = 1) {fs : List Value} (ho : o < n) (hf : f o = .inr (5, fs)) (hls : ls.size = nL) (hfr : fr + 1 ≤ R.frames ∧ 8 + (4 + 11) + lo ≤ R.locals) (hcs : cells + mc ≤ R.cells ∧ slots + ms ≤ R.slots) (hst : st = As.reverse ++ .ref (B + o) :: rest) (hW : (rest.map fun v => v.category).sum ≤ 8) (hdg : decode cc pc = .ok (.invokevirtual 72, 3))
    (kk : ∀ (H1 : Heap) (locs1 : List Loc), JL E B s n1 f1 H1 locs1 → W p l e R s m args below meth c H1 locs1 (cells + mc) (slots + ms) Q (F0 m (pc + 3) ls (rv :: rest))) : W p l e R s m args below meth c H locs cells slots Q (F0 m pc ls st) :=
  rcallV X hJ hC (tw (i := 414) (by decide +kernel) (by decide)) ti_X5_stopWaiting te_X5_stopWaiting tn_5 tk_X5_stopWaiting ⟨by decide +kernel, by decide +kernel, by rw [hn]; decide +kernel⟩ rfl rfl ho hf hls hfr hcs hst hW hdg kk
theorem kX6_75 (X : Cx p s m args c cc nL RX6 E B) (hJ : JL E B s n f H locs) (hC : Ct l yX5_buyHint cX5_buyHint 6 (some .int) fr lo mc ms E B (.ref (B + o) :: As) n f (some rv) n1 f1) (hn : As.length = 2) {fs : List Value} (ho : o < n) (hf : f o = .inr (5, fs)) (hls : ls.size = nL) (hfr : fr + 1 ≤ R.frames ∧ 8 + (6 + 11) + lo ≤ R.locals) (hcs : cells + mc ≤ R.cells ∧ slots + ms ≤ R.slots) (hst : st = As.reverse ++ .ref (B + o) :: rest) (hW : (rest.map fun v => v.category).sum ≤ 8) (hdg : decode cc pc = .ok (.invokevirtual 75, 3))
    (kk : ∀ (H1 : Heap) (locs1 : List Loc), JL E B s n1 f1 H1 locs1 → W p l e R s m args below meth c H1 locs1 (cells + mc) (slots + ms) Q (F0 m (pc + 3) ls (rv :: rest))) : W p l e R s m args below meth c H locs cells slots Q (F0 m pc ls st) :=
  rcallV X hJ hC (tw (i := 426) (by decide +kernel) (by decide)) ti_X5_buyHint te_X5_buyHint tn_5 tk_X5_buyHint ⟨by decide +kernel, by decide +kernel, by rw [hn]; decide +kernel⟩ rfl rfl ho hf hls hfr hcs hst hW hdg kk
theorem kX6_78 (X : Cx p s m args c cc nL RX6 E B) (hJ : JL E B s n f H locs) (hC : Ct l yX5_passHours cX5_passHours 4 (some .int) fr lo mc ms E B (.ref (B + o) :: As) n f (some rv) n1 f1) (hn : As.length = 1) {fs : List Value} (ho : o < n) (hf : f o = .inr (5, fs)) (hls : ls.size = nL) (hfr : fr + 1 ≤ R.frames ∧ 8 + (4 + 11) + lo ≤ R.locals) (hcs : cells + mc ≤ R.cells ∧ slots + ms ≤ R.slots) (hst : st = As.reverse ++ .ref (B + o) :: rest) (hW : (rest.map fun v => v.category).sum ≤ 8) (hdg : decode cc pc = .ok (.invokevirtual 78, 3))
    (kk : ∀ (H1 : Heap) (locs1 : List Loc), JL E B s n1 f1 H1 locs1 → W p l e R s m args below meth c H1 locs1 (cells + mc) (slots + ms) Q (F0 m (pc + 3) ls (rv :: rest))) : W p l e R s m args below meth c H locs cells slots Q (F0 m pc ls st) :=
  rcallV X hJ hC (tw (i := 454) (by decide +kernel) (by decide)) ti_X5_passHours te_X5_passHours tn_5 tk_X5_passHours ⟨by decide +kernel, by decide +kernel, by rw [hn]; decide +kernel⟩ rfl rfl ho hf hls hfr hcs hst hW hdg kk
theorem kX6_81 (X : Cx p s m args c cc nL RX6 E B) (hJ : JL E B s n f H locs) (hC : Ct l yX5_cartOf cX5_cartOf 2 (some (.object "BridgeWardens$Cart")) fr lo mc ms E B (.ref (B + o) :: As) n f (some rv) n1 f1) (hn : As.length = 1) {fs : List Value} (ho : o < n) (hf : f o = .inr (5, fs)) (hls : ls.size = nL) (hfr : fr + 1 ≤ R.frames ∧ 8 + (2 + 11) + lo ≤ R.locals) (hcs : cells + mc ≤ R.cells ∧ slots + ms ≤ R.slots) (hst : st = As.reverse ++ .ref (B + o) :: rest) (hW : (rest.map fun v => v.category).sum ≤ 8) (hdg : decode cc pc = .ok (.invokevirtual 81, 3))
    (kk : ∀ (H1 : Heap) (locs1 : List Loc), JL E B s n1 f1 H1 locs1 → W p l e R s m args below meth c H1 locs1 (cells + mc) (slots + ms) Q (F0 m (pc + 3) ls (rv :: rest))) : W p l e R s m args below meth c H locs cells slots Q (F0 m pc ls st) :=
  rcallV X hJ hC (tw (i := 503) (by decide +kernel) (by decide)) ti_X5_cartOf te_X5_cartOf tn_5 tk_X5_cartOf ⟨by decide +kernel, by decide +kernel, by rw [hn]; decide +kernel⟩ rfl rfl ho hf hls hfr hcs hst hW hdg kk
theorem kX6_85 (X : Cx p s m args c cc nL RX6 E B) (hJ : JL E B s n f H locs) (hC : Ct l yX4_clear cX4_clear 1 none fr lo mc ms E B (.ref (B + o) :: As) n f none n1 f1) (hn : As.length = 0) {fs : List Value} (ho : o < n) (hf : f o = .inr (4, fs)) (hls : ls.size = nL) (hfr : fr + 1 ≤ R.frames ∧ 8 + (1 + 11) + lo ≤ R.locals) (hcs : cells + mc ≤ R.cells ∧ slots + ms ≤ R.slots) (hst : st = As.reverse ++ .ref (B + o) :: rest) (hW : (rest.map fun v => v.category).sum ≤ 8) (hdg : decode cc pc = .ok (.invokevirtual 85, 3))
    (kk : ∀ (H1 : Heap) (locs1 : List Loc), JL E B s n1 f1 H1 locs1 → W p l e R s m args below meth c H1 locs1 (cells + mc) (slots + ms) Q (F0 m (pc + 3) ls (rest))) : W p l e R s m args below meth c H locs cells slots Q (F0 m pc ls st) :=
  rcallV X hJ hC (tw (i := 504) (by decide +kernel) (by decide)) ti_X4_clear te_X4_clear tn_4 tk_X4_clear ⟨by decide +kernel, by decide +kernel, by rw [hn]; decide +kernel⟩ rfl rfl ho hf hls hfr hcs hst hW hdg kk
theorem kX6_88 (X : Cx p s m args c cc nL RX6 E B) (hJ : JL E B s n f H locs) (hC : Ct l yX6_appendNote cX6_appendNote 4 none fr lo mc ms E B (.ref (B + o) :: As) n f none n1 f1) (hn : As.length = 1) {fs : List Value} (ho : o < n) (hf : f o = .inr (6, fs)) (hls : ls.size = nL) (hfr : fr + 1 ≤ R.frames ∧ 8 + (4 + 11) + lo ≤ R.locals) (hcs : cells + mc ≤ R.cells ∧ slots + ms ≤ R.slots) (hst : st = As.reverse ++ .ref (B + o) :: rest) (hW : (rest.map fun v => v.category).sum ≤ 8) (hdg : decode cc pc = .ok (.invokevirtual 88, 3))
    (kk : ∀ (H1 : Heap) (locs1 : List Loc), JL E B s n1 f1 H1 locs1 → W p l e R s m args below meth c H1 locs1 (cells + mc) (slots + ms) Q (F0 m (pc + 3) ls (rest))) : W p l e R s m args below meth c H locs cells slots Q (F0 m pc ls st) :=
  rcallV X hJ hC (tw (i := 508) (by decide +kernel) (by decide)) ti_X6_appendNote te_X6_appendNote tn_6 tk_X6_appendNote ⟨by decide +kernel, by decide +kernel, by rw [hn]; decide +kernel⟩ rfl rfl ho hf hls hfr hcs hst hW hdg kk
theorem kX6_96 (X : Cx p s m args c cc nL RX6 E B) (hJ : JL E B s n f H locs) (hC : Ct l yX5_bridgeOf cX5_bridgeOf 2 (some (.object "BridgeWardens$Bridge")) fr lo mc ms E B (.ref (B + o) :: As) n f (some rv) n1 f1) (hn : As.length = 1) {fs : List Value} (ho : o < n) (hf : f o = .inr (5, fs)) (hls : ls.size = nL) (hfr : fr + 1 ≤ R.frames ∧ 8 + (2 + 11) + lo ≤ R.locals) (hcs : cells + mc ≤ R.cells ∧ slots + ms ≤ R.slots) (hst : st = As.reverse ++ .ref (B + o) :: rest) (hW : (rest.map fun v => v.category).sum ≤ 8) (hdg : decode cc pc = .ok (.invokevirtual 96, 3))
    (kk : ∀ (H1 : Heap) (locs1 : List Loc), JL E B s n1 f1 H1 locs1 → W p l e R s m args below meth c H1 locs1 (cells + mc) (slots + ms) Q (F0 m (pc + 3) ls (rv :: rest))) : W p l e R s m args below meth c H locs cells slots Q (F0 m pc ls st) :=
  rcallV X hJ hC (tw (i := 522) (by decide +kernel) (by decide)) ti_X5_bridgeOf te_X5_bridgeOf tn_5 tk_X5_bridgeOf ⟨by decide +kernel, by decide +kernel, by rw [hn]; decide +kernel⟩ rfl rfl ho hf hls hfr hcs hst hW hdg kk
theorem kX6_100 (X : Cx p s m args c cc nL RX6 E B) (hJ : JL E B s n f H locs) (hC : Ct l yX6_isBelow cX6_isBelow 2 (some .boolean) fr lo mc ms E B As n f (some rv) n1 f1) (hn : As.length = 2) (hls : ls.size = nL) (hfr : fr + 1 ≤ R.frames ∧ 8 + (2 + 11) + lo ≤ R.locals) (hcs : cells + mc ≤ R.cells ∧ slots + ms ≤ R.slots) (hst : st = As.reverse ++ rest) (hW : (rest.map fun v => v.category).sum ≤ 8) (hdg : decode cc pc = .ok (.invokestatic 100, 3))
    (kk : ∀ (H1 : Heap) (locs1 : List Loc), JL E B s n1 f1 H1 locs1 → W p l e R s m args below meth c H1 locs1 (cells + mc) (slots + ms) Q (F0 m (pc + 3) ls (rv :: rest))) : W p l e R s m args below meth c H locs cells slots Q (F0 m pc ls st) :=
  rcallS X hJ hC rfl (tw (i := 530) (by decide +kernel) (by decide)) ts_X6_isBelow tn_6 tk_X6_isBelow ⟨by decide +kernel, by decide +kernel, by rw [hn]; decide +kernel⟩ hls hfr hcs hst hW hdg kk
theorem kX6_104 (X : Cx p s m args c cc nL RX6 E B) (hJ : JL E B s n f H locs) (hC : Ct l yX0_part cX0_part 2 (some .int) fr lo mc ms E B (.ref (B + o) :: As) n f (some rv) n1 f1) (hn : As.length = 1) {fs : List Value} (ho : o < n) (hf : f o = .inr (0, fs)) (hls : ls.size = nL) (hfr : fr + 1 ≤ R.frames ∧ 8 + (2 + 11) + lo ≤ R.locals) (hcs : cells + mc ≤ R.cells ∧ slots + ms ≤ R.slots) (hst : st = As.reverse ++ .ref (B + o) :: rest) (hW : (rest.map fun v => v.category).sum ≤ 8) (hdg : decode cc pc = .ok (.invokevirtual 104, 3))
    (kk : ∀ (H1 : Heap) (locs1 : List Loc), JL E B s n1 f1 H1 locs1 → W p l e R s m args below meth c H1 locs1 (cells + mc) (slots + ms) Q (F0 m (pc + 3) ls (rv :: rest))) : W p l e R s m args below meth c H locs cells slots Q (F0 m pc ls st) :=
  rcallV X hJ hC (tw (i := 531) (by decide +kernel) (by decide)) ti_X0_part te_X0_part tn_0 tk_X0_part ⟨by decide +kernel, by decide +kernel, by rw [hn]; decide +kernel⟩ rfl rfl ho hf hls hfr hcs hst hW hdg kk
theorem kX6_109 (X : Cx p s m args c cc nL RX6 E B) (hJ : JL E B s n f H locs) (hC : Ct l yX1_part cX1_part 2 (some .int) fr lo mc ms E B (.ref (B + o) :: As) n f (some rv) n1 f1) (hn : As.length = 1) {fs : List Value} (ho : o < n) (hf : f o = .inr (1, fs)) (hls : ls.size = nL) (hfr : fr + 1 ≤ R.frames ∧ 8 + (2 + 11) + lo ≤ R.locals) (hcs : cells + mc ≤ R.cells ∧ slots + ms ≤ R.slots) (hst : st = As.reverse ++ .ref (B + o) :: rest) (hW : (rest.map fun v => v.category).sum ≤ 8) (hdg : decode cc pc = .ok (.invokevirtual 109, 3))
    (kk : ∀ (H1 : Heap) (locs1 : List Loc), JL E B s n1 f1 H1 locs1 → W p l e R s m args below meth c H1 locs1 (cells + mc) (slots + ms) Q (F0 m (pc + 3) ls (rv :: rest))) : W p l e R s m args below meth c H locs cells slots Q (F0 m pc ls st) :=
  rcallV X hJ hC (tw (i := 539) (by decide +kernel) (by decide)) ti_X1_part te_X1_part tn_1 tk_X1_part ⟨by decide +kernel, by decide +kernel, by rw [hn]; decide +kernel⟩ rfl rfl ho hf hls hfr hcs hst hW hdg kk
theorem kX6_112 (X : Cx p s m args c cc nL RX6 E B) (hJ : JL E B s n f H locs) (hC : Ct l yX1_lowest cX1_lowest 2 (some .int) fr lo mc ms E B (.ref (B + o) :: As) n f (some rv) n1 f1) (hn : As.length = 1) {fs : List Value} (ho : o < n) (hf : f o = .inr (1, fs)) (hls : ls.size = nL) (hfr : fr + 1 ≤ R.frames ∧ 8 + (2 + 11) + lo ≤ R.locals) (hcs : cells + mc ≤ R.cells ∧ slots + ms ≤ R.slots) (hst : st = As.reverse ++ .ref (B + o) :: rest) (hW : (rest.map fun v => v.category).sum ≤ 8) (hdg : decode cc pc = .ok (.invokevirtual 112, 3))
    (kk : ∀ (H1 : Heap) (locs1 : List Loc), JL E B s n1 f1 H1 locs1 → W p l e R s m args below meth c H1 locs1 (cells + mc) (slots + ms) Q (F0 m (pc + 3) ls (rv :: rest))) : W p l e R s m args below meth c H locs cells slots Q (F0 m pc ls st) :=
  rcallV X hJ hC (tw (i := 524) (by decide +kernel) (by decide)) ti_X1_lowest te_X1_lowest tn_1 tk_X1_lowest ⟨by decide +kernel, by decide +kernel, by rw [hn]; decide +kernel⟩ rfl rfl ho hf hls hfr hcs hst hW hdg kk
theorem kX6_116 (X : Cx p s m args c cc nL RX6 E B) (hJ : JL E B s n f H locs) (hC : Ct l yX1_highest cX1_highest 2 (some .int) fr lo mc ms E B (.ref (B + o) :: As) n f (some rv) n1 f1) (hn : As.length = 1) {fs : List Value} (ho : o < n) (hf : f o = .inr (1, fs)) (hls : ls.size = nL) (hfr : fr + 1 ≤ R.frames ∧ 8 + (2 + 11) + lo ≤ R.locals) (hcs : cells + mc ≤ R.cells ∧ slots + ms ≤ R.slots) (hst : st = As.reverse ++ .ref (B + o) :: rest) (hW : (rest.map fun v => v.category).sum ≤ 8) (hdg : decode cc pc = .ok (.invokevirtual 116, 3))
    (kk : ∀ (H1 : Heap) (locs1 : List Loc), JL E B s n1 f1 H1 locs1 → W p l e R s m args below meth c H1 locs1 (cells + mc) (slots + ms) Q (F0 m (pc + 3) ls (rv :: rest))) : W p l e R s m args below meth c H locs cells slots Q (F0 m pc ls st) :=
  rcallV X hJ hC (tw (i := 525) (by decide +kernel) (by decide)) ti_X1_highest te_X1_highest tn_1 tk_X1_highest ⟨by decide +kernel, by decide +kernel, by rw [hn]; decide +kernel⟩ rfl rfl ho hf hls hfr hcs hst hW hdg kk
theorem kX6_122 (X : Cx p s m args c cc nL RX6 E B) (hJ : JL E B s n f H locs) (hC : Ct l yX5_waiterAt cX5_waiterAt 6 (some (.object "BridgeWardens$Cart")) fr lo mc ms E B (.ref (B + o) :: As) n f (some rv) n1 f1) (hn : As.length = 2) {fs : List Value} (ho : o < n) (hf : f o = .inr (5, fs)) (hls : ls.size = nL) (hfr : fr + 1 ≤ R.frames ∧ 8 + (6 + 11) + lo ≤ R.locals) (hcs : cells + mc ≤ R.cells ∧ slots + ms ≤ R.slots) (hst : st = As.reverse ++ .ref (B + o) :: rest) (hW : (rest.map fun v => v.category).sum ≤ 8) (hdg : decode cc pc = .ok (.invokevirtual 122, 3))
    (kk : ∀ (H1 : Heap) (locs1 : List Loc), JL E B s n1 f1 H1 locs1 → W p l e R s m args below meth c H1 locs1 (cells + mc) (slots + ms) Q (F0 m (pc + 3) ls (rv :: rest))) : W p l e R s m args below meth c H locs cells slots Q (F0 m pc ls st) :=
  rcallV X hJ hC (tw (i := 551) (by decide +kernel) (by decide)) ti_X5_waiterAt te_X5_waiterAt tn_5 tk_X5_waiterAt ⟨by decide +kernel, by decide +kernel, by rw [hn]; decide +kernel⟩ rfl rfl ho hf hls hfr hcs hst hW hdg kk
theorem kX6_126 (X : Cx p s m args c cc nL RX6 E B) (hJ : JL E B s n f H locs) (hC : Ct l yX6_numberOf cX6_numberOf 2 (some .int) fr lo mc ms E B As n f (some rv) n1 f1) (hn : As.length = 2) (hls : ls.size = nL) (hfr : fr + 1 ≤ R.frames ∧ 8 + (2 + 11) + lo ≤ R.locals) (hcs : cells + mc ≤ R.cells ∧ slots + ms ≤ R.slots) (hst : st = As.reverse ++ rest) (hW : (rest.map fun v => v.category).sum ≤ 8) (hdg : decode cc pc = .ok (.invokestatic 126, 3))
    (kk : ∀ (H1 : Heap) (locs1 : List Loc), JL E B s n1 f1 H1 locs1 → W p l e R s m args below meth c H1 locs1 (cells + mc) (slots + ms) Q (F0 m (pc + 3) ls (rv :: rest))) : W p l e R s m args below meth c H locs cells slots Q (F0 m pc ls st) :=
  rcallS X hJ hC rfl (tw (i := 552) (by decide +kernel) (by decide)) ts_X6_numberOf tn_6 tk_X6_numberOf ⟨by decide +kernel, by decide +kernel, by rw [hn]; decide +kernel⟩ hls hfr hcs hst hW hdg kk
theorem kX6_130 (X : Cx p s m args c cc nL RX6 E B) (hJ : JL E B s n f H locs) (hC : Ct l yX4_codeAt cX4_codeAt 2 (some .int) fr lo mc ms E B (.ref (B + o) :: As) n f (some rv) n1 f1) (hn : As.length = 1) {fs : List Value} (ho : o < n) (hf : f o = .inr (4, fs)) (hls : ls.size = nL) (hfr : fr + 1 ≤ R.frames ∧ 8 + (2 + 11) + lo ≤ R.locals) (hcs : cells + mc ≤ R.cells ∧ slots + ms ≤ R.slots) (hst : st = As.reverse ++ .ref (B + o) :: rest) (hW : (rest.map fun v => v.category).sum ≤ 8) (hdg : decode cc pc = .ok (.invokevirtual 130, 3))
    (kk : ∀ (H1 : Heap) (locs1 : List Loc), JL E B s n1 f1 H1 locs1 → W p l e R s m args below meth c H1 locs1 (cells + mc) (slots + ms) Q (F0 m (pc + 3) ls (rv :: rest))) : W p l e R s m args below meth c H locs cells slots Q (F0 m pc ls st) :=
  rcallV X hJ hC (tw (i := 559) (by decide +kernel) (by decide)) ti_X4_codeAt te_X4_codeAt tn_4 tk_X4_codeAt ⟨by decide +kernel, by decide +kernel, by rw [hn]; decide +kernel⟩ rfl rfl ho hf hls hfr hcs hst hW hdg kk
theorem kX6_136 (X : Cx p s m args c cc nL RX6 E B) (hJ : JL E B s n f H locs) (hC : Ct l yX5_total cX5_total 3 (some .int) fr lo mc ms E B (.ref (B + o) :: As) n f (some rv) n1 f1) (hn : As.length = 1) {fs : List Value} (ho : o < n) (hf : f o = .inr (5, fs)) (hls : ls.size = nL) (hfr : fr + 1 ≤ R.frames ∧ 8 + (3 + 11) + lo ≤ R.locals) (hcs : cells + mc ≤ R.cells ∧ slots + ms ≤ R.slots) (hst : st = As.reverse ++ .ref (B + o) :: rest) (hW : (rest.map fun v => v.category).sum ≤ 8) (hdg : decode cc pc = .ok (.invokevirtual 136, 3))
    (kk : ∀ (H1 : Heap) (locs1 : List Loc), JL E B s n1 f1 H1 locs1 → W p l e R s m args below meth c H1 locs1 (cells + mc) (slots + ms) Q (F0 m (pc + 3) ls (rv :: rest))) : W p l e R s m args below meth c H locs cells slots Q (F0 m pc ls st) :=
  rcallV X hJ hC (tw (i := 567) (by decide +kernel) (by decide)) ti_X5_total te_X5_total tn_5 tk_X5_total ⟨by decide +kernel, by decide +kernel, by rw [hn]; decide +kernel⟩ rfl rfl ho hf hls hfr hcs hst hW hdg kk
theorem kX6_139 (X : Cx p s m args c cc nL RX6 E B) (hJ : JL E B s n f H locs) (hC : Ct l yX5_comerOver cX5_comerOver 5 (some (.object "BridgeWardens$Cart")) fr lo mc ms E B (.ref (B + o) :: As) n f (some rv) n1 f1) (hn : As.length = 1) {fs : List Value} (ho : o < n) (hf : f o = .inr (5, fs)) (hls : ls.size = nL) (hfr : fr + 1 ≤ R.frames ∧ 8 + (5 + 11) + lo ≤ R.locals) (hcs : cells + mc ≤ R.cells ∧ slots + ms ≤ R.slots) (hst : st = As.reverse ++ .ref (B + o) :: rest) (hW : (rest.map fun v => v.category).sum ≤ 8) (hdg : decode cc pc = .ok (.invokevirtual 139, 3))
    (kk : ∀ (H1 : Heap) (locs1 : List Loc), JL E B s n1 f1 H1 locs1 → W p l e R s m args below meth c H1 locs1 (cells + mc) (slots + ms) Q (F0 m (pc + 3) ls (rv :: rest))) : W p l e R s m args below meth c H locs cells slots Q (F0 m pc ls st) :=
  rcallV X hJ hC (tw (i := 589) (by decide +kernel) (by decide)) ti_X5_comerOver te_X5_comerOver tn_5 tk_X5_comerOver ⟨by decide +kernel, by decide +kernel, by rw [hn]; decide +kernel⟩ rfl rfl ho hf hls hfr hcs hst hW hdg kk
theorem kX6_143 (X : Cx p s m args c cc nL RX6 E B) (hJ : JL E B s n f H locs) (hC : Ct l yX5_reasonToStay cX5_reasonToStay 4 (some .int) fr lo mc ms E B (.ref (B + o) :: As) n f (some rv) n1 f1) (hn : As.length = 1) {fs : List Value} (ho : o < n) (hf : f o = .inr (5, fs)) (hls : ls.size = nL) (hfr : fr + 1 ≤ R.frames ∧ 8 + (4 + 11) + lo ≤ R.locals) (hcs : cells + mc ≤ R.cells ∧ slots + ms ≤ R.slots) (hst : st = As.reverse ++ .ref (B + o) :: rest) (hW : (rest.map fun v => v.category).sum ≤ 8) (hdg : decode cc pc = .ok (.invokevirtual 143, 3))
    (kk : ∀ (H1 : Heap) (locs1 : List Loc), JL E B s n1 f1 H1 locs1 → W p l e R s m args below meth c H1 locs1 (cells + mc) (slots + ms) Q (F0 m (pc + 3) ls (rv :: rest))) : W p l e R s m args below meth c H locs cells slots Q (F0 m pc ls st) :=
  rcallV X hJ hC (tw (i := 594) (by decide +kernel) (by decide)) ti_X5_reasonToStay te_X5_reasonToStay tn_5 tk_X5_reasonToStay ⟨by decide +kernel, by decide +kernel, by rw [hn]; decide +kernel⟩ rfl rfl ho hf hls hfr hcs hst hW hdg kk
theorem kX6_147 (X : Cx p s m args c cc nL RX6 E B) (hJ : JL E B s n f H locs) (hC : Ct l yX5_copyFrom cX5_copyFrom 3 none fr lo mc ms E B (.ref (B + o) :: As) n f none n1 f1) (hn : As.length = 1) {fs : List Value} (ho : o < n) (hf : f o = .inr (5, fs)) (hls : ls.size = nL) (hfr : fr + 1 ≤ R.frames ∧ 8 + (3 + 11) + lo ≤ R.locals) (hcs : cells + mc ≤ R.cells ∧ slots + ms ≤ R.slots) (hst : st = As.reverse ++ .ref (B + o) :: rest) (hW : (rest.map fun v => v.category).sum ≤ 8) (hdg : decode cc pc = .ok (.invokevirtual 147, 3))
    (kk : ∀ (H1 : Heap) (locs1 : List Loc), JL E B s n1 f1 H1 locs1 → W p l e R s m args below meth c H1 locs1 (cells + mc) (slots + ms) Q (F0 m (pc + 3) ls (rest))) : W p l e R s m args below meth c H locs cells slots Q (F0 m pc ls st) :=
  rcallV X hJ hC (tw (i := 602) (by decide +kernel) (by decide)) ti_X5_copyFrom te_X5_copyFrom tn_5 tk_X5_copyFrom ⟨by decide +kernel, by decide +kernel, by rw [hn]; decide +kernel⟩ rfl rfl ho hf hls hfr hcs hst hW hdg kk
theorem kX6_150 (X : Cx p s m args c cc nL RX6 E B) (hJ : JL E B s n f H locs) (hC : Ct l yX1_isWaiting cX1_isWaiting 1 (some .boolean) fr lo mc ms E B (.ref (B + o) :: As) n f (some rv) n1 f1) (hn : As.length = 0) {fs : List Value} (ho : o < n) (hf : f o = .inr (1, fs)) (hls : ls.size = nL) (hfr : fr + 1 ≤ R.frames ∧ 8 + (1 + 11) + lo ≤ R.locals) (hcs : cells + mc ≤ R.cells ∧ slots + ms ≤ R.slots) (hst : st = As.reverse ++ .ref (B + o) :: rest) (hW : (rest.map fun v => v.category).sum ≤ 8) (hdg : decode cc pc = .ok (.invokevirtual 150, 3))
    (kk : ∀ (H1 : Heap) (locs1 : List Loc), JL E B s n1 f1 H1 locs1 → W p l e R s m args below meth c H1 locs1 (cells + mc) (slots + ms) Q (F0 m (pc + 3) ls (rv :: rest))) : W p l e R s m args below meth c H locs cells slots Q (F0 m pc ls st) :=
  rcallV X hJ hC (tw (i := 603) (by decide +kernel) (by decide)) ti_X1_isWaiting te_X1_isWaiting tn_1 tk_X1_isWaiting ⟨by decide +kernel, by decide +kernel, by rw [hn]; decide +kernel⟩ rfl rfl ho hf hls hfr hcs hst hW hdg kk
theorem kX6_154 (X : Cx p s m args c cc nL RX6 E B) (hJ : JL E B s n f H locs) (hC : Ct l yX5_playHour cX5_playHour 3 (some .int) fr lo mc ms E B (.ref (B + o) :: As) n f (some rv) n1 f1) (hn : As.length = 0) {fs : List Value} (ho : o < n) (hf : f o = .inr (5, fs)) (hls : ls.size = nL) (hfr : fr + 1 ≤ R.frames ∧ 8 + (3 + 11) + lo ≤ R.locals) (hcs : cells + mc ≤ R.cells ∧ slots + ms ≤ R.slots) (hst : st = As.reverse ++ .ref (B + o) :: rest) (hW : (rest.map fun v => v.category).sum ≤ 8) (hdg : decode cc pc = .ok (.invokevirtual 154, 3))
    (kk : ∀ (H1 : Heap) (locs1 : List Loc), JL E B s n1 f1 H1 locs1 → W p l e R s m args below meth c H1 locs1 (cells + mc) (slots + ms) Q (F0 m (pc + 3) ls (rv :: rest))) : W p l e R s m args below meth c H locs cells slots Q (F0 m pc ls st) :=
  rcallV X hJ hC (tw (i := 604) (by decide +kernel) (by decide)) ti_X5_playHour te_X5_playHour tn_5 tk_X5_playHour ⟨by decide +kernel, by decide +kernel, by rw [hn]; decide +kernel⟩ rfl rfl ho hf hls hfr hcs hst hW hdg kk
theorem kX6_161 (X : Cx p s m args c cc nL RX6 E B) (hJ : JL E B s n f H locs) (hC : Ct l yX1_numbersNearer cX1_numbersNearer 5 (some .int) fr lo mc ms E B (.ref (B + o) :: As) n f (some rv) n1 f1) (hn : As.length = 3) {fs : List Value} (ho : o < n) (hf : f o = .inr (1, fs)) (hls : ls.size = nL) (hfr : fr + 1 ≤ R.frames ∧ 8 + (5 + 11) + lo ≤ R.locals) (hcs : cells + mc ≤ R.cells ∧ slots + ms ≤ R.slots) (hst : st = As.reverse ++ .ref (B + o) :: rest) (hW : (rest.map fun v => v.category).sum ≤ 8) (hdg : decode cc pc = .ok (.invokevirtual 161, 3))
    (kk : ∀ (H1 : Heap) (locs1 : List Loc), JL E B s n1 f1 H1 locs1 → W p l e R s m args below meth c H1 locs1 (cells + mc) (slots + ms) Q (F0 m (pc + 3) ls (rv :: rest))) : W p l e R s m args below meth c H locs cells slots Q (F0 m pc ls st) :=
  rcallV X hJ hC (tw (i := 609) (by decide +kernel) (by decide)) ti_X1_numbersNearer te_X1_numbersNearer tn_1 tk_X1_numbersNearer ⟨by decide +kernel, by decide +kernel, by rw [hn]; decide +kernel⟩ rfl rfl ho hf hls hfr hcs hst hW hdg kk
theorem kX6_165 (X : Cx p s m args c cc nL RX6 E B) (hJ : JL E B s n f H locs) (hC : Ct l yX5_stepsBetween cX5_stepsBetween 5 (some .int) fr lo mc ms E B (.ref (B + o) :: As) n f (some rv) n1 f1) (hn : As.length = 2) {fs : List Value} (ho : o < n) (hf : f o = .inr (5, fs)) (hls : ls.size = nL) (hfr : fr + 1 ≤ R.frames ∧ 8 + (5 + 11) + lo ≤ R.locals) (hcs : cells + mc ≤ R.cells ∧ slots + ms ≤ R.slots) (hst : st = As.reverse ++ .ref (B + o) :: rest) (hW : (rest.map fun v => v.category).sum ≤ 8) (hdg : decode cc pc = .ok (.invokevirtual 165, 3))
    (kk : ∀ (H1 : Heap) (locs1 : List Loc), JL E B s n1 f1 H1 locs1 → W p l e R s m args below meth c H1 locs1 (cells + mc) (slots + ms) Q (F0 m (pc + 3) ls (rv :: rest))) : W p l e R s m args below meth c H locs cells slots Q (F0 m pc ls st) :=
  rcallV X hJ hC (tw (i := 624) (by decide +kernel) (by decide)) ti_X5_stepsBetween te_X5_stepsBetween tn_5 tk_X5_stepsBetween ⟨by decide +kernel, by decide +kernel, by rw [hn]; decide +kernel⟩ rfl rfl ho hf hls hfr hcs hst hW hdg kk
theorem kX6_168 (X : Cx p s m args c cc nL RX6 E B) (hJ : JL E B s n f H locs) (hC : Ct l yX5_firstBridge cX5_firstBridge 6 (some .int) fr lo mc ms E B (.ref (B + o) :: As) n f (some rv) n1 f1) (hn : As.length = 3) {fs : List Value} (ho : o < n) (hf : f o = .inr (5, fs)) (hls : ls.size = nL) (hfr : fr + 1 ≤ R.frames ∧ 8 + (6 + 11) + lo ≤ R.locals) (hcs : cells + mc ≤ R.cells ∧ slots + ms ≤ R.slots) (hst : st = As.reverse ++ .ref (B + o) :: rest) (hW : (rest.map fun v => v.category).sum ≤ 8) (hdg : decode cc pc = .ok (.invokevirtual 168, 3))
    (kk : ∀ (H1 : Heap) (locs1 : List Loc), JL E B s n1 f1 H1 locs1 → W p l e R s m args below meth c H1 locs1 (cells + mc) (slots + ms) Q (F0 m (pc + 3) ls (rv :: rest))) : W p l e R s m args below meth c H locs cells slots Q (F0 m pc ls st) :=
  rcallV X hJ hC (tw (i := 636) (by decide +kernel) (by decide)) ti_X5_firstBridge te_X5_firstBridge tn_5 tk_X5_firstBridge ⟨by decide +kernel, by decide +kernel, by rw [hn]; decide +kernel⟩ rfl rfl ho hf hls hfr hcs hst hW hdg kk
theorem kX6_171 (X : Cx p s m args c cc nL RX6 E B) (hJ : JL E B s n f H locs) (hC : Ct l yX5_sumOverCarts cX5_sumOverCarts 4 (some .int) fr lo mc ms E B (.ref (B + o) :: As) n f (some rv) n1 f1) (hn : As.length = 1) {fs : List Value} (ho : o < n) (hf : f o = .inr (5, fs)) (hls : ls.size = nL) (hfr : fr + 1 ≤ R.frames ∧ 8 + (4 + 11) + lo ≤ R.locals) (hcs : cells + mc ≤ R.cells ∧ slots + ms ≤ R.slots) (hst : st = As.reverse ++ .ref (B + o) :: rest) (hW : (rest.map fun v => v.category).sum ≤ 8) (hdg : decode cc pc = .ok (.invokevirtual 171, 3))
    (kk : ∀ (H1 : Heap) (locs1 : List Loc), JL E B s n1 f1 H1 locs1 → W p l e R s m args below meth c H1 locs1 (cells + mc) (slots + ms) Q (F0 m (pc + 3) ls (rv :: rest))) : W p l e R s m args below meth c H locs cells slots Q (F0 m pc ls st) :=
  rcallV X hJ hC (tw (i := 645) (by decide +kernel) (by decide)) ti_X5_sumOverCarts te_X5_sumOverCarts tn_5 tk_X5_sumOverCarts ⟨by decide +kernel, by decide +kernel, by rw [hn]; decide +kernel⟩ rfl rfl ho hf hls hfr hcs hst hW hdg kk
theorem kX6_174 (X : Cx p s m args c cc nL RX6 E B) (hJ : JL E B s n f H locs) (hC : Ct l yX5_waitingSet cX5_waitingSet 3 (some .int) fr lo mc ms E B (.ref (B + o) :: As) n f (some rv) n1 f1) (hn : As.length = 0) {fs : List Value} (ho : o < n) (hf : f o = .inr (5, fs)) (hls : ls.size = nL) (hfr : fr + 1 ≤ R.frames ∧ 8 + (3 + 11) + lo ≤ R.locals) (hcs : cells + mc ≤ R.cells ∧ slots + ms ≤ R.slots) (hst : st = As.reverse ++ .ref (B + o) :: rest) (hW : (rest.map fun v => v.category).sum ≤ 8) (hdg : decode cc pc = .ok (.invokevirtual 174, 3))
    (kk : ∀ (H1 : Heap) (locs1 : List Loc), JL E B s n1 f1 H1 locs1 → W p l e R s m args below meth c H1 locs1 (cells + mc) (slots + ms) Q (F0 m (pc + 3) ls (rv :: rest))) : W p l e R s m args below meth c H locs cells slots Q (F0 m pc ls st) :=
  rcallV X hJ hC (tw (i := 646) (by decide +kernel) (by decide)) ti_X5_waitingSet te_X5_waitingSet tn_5 tk_X5_waitingSet ⟨by decide +kernel, by decide +kernel, by rw [hn]; decide +kernel⟩ rfl rfl ho hf hls hfr hcs hst hW hdg kk
theorem kX6_177 (X : Cx p s m args c cc nL RX6 E B) (hJ : JL E B s n f H locs) (hC : Ct l yX6_signsIn cX6_signsIn 6 (some .int) fr lo mc ms E B As n f (some rv) n1 f1) (hn : As.length = 1) (hls : ls.size = nL) (hfr : fr + 1 ≤ R.frames ∧ 8 + (6 + 11) + lo ≤ R.locals) (hcs : cells + mc ≤ R.cells ∧ slots + ms ≤ R.slots) (hst : st = As.reverse ++ rest) (hW : (rest.map fun v => v.category).sum ≤ 8) (hdg : decode cc pc = .ok (.invokestatic 177, 3))
    (kk : ∀ (H1 : Heap) (locs1 : List Loc), JL E B s n1 f1 H1 locs1 → W p l e R s m args below meth c H1 locs1 (cells + mc) (slots + ms) Q (F0 m (pc + 3) ls (rv :: rest))) : W p l e R s m args below meth c H locs cells slots Q (F0 m pc ls st) :=
  rcallS X hJ hC rfl (tw (i := 651) (by decide +kernel) (by decide)) ts_X6_signsIn tn_6 tk_X6_signsIn ⟨by decide +kernel, by decide +kernel, by rw [hn]; decide +kernel⟩ hls hfr hcs hst hW hdg kk
theorem kX6_181 (X : Cx p s m args c cc nL RX6 E B) (hJ : JL E B s n f H locs) (hC : Ct l yX4_append cX4_append 2 none fr lo mc ms E B (.ref (B + o) :: As) n f none n1 f1) (hn : As.length = 1) {fs : List Value} (ho : o < n) (hf : f o = .inr (4, fs)) (hls : ls.size = nL) (hfr : fr + 1 ≤ R.frames ∧ 8 + (2 + 11) + lo ≤ R.locals) (hcs : cells + mc ≤ R.cells ∧ slots + ms ≤ R.slots) (hst : st = As.reverse ++ .ref (B + o) :: rest) (hW : (rest.map fun v => v.category).sum ≤ 8) (hdg : decode cc pc = .ok (.invokevirtual 181, 3))
    (kk : ∀ (H1 : Heap) (locs1 : List Loc), JL E B s n1 f1 H1 locs1 → W p l e R s m args below meth c H1 locs1 (cells + mc) (slots + ms) Q (F0 m (pc + 3) ls (rest))) : W p l e R s m args below meth c H locs cells slots Q (F0 m pc ls st) :=
  rcallV X hJ hC (tw (i := 512) (by decide +kernel) (by decide)) ti_X4_append te_X4_append tn_4 tk_X4_append ⟨by decide +kernel, by decide +kernel, by rw [hn]; decide +kernel⟩ rfl rfl ho hf hls hfr hcs hst hW hdg kk
theorem kX6_185 (X : Cx p s m args c cc nL RX6 E B) (hJ : JL E B s n f H locs) (hC : Ct l yX3_faultPlace cX3_faultPlace 2 (some .int) fr lo mc ms E B (.ref (B + o) :: As) n f (some rv) n1 f1) (hn : As.length = 0) {fs : List Value} (ho : o < n) (hf : f o = .inr (3, fs)) (hls : ls.size = nL) (hfr : fr + 1 ≤ R.frames ∧ 8 + (2 + 11) + lo ≤ R.locals) (hcs : cells + mc ≤ R.cells ∧ slots + ms ≤ R.slots) (hst : st = As.reverse ++ .ref (B + o) :: rest) (hW : (rest.map fun v => v.category).sum ≤ 8) (hdg : decode cc pc = .ok (.invokevirtual 185, 3))
    (kk : ∀ (H1 : Heap) (locs1 : List Loc), JL E B s n1 f1 H1 locs1 → W p l e R s m args below meth c H1 locs1 (cells + mc) (slots + ms) Q (F0 m (pc + 3) ls (rv :: rest))) : W p l e R s m args below meth c H locs cells slots Q (F0 m pc ls st) :=
  rcallV X hJ hC (tw (i := 662) (by decide +kernel) (by decide)) ti_X3_faultPlace te_X3_faultPlace tn_3 tk_X3_faultPlace ⟨by decide +kernel, by decide +kernel, by rw [hn]; decide +kernel⟩ rfl rfl ho hf hls hfr hcs hst hW hdg kk
theorem kX6_188 (X : Cx p s m args c cc nL RX6 E B) (hJ : JL E B s n f H locs) (hC : Ct l yX3_goToStart cX3_goToStart 1 none fr lo mc ms E B (.ref (B + o) :: As) n f none n1 f1) (hn : As.length = 0) {fs : List Value} (ho : o < n) (hf : f o = .inr (3, fs)) (hls : ls.size = nL) (hfr : fr + 1 ≤ R.frames ∧ 8 + (1 + 11) + lo ≤ R.locals) (hcs : cells + mc ≤ R.cells ∧ slots + ms ≤ R.slots) (hst : st = As.reverse ++ .ref (B + o) :: rest) (hW : (rest.map fun v => v.category).sum ≤ 8) (hdg : decode cc pc = .ok (.invokevirtual 188, 3))
    (kk : ∀ (H1 : Heap) (locs1 : List Loc), JL E B s n1 f1 H1 locs1 → W p l e R s m args below meth c H1 locs1 (cells + mc) (slots + ms) Q (F0 m (pc + 3) ls (rest))) : W p l e R s m args below meth c H locs cells slots Q (F0 m pc ls st) :=
  rcallV X hJ hC (tw (i := 710) (by decide +kernel) (by decide)) ti_X3_goToStart te_X3_goToStart tn_3 tk_X3_goToStart ⟨by decide +kernel, by decide +kernel, by rw [hn]; decide +kernel⟩ rfl rfl ho hf hls hfr hcs hst hW hdg kk
theorem kX6_191 (X : Cx p s m args c cc nL RX6 E B) (hJ : JL E B s n f H locs) (hC : Ct l yX3_readOrder cX3_readOrder 1 (some .boolean) fr lo mc ms E B (.ref (B + o) :: As) n f (some rv) n1 f1) (hn : As.length = 0) {fs : List Value} (ho : o < n) (hf : f o = .inr (3, fs)) (hls : ls.size = nL) (hfr : fr + 1 ≤ R.frames ∧ 8 + (1 + 11) + lo ≤ R.locals) (hcs : cells + mc ≤ R.cells ∧ slots + ms ≤ R.slots) (hst : st = As.reverse ++ .ref (B + o) :: rest) (hW : (rest.map fun v => v.category).sum ≤ 8) (hdg : decode cc pc = .ok (.invokevirtual 191, 3))
    (kk : ∀ (H1 : Heap) (locs1 : List Loc), JL E B s n1 f1 H1 locs1 → W p l e R s m args below meth c H1 locs1 (cells + mc) (slots + ms) Q (F0 m (pc + 3) ls (rv :: rest))) : W p l e R s m args below meth c H locs cells slots Q (F0 m pc ls st) :=
  rcallV X hJ hC (tw (i := 711) (by decide +kernel) (by decide)) ti_X3_readOrder te_X3_readOrder tn_3 tk_X3_readOrder ⟨by decide +kernel, by decide +kernel, by rw [hn]; decide +kernel⟩ rfl rfl ho hf hls hfr hcs hst hW hdg kk
theorem kX6_194 (X : Cx p s m args c cc nL RX6 E B) (hJ : JL E B s n f H locs) (hC : Ct l yX6_obey cX6_obey 1 (some .int) fr lo mc ms E B (.ref (B + o) :: As) n f (some rv) n1 f1) (hn : As.length = 0) {fs : List Value} (ho : o < n) (hf : f o = .inr (6, fs)) (hls : ls.size = nL) (hfr : fr + 1 ≤ R.frames ∧ 8 + (1 + 11) + lo ≤ R.locals) (hcs : cells + mc ≤ R.cells ∧ slots + ms ≤ R.slots) (hst : st = As.reverse ++ .ref (B + o) :: rest) (hW : (rest.map fun v => v.category).sum ≤ 8) (hdg : decode cc pc = .ok (.invokevirtual 194, 3))
    (kk : ∀ (H1 : Heap) (locs1 : List Loc), JL E B s n1 f1 H1 locs1 → W p l e R s m args below meth c H1 locs1 (cells + mc) (slots + ms) Q (F0 m (pc + 3) ls (rv :: rest))) : W p l e R s m args below meth c H locs cells slots Q (F0 m pc ls st) :=
  rcallV X hJ hC (tw (i := 712) (by decide +kernel) (by decide)) ti_X6_obey te_X6_obey tn_6 tk_X6_obey ⟨by decide +kernel, by decide +kernel, by rw [hn]; decide +kernel⟩ rfl rfl ho hf hls hfr hcs hst hW hdg kk
theorem kX6_197 (X : Cx p s m args c cc nL RX6 E B) (hJ : JL E B s n f H locs) (hC : Ct l yX3_readSign cX3_readSign 3 (some .boolean) fr lo mc ms E B (.ref (B + o) :: As) n f (some rv) n1 f1) (hn : As.length = 1) {fs : List Value} (ho : o < n) (hf : f o = .inr (3, fs)) (hls : ls.size = nL) (hfr : fr + 1 ≤ R.frames ∧ 8 + (3 + 11) + lo ≤ R.locals) (hcs : cells + mc ≤ R.cells ∧ slots + ms ≤ R.slots) (hst : st = As.reverse ++ .ref (B + o) :: rest) (hW : (rest.map fun v => v.category).sum ≤ 8) (hdg : decode cc pc = .ok (.invokevirtual 197, 3))
    (kk : ∀ (H1 : Heap) (locs1 : List Loc), JL E B s n1 f1 H1 locs1 → W p l e R s m args below meth c H1 locs1 (cells + mc) (slots + ms) Q (F0 m (pc + 3) ls (rv :: rest))) : W p l e R s m args below meth c H locs cells slots Q (F0 m pc ls st) :=
  rcallV X hJ hC (tw (i := 716) (by decide +kernel) (by decide)) ti_X3_readSign te_X3_readSign tn_3 tk_X3_readSign ⟨by decide +kernel, by decide +kernel, by rw [hn]; decide +kernel⟩ rfl rfl ho hf hls hfr hcs hst hW hdg kk
theorem kX6_201 (X : Cx p s m args c cc nL RX6 E B) (hJ : JL E B s n f H locs) (hC : Ct l yX2_takeBack cX2_takeBack 2 none fr lo mc ms E B (.ref (B + o) :: As) n f none n1 f1) (hn : As.length = 1) {fs : List Value} (ho : o < n) (hf : f o = .inr (2, fs)) (hls : ls.size = nL) (hfr : fr + 1 ≤ R.frames ∧ 8 + (2 + 11) + lo ≤ R.locals) (hcs : cells + mc ≤ R.cells ∧ slots + ms ≤ R.slots) (hst : st = As.reverse ++ .ref (B + o) :: rest) (hW : (rest.map fun v => v.category).sum ≤ 8) (hdg : decode cc pc = .ok (.invokevirtual 201, 3))
    (kk : ∀ (H1 : Heap) (locs1 : List Loc), JL E B s n1 f1 H1 locs1 → W p l e R s m args below meth c H1 locs1 (cells + mc) (slots + ms) Q (F0 m (pc + 3) ls (rest))) : W p l e R s m args below meth c H locs cells slots Q (F0 m pc ls st) :=
  rcallV X hJ hC (tw (i := 721) (by decide +kernel) (by decide)) ti_X2_takeBack te_X2_takeBack tn_2 tk_X2_takeBack ⟨by decide +kernel, by decide +kernel, by rw [hn]; decide +kernel⟩ rfl rfl ho hf hls hfr hcs hst hW hdg kk
theorem kX6_210 (X : Cx p s m args c cc nL RX6 E B) (hJ : JL E B s n f H locs) (hC : Ct l yX2_keepNoted cX2_keepNoted 1 none fr lo mc ms E B (.ref (B + o) :: As) n f none n1 f1) (hn : As.length = 0) {fs : List Value} (ho : o < n) (hf : f o = .inr (2, fs)) (hls : ls.size = nL) (hfr : fr + 1 ≤ R.frames ∧ 8 + (1 + 11) + lo ≤ R.locals) (hcs : cells + mc ≤ R.cells ∧ slots + ms ≤ R.slots) (hst : st = As.reverse ++ .ref (B + o) :: rest) (hW : (rest.map fun v => v.category).sum ≤ 8) (hdg : decode cc pc = .ok (.invokevirtual 210, 3))
    (kk : ∀ (H1 : Heap) (locs1 : List Loc), JL E B s n1 f1 H1 locs1 → W p l e R s m args below meth c H1 locs1 (cells + mc) (slots + ms) Q (F0 m (pc + 3) ls (rest))) : W p l e R s m args below meth c H locs cells slots Q (F0 m pc ls st) :=
  rcallV X hJ hC (tw (i := 350) (by decide +kernel) (by decide)) ti_X2_keepNoted te_X2_keepNoted tn_2 tk_X2_keepNoted ⟨by decide +kernel, by decide +kernel, by rw [hn]; decide +kernel⟩ rfl rfl ho hf hls hfr hcs hst hW hdg kk
theorem kX6_213 (X : Cx p s m args c cc nL RX6 E B) (hJ : JL E B s n f H locs) (hC : Ct l yX4_appendNumber cX4_appendNumber 3 none fr lo mc ms E B (.ref (B + o) :: As) n f none n1 f1) (hn : As.length = 1) {fs : List Value} (ho : o < n) (hf : f o = .inr (4, fs)) (hls : ls.size = nL) (hfr : fr + 1 ≤ R.frames ∧ 8 + (3 + 11) + lo ≤ R.locals) (hcs : cells + mc ≤ R.cells ∧ slots + ms ≤ R.slots) (hst : st = As.reverse ++ .ref (B + o) :: rest) (hW : (rest.map fun v => v.category).sum ≤ 8) (hdg : decode cc pc = .ok (.invokevirtual 213, 3))
    (kk : ∀ (H1 : Heap) (locs1 : List Loc), JL E B s n1 f1 H1 locs1 → W p l e R s m args below meth c H1 locs1 (cells + mc) (slots + ms) Q (F0 m (pc + 3) ls (rest))) : W p l e R s m args below meth c H locs cells slots Q (F0 m pc ls st) :=
  rcallV X hJ hC (tw (i := 516) (by decide +kernel) (by decide)) ti_X4_appendNumber te_X4_appendNumber tn_4 tk_X4_appendNumber ⟨by decide +kernel, by decide +kernel, by rw [hn]; decide +kernel⟩ rfl rfl ho hf hls hfr hcs hst hW hdg kk
theorem kX6_222 (X : Cx p s m args c cc nL RX6 E B) (hJ : JL E B s n f H locs) (hC : Ct l yX1_numbersLeft cX1_numbersLeft 2 (some .int) fr lo mc ms E B (.ref (B + o) :: As) n f (some rv) n1 f1) (hn : As.length = 1) {fs : List Value} (ho : o < n) (hf : f o = .inr (1, fs)) (hls : ls.size = nL) (hfr : fr + 1 ≤ R.frames ∧ 8 + (2 + 11) + lo ≤ R.locals) (hcs : cells + mc ≤ R.cells ∧ slots + ms ≤ R.slots) (hst : st = As.reverse ++ .ref (B + o) :: rest) (hW : (rest.map fun v => v.category).sum ≤ 8) (hdg : decode cc pc = .ok (.invokevirtual 222, 3))
    (kk : ∀ (H1 : Heap) (locs1 : List Loc), JL E B s n1 f1 H1 locs1 → W p l e R s m args below meth c H1 locs1 (cells + mc) (slots + ms) Q (F0 m (pc + 3) ls (rv :: rest))) : W p l e R s m args below meth c H locs cells slots Q (F0 m pc ls st) :=
  rcallV X hJ hC (tw (i := 523) (by decide +kernel) (by decide)) ti_X1_numbersLeft te_X1_numbersLeft tn_1 tk_X1_numbersLeft ⟨by decide +kernel, by decide +kernel, by rw [hn]; decide +kernel⟩ rfl rfl ho hf hls hfr hcs hst hW hdg kk
theorem kX0_3 (X : Cx p s m args c cc nL RX0 E B) (hls : ls.size = nL) (hfr : 1 ≤ R.frames ∧ (rest.map fun v => v.category).sum + 12 ≤ R.locals) (hcs : cells ≤ R.cells ∧ slots ≤ R.slots) (hdg : decode cc pc = .ok (.invokespecial 3, 3))
    (kk : W p l e R s m args below meth c H locs cells slots Q (F0 m (pc + 3) ls rest)) : W p l e R s m args below meth c H locs cells slots Q (F0 m pc ls (.ref b :: rest)) :=
  robj X (tw (i := 99) (by decide +kernel) (by decide)) tw_obj_i tw_obj_c hls hfr hcs hdg kk
theorem tl_X0_39 : Cond.methodLink RX0 39 Lib.Math.abs.name ∈ TW := tw (i := 478) (by decide +kernel) (by decide)
theorem kX1_3 (X : Cx p s m args c cc nL RX1 E B) (hls : ls.size = nL) (hfr : 1 ≤ R.frames ∧ (rest.map fun v => v.category).sum + 12 ≤ R.locals) (hcs : cells ≤ R.cells ∧ slots ≤ R.slots) (hdg : decode cc pc = .ok (.invokespecial 3, 3))
    (kk : W p l e R s m args below meth c H locs cells slots Q (F0 m (pc + 3) ls rest)) : W p l e R s m args below meth c H locs cells slots Q (F0 m pc ls (.ref b :: rest)) :=
  robj X (tw (i := 147) (by decide +kernel) (by decide)) tw_obj_i tw_obj_c hls hfr hcs hdg kk
theorem tl_X1_46 : Cond.methodLink RX1 46 arraycopyName ∈ TW := tw (i := 334) (by decide +kernel) (by decide)
theorem kX1_55 (X : Cx p s m args c cc nL RX1 E B) (hJ : JL E B s n f H locs) (hC : Ct l yX1_highest cX1_highest 2 (some .int) fr lo mc ms E B (.ref (B + o) :: As) n f (some rv) n1 f1) (hn : As.length = 1) {fs : List Value} (ho : o < n) (hf : f o = .inr (1, fs)) (hls : ls.size = nL) (hfr : fr + 1 ≤ R.frames ∧ 8 + (2 + 11) + lo ≤ R.locals) (hcs : cells + mc ≤ R.cells ∧ slots + ms ≤ R.slots) (hst : st = As.reverse ++ .ref (B + o) :: rest) (hW : (rest.map fun v => v.category).sum ≤ 8) (hdg : decode cc pc = .ok (.invokevirtual 55, 3))
    (kk : ∀ (H1 : Heap) (locs1 : List Loc), JL E B s n1 f1 H1 locs1 → W p l e R s m args below meth c H1 locs1 (cells + mc) (slots + ms) Q (F0 m (pc + 3) ls (rv :: rest))) : W p l e R s m args below meth c H locs cells slots Q (F0 m pc ls st) :=
  rcallV X hJ hC (tw (i := 434) (by decide +kernel) (by decide)) ti_X1_highest te_X1_highest tn_1 tk_X1_highest ⟨by decide +kernel, by decide +kernel, by rw [hn]; decide +kernel⟩ rfl rfl ho hf hls hfr hcs hst hW hdg kk
theorem kX1_59 (X : Cx p s m args c cc nL RX1 E B) (hJ : JL E B s n f H locs) (hC : Ct l yX1_lowest cX1_lowest 2 (some .int) fr lo mc ms E B (.ref (B + o) :: As) n f (some rv) n1 f1) (hn : As.length = 1) {fs : List Value} (ho : o < n) (hf : f o = .inr (1, fs)) (hls : ls.size = nL) (hfr : fr + 1 ≤ R.frames ∧ 8 + (2 + 11) + lo ≤ R.locals) (hcs : cells + mc ≤ R.cells ∧ slots + ms ≤ R.slots) (hst : st = As.reverse ++ .ref (B + o) :: rest) (hW : (rest.map fun v => v.category).sum ≤ 8) (hdg : decode cc pc = .ok (.invokevirtual 59, 3))
    (kk : ∀ (H1 : Heap) (locs1 : List Loc), JL E B s n1 f1 H1 locs1 → W p l e R s m args below meth c H1 locs1 (cells + mc) (slots + ms) Q (F0 m (pc + 3) ls (rv :: rest))) : W p l e R s m args below meth c H locs cells slots Q (F0 m pc ls st) :=
  rcallV X hJ hC (tw (i := 438) (by decide +kernel) (by decide)) ti_X1_lowest te_X1_lowest tn_1 tk_X1_lowest ⟨by decide +kernel, by decide +kernel, by rw [hn]; decide +kernel⟩ rfl rfl ho hf hls hfr hcs hst hW hdg kk
theorem tl_X1_68 : Cond.methodLink RX1 68 Lib.Math.min.name ∈ TW := tw (i := 494) (by decide +kernel) (by decide)
theorem tl_X1_74 : Cond.methodLink RX1 74 Lib.Math.max.name ∈ TW := tw (i := 613) (by decide +kernel) (by decide)
theorem kX2_3 (X : Cx p s m args c cc nL RX2 E B) (hls : ls.size = nL) (hfr : 1 ≤ R.frames ∧ (rest.map fun v => v.category).sum + 12 ≤ R.locals) (hcs : cells ≤ R.cells ∧ slots ≤ R.slots) (hdg : decode cc pc = .ok (.invokespecial 3, 3))
    (kk : W p l e R s m args below meth c H locs cells slots Q (F0 m (pc + 3) ls rest)) : W p l e R s m args below meth c H locs cells slots Q (F0 m pc ls (.ref b :: rest)) :=
  robj X (tw (i := 232) (by decide +kernel) (by decide)) tw_obj_i tw_obj_c hls hfr hcs hdg kk
theorem kX2_17 (X : Cx p s m args c cc nL RX2 E B) (hJ : JL E B s n f H locs) (hC : Ct l yX5_init cX5_init 2 none fr lo mc ms E B (.ref b :: As) n f none n1 f1) (hn : As.length = 0) (hls : ls.size = nL) (hfr : fr + 1 ≤ R.frames ∧ 8 + (2 + 11) + lo ≤ R.locals) (hcs : cells + mc ≤ R.cells ∧ slots + ms ≤ R.slots) (hst : st = As.reverse ++ .ref b :: rest) (hW : (rest.map fun v => v.category).sum ≤ 8) (hdg : decode cc pc = .ok (.invokespecial 17, 3))
    (kk : ∀ (H1 : Heap) (locs1 : List Loc), JL E B s n1 f1 H1 locs1 → W p l e R s m args below meth c H1 locs1 (cells + mc) (slots + ms) Q (F0 m (pc + 3) ls (rest))) : W p l e R s m args below meth c H locs cells slots Q (F0 m pc ls st) :=
  rcallI X hJ hC rfl (tw (i := 235) (by decide +kernel) (by decide)) ti_X5_init tn_5 tk_X5_init ⟨by decide +kernel, by decide +kernel, by rw [hn]; decide +kernel⟩ hls hfr hcs hst hW hdg kk
theorem kX2_22 (X : Cx p s m args c cc nL RX2 E B) (hJ : JL E B s n f H locs) (hC : Ct l yX5_copyFrom cX5_copyFrom 3 none fr lo mc ms E B (.ref (B + o) :: As) n f none n1 f1) (hn : As.length = 1) {fs : List Value} (ho : o < n) (hf : f o = .inr (5, fs)) (hls : ls.size = nL) (hfr : fr + 1 ≤ R.frames ∧ 8 + (3 + 11) + lo ≤ R.locals) (hcs : cells + mc ≤ R.cells ∧ slots + ms ≤ R.slots) (hst : st = As.reverse ++ .ref (B + o) :: rest) (hW : (rest.map fun v => v.category).sum ≤ 8) (hdg : decode cc pc = .ok (.invokevirtual 22, 3))
    (kk : ∀ (H1 : Heap) (locs1 : List Loc), JL E B s n1 f1 H1 locs1 → W p l e R s m args below meth c H1 locs1 (cells + mc) (slots + ms) Q (F0 m (pc + 3) ls (rest))) : W p l e R s m args below meth c H locs cells slots Q (F0 m pc ls st) :=
  rcallV X hJ hC (tw (i := 322) (by decide +kernel) (by decide)) ti_X5_copyFrom te_X5_copyFrom tn_5 tk_X5_copyFrom ⟨by decide +kernel, by decide +kernel, by rw [hn]; decide +kernel⟩ rfl rfl ho hf hls hfr hcs hst hW hdg kk
theorem tl_X2_29 : Cond.methodLink RX2 29 Lib.Math.min.name ∈ TW := tw (i := 354) (by decide +kernel) (by decide)
theorem kX3_3 (X : Cx p s m args c cc nL RX3 E B) (hls : ls.size = nL) (hfr : 1 ≤ R.frames ∧ (rest.map fun v => v.category).sum + 12 ≤ R.locals) (hcs : cells ≤ R.cells ∧ slots ≤ R.slots) (hdg : decode cc pc = .ok (.invokespecial 3, 3))
    (kk : W p l e R s m args below meth c H locs cells slots Q (F0 m (pc + 3) ls rest)) : W p l e R s m args below meth c H locs cells slots Q (F0 m pc ls (.ref b :: rest)) :=
  robj X (tw (i := 268) (by decide +kernel) (by decide)) tw_obj_i tw_obj_c hls hfr hcs hdg kk
theorem kX3_19 (X : Cx p s m args c cc nL RX3 E B) (hJ : JL E B s n f H locs) (hC : Ct l yX3_goToStart cX3_goToStart 1 none fr lo mc ms E B (.ref (B + o) :: As) n f none n1 f1) (hn : As.length = 0) {fs : List Value} (ho : o < n) (hf : f o = .inr (3, fs)) (hls : ls.size = nL) (hfr : fr + 1 ≤ R.frames ∧ 8 + (1 + 11) + lo ≤ R.locals) (hcs : cells + mc ≤ R.cells ∧ slots + ms ≤ R.slots) (hst : st = As.reverse ++ .ref (B + o) :: rest) (hW : (rest.map fun v => v.category).sum ≤ 8) (hdg : decode cc pc = .ok (.invokevirtual 19, 3))
    (kk : ∀ (H1 : Heap) (locs1 : List Loc), JL E B s n1 f1 H1 locs1 → W p l e R s m args below meth c H1 locs1 (cells + mc) (slots + ms) Q (F0 m (pc + 3) ls (rest))) : W p l e R s m args below meth c H locs cells slots Q (F0 m pc ls st) :=
  rcallV X hJ hC (tw (i := 666) (by decide +kernel) (by decide)) ti_X3_goToStart te_X3_goToStart tn_3 tk_X3_goToStart ⟨by decide +kernel, by decide +kernel, by rw [hn]; decide +kernel⟩ rfl rfl ho hf hls hfr hcs hst hW hdg kk
theorem kX3_22 (X : Cx p s m args c cc nL RX3 E B) (hJ : JL E B s n f H locs) (hC : Ct l yX3_readOrder cX3_readOrder 1 (some .boolean) fr lo mc ms E B (.ref (B + o) :: As) n f (some rv) n1 f1) (hn : As.length = 0) {fs : List Value} (ho : o < n) (hf : f o = .inr (3, fs)) (hls : ls.size = nL) (hfr : fr + 1 ≤ R.frames ∧ 8 + (1 + 11) + lo ≤ R.locals) (hcs : cells + mc ≤ R.cells ∧ slots + ms ≤ R.slots) (hst : st = As.reverse ++ .ref (B + o) :: rest) (hW : (rest.map fun v => v.category).sum ≤ 8) (hdg : decode cc pc = .ok (.invokevirtual 22, 3))
    (kk : ∀ (H1 : Heap) (locs1 : List Loc), JL E B s n1 f1 H1 locs1 → W p l e R s m args below meth c H1 locs1 (cells + mc) (slots + ms) Q (F0 m (pc + 3) ls (rv :: rest))) : W p l e R s m args below meth c H locs cells slots Q (F0 m pc ls st) :=
  rcallV X hJ hC (tw (i := 670) (by decide +kernel) (by decide)) ti_X3_readOrder te_X3_readOrder tn_3 tk_X3_readOrder ⟨by decide +kernel, by decide +kernel, by rw [hn]; decide +kernel⟩ rfl rfl ho hf hls hfr hcs hst hW hdg kk
theorem kX3_31 (X : Cx p s m args c cc nL RX3 E B) (hJ : JL E B s n f H locs) (hC : Ct l yX3_readSign cX3_readSign 3 (some .boolean) fr lo mc ms E B (.ref (B + o) :: As) n f (some rv) n1 f1) (hn : As.length = 1) {fs : List Value} (ho : o < n) (hf : f o = .inr (3, fs)) (hls : ls.size = nL) (hfr : fr + 1 ≤ R.frames ∧ 8 + (3 + 11) + lo ≤ R.locals) (hcs : cells + mc ≤ R.cells ∧ slots + ms ≤ R.slots) (hst : st = As.reverse ++ .ref (B + o) :: rest) (hW : (rest.map fun v => v.category).sum ≤ 8) (hdg : decode cc pc = .ok (.invokevirtual 31, 3))
    (kk : ∀ (H1 : Heap) (locs1 : List Loc), JL E B s n1 f1 H1 locs1 → W p l e R s m args below meth c H1 locs1 (cells + mc) (slots + ms) Q (F0 m (pc + 3) ls (rv :: rest))) : W p l e R s m args below meth c H locs cells slots Q (F0 m pc ls st) :=
  rcallV X hJ hC (tw (i := 690) (by decide +kernel) (by decide)) ti_X3_readSign te_X3_readSign tn_3 tk_X3_readSign ⟨by decide +kernel, by decide +kernel, by rw [hn]; decide +kernel⟩ rfl rfl ho hf hls hfr hcs hst hW hdg kk
theorem kX3_35 (X : Cx p s m args c cc nL RX3 E B) (hJ : JL E B s n f H locs) (hC : Ct l yX4_codeAt cX4_codeAt 2 (some .int) fr lo mc ms E B (.ref (B + o) :: As) n f (some rv) n1 f1) (hn : As.length = 1) {fs : List Value} (ho : o < n) (hf : f o = .inr (4, fs)) (hls : ls.size = nL) (hfr : fr + 1 ≤ R.frames ∧ 8 + (2 + 11) + lo ≤ R.locals) (hcs : cells + mc ≤ R.cells ∧ slots + ms ≤ R.slots) (hst : st = As.reverse ++ .ref (B + o) :: rest) (hW : (rest.map fun v => v.category).sum ≤ 8) (hdg : decode cc pc = .ok (.invokevirtual 35, 3))
    (kk : ∀ (H1 : Heap) (locs1 : List Loc), JL E B s n1 f1 H1 locs1 → W p l e R s m args below meth c H1 locs1 (cells + mc) (slots + ms) Q (F0 m (pc + 3) ls (rv :: rest))) : W p l e R s m args below meth c H locs cells slots Q (F0 m pc ls st) :=
  rcallV X hJ hC (tw (i := 674) (by decide +kernel) (by decide)) ti_X4_codeAt te_X4_codeAt tn_4 tk_X4_codeAt ⟨by decide +kernel, by decide +kernel, by rw [hn]; decide +kernel⟩ rfl rfl ho hf hls hfr hcs hst hW hdg kk
theorem kX3_42 (X : Cx p s m args c cc nL RX3 E B) (hJ : JL E B s n f H locs) (hC : Ct l yX3_isKind cX3_isKind 1 (some .boolean) fr lo mc ms E B As n f (some rv) n1 f1) (hn : As.length = 1) (hls : ls.size = nL) (hfr : fr + 1 ≤ R.frames ∧ 8 + (1 + 11) + lo ≤ R.locals) (hcs : cells + mc ≤ R.cells ∧ slots + ms ≤ R.slots) (hst : st = As.reverse ++ rest) (hW : (rest.map fun v => v.category).sum ≤ 8) (hdg : decode cc pc = .ok (.invokestatic 42, 3))
    (kk : ∀ (H1 : Heap) (locs1 : List Loc), JL E B s n1 f1 H1 locs1 → W p l e R s m args below meth c H1 locs1 (cells + mc) (slots + ms) Q (F0 m (pc + 3) ls (rv :: rest))) : W p l e R s m args below meth c H locs cells slots Q (F0 m pc ls st) :=
  rcallS X hJ hC rfl (tw (i := 675) (by decide +kernel) (by decide)) ts_X3_isKind tn_3 tk_X3_isKind ⟨by decide +kernel, by decide +kernel, by rw [hn]; decide +kernel⟩ hls hfr hcs hst hW hdg kk
theorem kX3_45 (X : Cx p s m args c cc nL RX3 E B) (hJ : JL E B s n f H locs) (hC : Ct l yX3_readDigitPair cX3_readDigitPair 1 (some .boolean) fr lo mc ms E B (.ref (B + o) :: As) n f (some rv) n1 f1) (hn : As.length = 0) {fs : List Value} (ho : o < n) (hf : f o = .inr (3, fs)) (hls : ls.size = nL) (hfr : fr + 1 ≤ R.frames ∧ 8 + (1 + 11) + lo ≤ R.locals) (hcs : cells + mc ≤ R.cells ∧ slots + ms ≤ R.slots) (hst : st = As.reverse ++ .ref (B + o) :: rest) (hW : (rest.map fun v => v.category).sum ≤ 8) (hdg : decode cc pc = .ok (.invokevirtual 45, 3))
    (kk : ∀ (H1 : Heap) (locs1 : List Loc), JL E B s n1 f1 H1 locs1 → W p l e R s m args below meth c H1 locs1 (cells + mc) (slots + ms) Q (F0 m (pc + 3) ls (rv :: rest))) : W p l e R s m args below meth c H locs cells slots Q (F0 m pc ls st) :=
  rcallV X hJ hC (tw (i := 678) (by decide +kernel) (by decide)) ti_X3_readDigitPair te_X3_readDigitPair tn_3 tk_X3_readDigitPair ⟨by decide +kernel, by decide +kernel, by rw [hn]; decide +kernel⟩ rfl rfl ho hf hls hfr hcs hst hW hdg kk
theorem kX3_48 (X : Cx p s m args c cc nL RX3 E B) (hJ : JL E B s n f H locs) (hC : Ct l yX3_readThird cX3_readThird 1 (some .boolean) fr lo mc ms E B (.ref (B + o) :: As) n f (some rv) n1 f1) (hn : As.length = 0) {fs : List Value} (ho : o < n) (hf : f o = .inr (3, fs)) (hls : ls.size = nL) (hfr : fr + 1 ≤ R.frames ∧ 8 + (1 + 11) + lo ≤ R.locals) (hcs : cells + mc ≤ R.cells ∧ slots + ms ≤ R.slots) (hst : st = As.reverse ++ .ref (B + o) :: rest) (hW : (rest.map fun v => v.category).sum ≤ 8) (hdg : decode cc pc = .ok (.invokevirtual 48, 3))
    (kk : ∀ (H1 : Heap) (locs1 : List Loc), JL E B s n1 f1 H1 locs1 → W p l e R s m args below meth c H1 locs1 (cells + mc) (slots + ms) Q (F0 m (pc + 3) ls (rv :: rest))) : W p l e R s m args below meth c H locs cells slots Q (F0 m pc ls st) :=
  rcallV X hJ hC (tw (i := 694) (by decide +kernel) (by decide)) ti_X3_readThird te_X3_readThird tn_3 tk_X3_readThird ⟨by decide +kernel, by decide +kernel, by rw [hn]; decide +kernel⟩ rfl rfl ho hf hls hfr hcs hst hW hdg kk
theorem kX3_51 (X : Cx p s m args c cc nL RX3 E B) (hJ : JL E B s n f H locs) (hC : Ct l yX3_readDigit cX3_readDigit 1 (some .boolean) fr lo mc ms E B (.ref (B + o) :: As) n f (some rv) n1 f1) (hn : As.length = 0) {fs : List Value} (ho : o < n) (hf : f o = .inr (3, fs)) (hls : ls.size = nL) (hfr : fr + 1 ≤ R.frames ∧ 8 + (1 + 11) + lo ≤ R.locals) (hcs : cells + mc ≤ R.cells ∧ slots + ms ≤ R.slots) (hst : st = As.reverse ++ .ref (B + o) :: rest) (hW : (rest.map fun v => v.category).sum ≤ 8) (hdg : decode cc pc = .ok (.invokevirtual 51, 3))
    (kk : ∀ (H1 : Heap) (locs1 : List Loc), JL E B s n1 f1 H1 locs1 → W p l e R s m args below meth c H1 locs1 (cells + mc) (slots + ms) Q (F0 m (pc + 3) ls (rv :: rest))) : W p l e R s m args below meth c H locs cells slots Q (F0 m pc ls st) :=
  rcallV X hJ hC (tw (i := 682) (by decide +kernel) (by decide)) ti_X3_readDigit te_X3_readDigit tn_3 tk_X3_readDigit ⟨by decide +kernel, by decide +kernel, by rw [hn]; decide +kernel⟩ rfl rfl ho hf hls hfr hcs hst hW hdg kk
theorem kX3_54 (X : Cx p s m args c cc nL RX3 E B) (hJ : JL E B s n f H locs) (hC : Ct l yX3_readSecond cX3_readSecond 1 (some .boolean) fr lo mc ms E B (.ref (B + o) :: As) n f (some rv) n1 f1) (hn : As.length = 0) {fs : List Value} (ho : o < n) (hf : f o = .inr (3, fs)) (hls : ls.size = nL) (hfr : fr + 1 ≤ R.frames ∧ 8 + (1 + 11) + lo ≤ R.locals) (hcs : cells + mc ≤ R.cells ∧ slots + ms ≤ R.slots) (hst : st = As.reverse ++ .ref (B + o) :: rest) (hW : (rest.map fun v => v.category).sum ≤ 8) (hdg : decode cc pc = .ok (.invokevirtual 54, 3))
    (kk : ∀ (H1 : Heap) (locs1 : List Loc), JL E B s n1 f1 H1 locs1 → W p l e R s m args below meth c H1 locs1 (cells + mc) (slots + ms) Q (F0 m (pc + 3) ls (rv :: rest))) : W p l e R s m args below meth c H locs cells slots Q (F0 m pc ls st) :=
  rcallV X hJ hC (tw (i := 702) (by decide +kernel) (by decide)) ti_X3_readSecond te_X3_readSecond tn_3 tk_X3_readSecond ⟨by decide +kernel, by decide +kernel, by rw [hn]; decide +kernel⟩ rfl rfl ho hf hls hfr hcs hst hW hdg kk
theorem kX3_57 (X : Cx p s m args c cc nL RX3 E B) (hJ : JL E B s n f H locs) (hC : Ct l yX3_readNumber cX3_readNumber 4 (some .int) fr lo mc ms E B (.ref (B + o) :: As) n f (some rv) n1 f1) (hn : As.length = 0) {fs : List Value} (ho : o < n) (hf : f o = .inr (3, fs)) (hls : ls.size = nL) (hfr : fr + 1 ≤ R.frames ∧ 8 + (4 + 11) + lo ≤ R.locals) (hcs : cells + mc ≤ R.cells ∧ slots + ms ≤ R.slots) (hst : st = As.reverse ++ .ref (B + o) :: rest) (hW : (rest.map fun v => v.category).sum ≤ 8) (hdg : decode cc pc = .ok (.invokevirtual 57, 3))
    (kk : ∀ (H1 : Heap) (locs1 : List Loc), JL E B s n1 f1 H1 locs1 → W p l e R s m args below meth c H1 locs1 (cells + mc) (slots + ms) Q (F0 m (pc + 3) ls (rv :: rest))) : W p l e R s m args below meth c H locs cells slots Q (F0 m pc ls st) :=
  rcallV X hJ hC (tw (i := 698) (by decide +kernel) (by decide)) ti_X3_readNumber te_X3_readNumber tn_3 tk_X3_readNumber ⟨by decide +kernel, by decide +kernel, by rw [hn]; decide +kernel⟩ rfl rfl ho hf hls hfr hcs hst hW hdg kk
theorem kX3_64 (X : Cx p s m args c cc nL RX3 E B) (hJ : JL E B s n f H locs) (hC : Ct l yX3_nextDigit cX3_nextDigit 2 (some .int) fr lo mc ms E B (.ref (B + o) :: As) n f (some rv) n1 f1) (hn : As.length = 0) {fs : List Value} (ho : o < n) (hf : f o = .inr (3, fs)) (hls : ls.size = nL) (hfr : fr + 1 ≤ R.frames ∧ 8 + (2 + 11) + lo ≤ R.locals) (hcs : cells + mc ≤ R.cells ∧ slots + ms ≤ R.slots) (hst : st = As.reverse ++ .ref (B + o) :: rest) (hW : (rest.map fun v => v.category).sum ≤ 8) (hdg : decode cc pc = .ok (.invokevirtual 64, 3))
    (kk : ∀ (H1 : Heap) (locs1 : List Loc), JL E B s n1 f1 H1 locs1 → W p l e R s m args below meth c H1 locs1 (cells + mc) (slots + ms) Q (F0 m (pc + 3) ls (rv :: rest))) : W p l e R s m args below meth c H locs cells slots Q (F0 m pc ls st) :=
  rcallV X hJ hC (tw (i := 686) (by decide +kernel) (by decide)) ti_X3_nextDigit te_X3_nextDigit tn_3 tk_X3_nextDigit ⟨by decide +kernel, by decide +kernel, by rw [hn]; decide +kernel⟩ rfl rfl ho hf hls hfr hcs hst hW hdg kk
theorem kX4_3 (X : Cx p s m args c cc nL RX4 E B) (hls : ls.size = nL) (hfr : 1 ≤ R.frames ∧ (rest.map fun v => v.category).sum + 12 ≤ R.locals) (hcs : cells ≤ R.cells ∧ slots ≤ R.slots) (hdg : decode cc pc = .ok (.invokespecial 3, 3))
    (kk : W p l e R s m args below meth c H locs cells slots Q (F0 m (pc + 3) ls rest)) : W p l e R s m args below meth c H locs cells slots Q (F0 m pc ls (.ref b :: rest)) :=
  robj X (tw (i := 252) (by decide +kernel) (by decide)) tw_obj_i tw_obj_c hls hfr hcs hdg kk
theorem kX4_20 (X : Cx p s m args c cc nL RX4 E B) (hJ : JL E B s n f H locs) (hC : Ct l yX4_append cX4_append 2 none fr lo mc ms E B (.ref (B + o) :: As) n f none n1 f1) (hn : As.length = 1) {fs : List Value} (ho : o < n) (hf : f o = .inr (4, fs)) (hls : ls.size = nL) (hfr : fr + 1 ≤ R.frames ∧ 8 + (2 + 11) + lo ≤ R.locals) (hcs : cells + mc ≤ R.cells ∧ slots + ms ≤ R.slots) (hst : st = As.reverse ++ .ref (B + o) :: rest) (hW : (rest.map fun v => v.category).sum ≤ 8) (hdg : decode cc pc = .ok (.invokevirtual 20, 3))
    (kk : ∀ (H1 : Heap) (locs1 : List Loc), JL E B s n1 f1 H1 locs1 → W p l e R s m args below meth c H1 locs1 (cells + mc) (slots + ms) Q (F0 m (pc + 3) ls (rest))) : W p l e R s m args below meth c H locs cells slots Q (F0 m pc ls st) :=
  rcallV X hJ hC (tw (i := 521) (by decide +kernel) (by decide)) ti_X4_append te_X4_append tn_4 tk_X4_append ⟨by decide +kernel, by decide +kernel, by rw [hn]; decide +kernel⟩ rfl rfl ho hf hls hfr hcs hst hW hdg kk
theorem kX5_3 (X : Cx p s m args c cc nL RX5 E B) (hls : ls.size = nL) (hfr : 1 ≤ R.frames ∧ (rest.map fun v => v.category).sum + 12 ≤ R.locals) (hcs : cells ≤ R.cells ∧ slots ≤ R.slots) (hdg : decode cc pc = .ok (.invokespecial 3, 3))
    (kk : W p l e R s m args below meth c H locs cells slots Q (F0 m (pc + 3) ls rest)) : W p l e R s m args below meth c H locs cells slots Q (F0 m pc ls (.ref b :: rest)) :=
  robj X (tw (i := 85) (by decide +kernel) (by decide)) tw_obj_i tw_obj_c hls hfr hcs hdg kk
theorem tl_X5_37 : Cond.methodLink RX5 37 arraycopyName ∈ TW := tw (i := 92) (by decide +kernel) (by decide)
theorem kX5_43 (X : Cx p s m args c cc nL RX5 E B) (hJ : JL E B s n f H locs) (hC : Ct l yX0_init cX0_init 2 none fr lo mc ms E B (.ref b :: As) n f none n1 f1) (hn : As.length = 1) (hls : ls.size = nL) (hfr : fr + 1 ≤ R.frames ∧ 8 + (2 + 11) + lo ≤ R.locals) (hcs : cells + mc ≤ R.cells ∧ slots + ms ≤ R.slots) (hst : st = As.reverse ++ .ref b :: rest) (hW : (rest.map fun v => v.category).sum ≤ 8) (hdg : decode cc pc = .ok (.invokespecial 43, 3))
    (kk : ∀ (H1 : Heap) (locs1 : List Loc), JL E B s n1 f1 H1 locs1 → W p l e R s m args below meth c H1 locs1 (cells + mc) (slots + ms) Q (F0 m (pc + 3) ls (rest))) : W p l e R s m args below meth c H locs cells slots Q (F0 m pc ls st) :=
  rcallI X hJ hC rfl (tw (i := 96) (by decide +kernel) (by decide)) ti_X0_init tn_0 tk_X0_init ⟨by decide +kernel, by decide +kernel, by rw [hn]; decide +kernel⟩ hls hfr hcs hst hW hdg kk
theorem kX5_46 (X : Cx p s m args c cc nL RX5 E B) (hJ : JL E B s n f H locs) (hC : Ct l yX1_init cX1_init 2 none fr lo mc ms E B (.ref b :: As) n f none n1 f1) (hn : As.length = 1) (hls : ls.size = nL) (hfr : fr + 1 ≤ R.frames ∧ 8 + (2 + 11) + lo ≤ R.locals) (hcs : cells + mc ≤ R.cells ∧ slots + ms ≤ R.slots) (hst : st = As.reverse ++ .ref b :: rest) (hW : (rest.map fun v => v.category).sum ≤ 8) (hdg : decode cc pc = .ok (.invokespecial 46, 3))
    (kk : ∀ (H1 : Heap) (locs1 : List Loc), JL E B s n1 f1 H1 locs1 → W p l e R s m args below meth c H1 locs1 (cells + mc) (slots + ms) Q (F0 m (pc + 3) ls (rest))) : W p l e R s m args below meth c H locs cells slots Q (F0 m pc ls st) :=
  rcallI X hJ hC rfl (tw (i := 144) (by decide +kernel) (by decide)) ti_X1_init tn_1 tk_X1_init ⟨by decide +kernel, by decide +kernel, by rw [hn]; decide +kernel⟩ hls hfr hcs hst hW hdg kk
theorem kX5_47 (X : Cx p s m args c cc nL RX5 E B) (hJ : JL E B s n f H locs) (hC : Ct l yX0_copyFrom cX0_copyFrom 2 none fr lo mc ms E B (.ref (B + o) :: As) n f none n1 f1) (hn : As.length = 1) {fs : List Value} (ho : o < n) (hf : f o = .inr (0, fs)) (hls : ls.size = nL) (hfr : fr + 1 ≤ R.frames ∧ 8 + (2 + 11) + lo ≤ R.locals) (hcs : cells + mc ≤ R.cells ∧ slots + ms ≤ R.slots) (hst : st = As.reverse ++ .ref (B + o) :: rest) (hW : (rest.map fun v => v.category).sum ≤ 8) (hdg : decode cc pc = .ok (.invokevirtual 47, 3))
    (kk : ∀ (H1 : Heap) (locs1 : List Loc), JL E B s n1 f1 H1 locs1 → W p l e R s m args below meth c H1 locs1 (cells + mc) (slots + ms) Q (F0 m (pc + 3) ls (rest))) : W p l e R s m args below meth c H locs cells slots Q (F0 m pc ls st) :=
  rcallV X hJ hC (tw (i := 326) (by decide +kernel) (by decide)) ti_X0_copyFrom te_X0_copyFrom tn_0 tk_X0_copyFrom ⟨by decide +kernel, by decide +kernel, by rw [hn]; decide +kernel⟩ rfl rfl ho hf hls hfr hcs hst hW hdg kk
theorem kX5_51 (X : Cx p s m args c cc nL RX5 E B) (hJ : JL E B s n f H locs) (hC : Ct l yX1_copyFrom cX1_copyFrom 2 none fr lo mc ms E B (.ref (B + o) :: As) n f none n1 f1) (hn : As.length = 1) {fs : List Value} (ho : o < n) (hf : f o = .inr (1, fs)) (hls : ls.size = nL) (hfr : fr + 1 ≤ R.frames ∧ 8 + (2 + 11) + lo ≤ R.locals) (hcs : cells + mc ≤ R.cells ∧ slots + ms ≤ R.slots) (hst : st = As.reverse ++ .ref (B + o) :: rest) (hW : (rest.map fun v => v.category).sum ≤ 8) (hdg : decode cc pc = .ok (.invokevirtual 51, 3))
    (kk : ∀ (H1 : Heap) (locs1 : List Loc), JL E B s n1 f1 H1 locs1 → W p l e R s m args below meth c H1 locs1 (cells + mc) (slots + ms) Q (F0 m (pc + 3) ls (rest))) : W p l e R s m args below meth c H locs cells slots Q (F0 m pc ls st) :=
  rcallV X hJ hC (tw (i := 330) (by decide +kernel) (by decide)) ti_X1_copyFrom te_X1_copyFrom tn_1 tk_X1_copyFrom ⟨by decide +kernel, by decide +kernel, by rw [hn]; decide +kernel⟩ rfl rfl ho hf hls hfr hcs hst hW hdg kk
theorem kX5_72 (X : Cx p s m args c cc nL RX5 E B) (hJ : JL E B s n f H locs) (hC : Ct l yX6_isBelow cX6_isBelow 2 (some .boolean) fr lo mc ms E B As n f (some rv) n1 f1) (hn : As.length = 2) (hls : ls.size = nL) (hfr : fr + 1 ≤ R.frames ∧ 8 + (2 + 11) + lo ≤ R.locals) (hcs : cells + mc ≤ R.cells ∧ slots + ms ≤ R.slots) (hst : st = As.reverse ++ rest) (hW : (rest.map fun v => v.category).sum ≤ 8) (hdg : decode cc pc = .ok (.invokestatic 72, 3))
    (kk : ∀ (H1 : Heap) (locs1 : List Loc), JL E B s n1 f1 H1 locs1 → W p l e R s m args below meth c H1 locs1 (cells + mc) (slots + ms) Q (F0 m (pc + 3) ls (rv :: rest))) : W p l e R s m args below meth c H locs cells slots Q (F0 m pc ls st) :=
  rcallSN X hJ hC X.2.2.2.2.2.2.1.2.2.2.2.1 ts_X6_isBelow tn_6 tk_X6_isBelow ⟨by decide +kernel, by decide +kernel, by rw [hn]; decide +kernel⟩ hls hfr hcs hst hW hdg kk
theorem kX5_91 (X : Cx p s m args c cc nL RX5 E B) (hJ : JL E B s n f H locs) (hC : Ct l yX5_drawRiddle cX5_drawRiddle 3 none fr lo mc ms E B (.ref (B + o) :: As) n f none n1 f1) (hn : As.length = 1) {fs : List Value} (ho : o < n) (hf : f o = .inr (5, fs)) (hls : ls.size = nL) (hfr : fr + 1 ≤ R.frames ∧ 8 + (3 + 11) + lo ≤ R.locals) (hcs : cells + mc ≤ R.cells ∧ slots + ms ≤ R.slots) (hst : st = As.reverse ++ .ref (B + o) :: rest) (hW : (rest.map fun v => v.category).sum ≤ 8) (hdg : decode cc pc = .ok (.invokevirtual 91, 3))
    (kk : ∀ (H1 : Heap) (locs1 : List Loc), JL E B s n1 f1 H1 locs1 → W p l e R s m args below meth c H1 locs1 (cells + mc) (slots + ms) Q (F0 m (pc + 3) ls (rest))) : W p l e R s m args below meth c H locs cells slots Q (F0 m pc ls st) :=
  rcallV X hJ hC (tw (i := 365) (by decide +kernel) (by decide)) ti_X5_drawRiddle te_X5_drawRiddle tn_5 tk_X5_drawRiddle ⟨by decide +kernel, by decide +kernel, by rw [hn]; decide +kernel⟩ rfl rfl ho hf hls hfr hcs hst hW hdg kk
theorem kX5_102 (X : Cx p s m args c cc nL RX5 E B) (hJ : JL E B s n f H locs) (hC : Ct l yX5_cartOf cX5_cartOf 2 (some (.object "BridgeWardens$Cart")) fr lo mc ms E B (.ref (B + o) :: As) n f (some rv) n1 f1) (hn : As.length = 1) {fs : List Value} (ho : o < n) (hf : f o = .inr (5, fs)) (hls : ls.size = nL) (hfr : fr + 1 ≤ R.frames ∧ 8 + (2 + 11) + lo ≤ R.locals) (hcs : cells + mc ≤ R.cells ∧ slots + ms ≤ R.slots) (hst : st = As.reverse ++ .ref (B + o) :: rest) (hW : (rest.map fun v => v.category).sum ≤ 8) (hdg : decode cc pc = .ok (.invokevirtual 102, 3))
    (kk : ∀ (H1 : Heap) (locs1 : List Loc), JL E B s n1 f1 H1 locs1 → W p l e R s m args below meth c H1 locs1 (cells + mc) (slots + ms) Q (F0 m (pc + 3) ls (rv :: rest))) : W p l e R s m args below meth c H locs cells slots Q (F0 m pc ls st) :=
  rcallV X hJ hC (tw (i := 394) (by decide +kernel) (by decide)) ti_X5_cartOf te_X5_cartOf tn_5 tk_X5_cartOf ⟨by decide +kernel, by decide +kernel, by rw [hn]; decide +kernel⟩ rfl rfl ho hf hls hfr hcs hst hW hdg kk
theorem kX5_106 (X : Cx p s m args c cc nL RX5 E B) (hJ : JL E B s n f H locs) (hC : Ct l yX5_bridgeOf cX5_bridgeOf 2 (some (.object "BridgeWardens$Bridge")) fr lo mc ms E B (.ref (B + o) :: As) n f (some rv) n1 f1) (hn : As.length = 1) {fs : List Value} (ho : o < n) (hf : f o = .inr (5, fs)) (hls : ls.size = nL) (hfr : fr + 1 ≤ R.frames ∧ 8 + (2 + 11) + lo ≤ R.locals) (hcs : cells + mc ≤ R.cells ∧ slots + ms ≤ R.slots) (hst : st = As.reverse ++ .ref (B + o) :: rest) (hW : (rest.map fun v => v.category).sum ≤ 8) (hdg : decode cc pc = .ok (.invokevirtual 106, 3))
    (kk : ∀ (H1 : Heap) (locs1 : List Loc), JL E B s n1 f1 H1 locs1 → W p l e R s m args below meth c H1 locs1 (cells + mc) (slots + ms) Q (F0 m (pc + 3) ls (rv :: rest))) : W p l e R s m args below meth c H locs cells slots Q (F0 m pc ls st) :=
  rcallV X hJ hC (tw (i := 398) (by decide +kernel) (by decide)) ti_X5_bridgeOf te_X5_bridgeOf tn_5 tk_X5_bridgeOf ⟨by decide +kernel, by decide +kernel, by rw [hn]; decide +kernel⟩ rfl rfl ho hf hls hfr hcs hst hW hdg kk
theorem kX5_110 (X : Cx p s m args c cc nL RX5 E B) (hJ : JL E B s n f H locs) (hC : Ct l yX1_isWaiting cX1_isWaiting 1 (some .boolean) fr lo mc ms E B (.ref (B + o) :: As) n f (some rv) n1 f1) (hn : As.length = 0) {fs : List Value} (ho : o < n) (hf : f o = .inr (1, fs)) (hls : ls.size = nL) (hfr : fr + 1 ≤ R.frames ∧ 8 + (1 + 11) + lo ≤ R.locals) (hcs : cells + mc ≤ R.cells ∧ slots + ms ≤ R.slots) (hst : st = As.reverse ++ .ref (B + o) :: rest) (hW : (rest.map fun v => v.category).sum ≤ 8) (hdg : decode cc pc = .ok (.invokevirtual 110, 3))
    (kk : ∀ (H1 : Heap) (locs1 : List Loc), JL E B s n1 f1 H1 locs1 → W p l e R s m args below meth c H1 locs1 (cells + mc) (slots + ms) Q (F0 m (pc + 3) ls (rv :: rest))) : W p l e R s m args below meth c H locs cells slots Q (F0 m pc ls st) :=
  rcallV X hJ hC (tw (i := 402) (by decide +kernel) (by decide)) ti_X1_isWaiting te_X1_isWaiting tn_1 tk_X1_isWaiting ⟨by decide +kernel, by decide +kernel, by rw [hn]; decide +kernel⟩ rfl rfl ho hf hls hfr hcs hst hW hdg kk
theorem kX5_114 (X : Cx p s m args c cc nL RX5 E B) (hJ : JL E B s n f H locs) (hC : Ct l yX0_isAt cX0_isAt 2 (some .boolean) fr lo mc ms E B (.ref (B + o) :: As) n f (some rv) n1 f1) (hn : As.length = 1) {fs : List Value} (ho : o < n) (hf : f o = .inr (0, fs)) (hls : ls.size = nL) (hfr : fr + 1 ≤ R.frames ∧ 8 + (2 + 11) + lo ≤ R.locals) (hcs : cells + mc ≤ R.cells ∧ slots + ms ≤ R.slots) (hst : st = As.reverse ++ .ref (B + o) :: rest) (hW : (rest.map fun v => v.category).sum ≤ 8) (hdg : decode cc pc = .ok (.invokevirtual 114, 3))
    (kk : ∀ (H1 : Heap) (locs1 : List Loc), JL E B s n1 f1 H1 locs1 → W p l e R s m args below meth c H1 locs1 (cells + mc) (slots + ms) Q (F0 m (pc + 3) ls (rv :: rest))) : W p l e R s m args below meth c H locs cells slots Q (F0 m pc ls st) :=
  rcallV X hJ hC (tw (i := 406) (by decide +kernel) (by decide)) ti_X0_isAt te_X0_isAt tn_0 tk_X0_isAt ⟨by decide +kernel, by decide +kernel, by rw [hn]; decide +kernel⟩ rfl rfl ho hf hls hfr hcs hst hW hdg kk
theorem kX5_127 (X : Cx p s m args c cc nL RX5 E B) (hJ : JL E B s n f H locs) (hC : Ct l yX5_release cX5_release 5 none fr lo mc ms E B (.ref (B + o) :: As) n f none n1 f1) (hn : As.length = 2) {fs : List Value} (ho : o < n) (hf : f o = .inr (5, fs)) (hls : ls.size = nL) (hfr : fr + 1 ≤ R.frames ∧ 8 + (5 + 11) + lo ≤ R.locals) (hcs : cells + mc ≤ R.cells ∧ slots + ms ≤ R.slots) (hst : st = As.reverse ++ .ref (B + o) :: rest) (hW : (rest.map fun v => v.category).sum ≤ 8) (hdg : decode cc pc = .ok (.invokevirtual 127, 3))
    (kk : ∀ (H1 : Heap) (locs1 : List Loc), JL E B s n1 f1 H1 locs1 → W p l e R s m args below meth c H1 locs1 (cells + mc) (slots + ms) Q (F0 m (pc + 3) ls (rest))) : W p l e R s m args below meth c H locs cells slots Q (F0 m pc ls st) :=
  rcallV X hJ hC (tw (i := 418) (by decide +kernel) (by decide)) ti_X5_release te_X5_release tn_5 tk_X5_release ⟨by decide +kernel, by decide +kernel, by rw [hn]; decide +kernel⟩ rfl rfl ho hf hls hfr hcs hst hW hdg kk
theorem kX5_131 (X : Cx p s m args c cc nL RX5 E B) (hJ : JL E B s n f H locs) (hC : Ct l yX1_numbersLeft cX1_numbersLeft 2 (some .int) fr lo mc ms E B (.ref (B + o) :: As) n f (some rv) n1 f1) (hn : As.length = 1) {fs : List Value} (ho : o < n) (hf : f o = .inr (1, fs)) (hls : ls.size = nL) (hfr : fr + 1 ≤ R.frames ∧ 8 + (2 + 11) + lo ≤ R.locals) (hcs : cells + mc ≤ R.cells ∧ slots + ms ≤ R.slots) (hst : st = As.reverse ++ .ref (B + o) :: rest) (hW : (rest.map fun v => v.category).sum ≤ 8) (hdg : decode cc pc = .ok (.invokevirtual 131, 3))
    (kk : ∀ (H1 : Heap) (locs1 : List Loc), JL E B s n1 f1 H1 locs1 → W p l e R s m args below meth c H1 locs1 (cells + mc) (slots + ms) Q (F0 m (pc + 3) ls (rv :: rest))) : W p l e R s m args below meth c H locs cells slots Q (F0 m pc ls st) :=
  rcallV X hJ hC (tw (i := 430) (by decide +kernel) (by decide)) ti_X1_numbersLeft te_X1_numbersLeft tn_1 tk_X1_numbersLeft ⟨by decide +kernel, by decide +kernel, by rw [hn]; decide +kernel⟩ rfl rfl ho hf hls hfr hcs hst hW hdg kk
theorem kX5_135 (X : Cx p s m args c cc nL RX5 E B) (hJ : JL E B s n f H locs) (hC : Ct l yX1_pay cX1_pay 3 none fr lo mc ms E B (.ref (B + o) :: As) n f none n1 f1) (hn : As.length = 2) {fs : List Value} (ho : o < n) (hf : f o = .inr (1, fs)) (hls : ls.size = nL) (hfr : fr + 1 ≤ R.frames ∧ 8 + (3 + 11) + lo ≤ R.locals) (hcs : cells + mc ≤ R.cells ∧ slots + ms ≤ R.slots) (hst : st = As.reverse ++ .ref (B + o) :: rest) (hW : (rest.map fun v => v.category).sum ≤ 8) (hdg : decode cc pc = .ok (.invokevirtual 135, 3))
    (kk : ∀ (H1 : Heap) (locs1 : List Loc), JL E B s n1 f1 H1 locs1 → W p l e R s m args below meth c H1 locs1 (cells + mc) (slots + ms) Q (F0 m (pc + 3) ls (rest))) : W p l e R s m args below meth c H locs cells slots Q (F0 m pc ls st) :=
  rcallV X hJ hC (tw (i := 442) (by decide +kernel) (by decide)) ti_X1_pay te_X1_pay tn_1 tk_X1_pay ⟨by decide +kernel, by decide +kernel, by rw [hn]; decide +kernel⟩ rfl rfl ho hf hls hfr hcs hst hW hdg kk
theorem kX5_139 (X : Cx p s m args c cc nL RX5 E B) (hJ : JL E B s n f H locs) (hC : Ct l yX1_halve cX1_halve 3 none fr lo mc ms E B (.ref (B + o) :: As) n f none n1 f1) (hn : As.length = 1) {fs : List Value} (ho : o < n) (hf : f o = .inr (1, fs)) (hls : ls.size = nL) (hfr : fr + 1 ≤ R.frames ∧ 8 + (3 + 11) + lo ≤ R.locals) (hcs : cells + mc ≤ R.cells ∧ slots + ms ≤ R.slots) (hst : st = As.reverse ++ .ref (B + o) :: rest) (hW : (rest.map fun v => v.category).sum ≤ 8) (hdg : decode cc pc = .ok (.invokevirtual 139, 3))
    (kk : ∀ (H1 : Heap) (locs1 : List Loc), JL E B s n1 f1 H1 locs1 → W p l e R s m args below meth c H1 locs1 (cells + mc) (slots + ms) Q (F0 m (pc + 3) ls (rest))) : W p l e R s m args below meth c H locs cells slots Q (F0 m pc ls st) :=
  rcallV X hJ hC (tw (i := 446) (by decide +kernel) (by decide)) ti_X1_halve te_X1_halve tn_1 tk_X1_halve ⟨by decide +kernel, by decide +kernel, by rw [hn]; decide +kernel⟩ rfl rfl ho hf hls hfr hcs hst hW hdg kk
theorem kX5_142 (X : Cx p s m args c cc nL RX5 E B) (hJ : JL E B s n f H locs) (hC : Ct l yX5_playHour cX5_playHour 3 (some .int) fr lo mc ms E B (.ref (B + o) :: As) n f (some rv) n1 f1) (hn : As.length = 0) {fs : List Value} (ho : o < n) (hf : f o = .inr (5, fs)) (hls : ls.size = nL) (hfr : fr + 1 ≤ R.frames ∧ 8 + (3 + 11) + lo ≤ R.locals) (hcs : cells + mc ≤ R.cells ∧ slots + ms ≤ R.slots) (hst : st = As.reverse ++ .ref (B + o) :: rest) (hW : (rest.map fun v => v.category).sum ≤ 8) (hdg : decode cc pc = .ok (.invokevirtual 142, 3))
    (kk : ∀ (H1 : Heap) (locs1 : List Loc), JL E B s n1 f1 H1 locs1 → W p l e R s m args below meth c H1 locs1 (cells + mc) (slots + ms) Q (F0 m (pc + 3) ls (rv :: rest))) : W p l e R s m args below meth c H locs cells slots Q (F0 m pc ls st) :=
  rcallV X hJ hC (tw (i := 458) (by decide +kernel) (by decide)) ti_X5_playHour te_X5_playHour tn_5 tk_X5_playHour ⟨by decide +kernel, by decide +kernel, by rw [hn]; decide +kernel⟩ rfl rfl ho hf hls hfr hcs hst hW hdg kk
theorem kX5_146 (X : Cx p s m args c cc nL RX5 E B) (hJ : JL E B s n f H locs) (hC : Ct l yX5_letOver cX5_letOver 4 (some .int) fr lo mc ms E B (.ref (B + o) :: As) n f (some rv) n1 f1) (hn : As.length = 1) {fs : List Value} (ho : o < n) (hf : f o = .inr (5, fs)) (hls : ls.size = nL) (hfr : fr + 1 ≤ R.frames ∧ 8 + (4 + 11) + lo ≤ R.locals) (hcs : cells + mc ≤ R.cells ∧ slots + ms ≤ R.slots) (hst : st = As.reverse ++ .ref (B + o) :: rest) (hW : (rest.map fun v => v.category).sum ≤ 8) (hdg : decode cc pc = .ok (.invokevirtual 146, 3))
    (kk : ∀ (H1 : Heap) (locs1 : List Loc), JL E B s n1 f1 H1 locs1 → W p l e R s m args below meth c H1 locs1 (cells + mc) (slots + ms) Q (F0 m (pc + 3) ls (rv :: rest))) : W p l e R s m args below meth c H locs cells slots Q (F0 m pc ls st) :=
  rcallV X hJ hC (tw (i := 462) (by decide +kernel) (by decide)) ti_X5_letOver te_X5_letOver tn_5 tk_X5_letOver ⟨by decide +kernel, by decide +kernel, by rw [hn]; decide +kernel⟩ rfl rfl ho hf hls hfr hcs hst hW hdg kk
theorem kX5_152 (X : Cx p s m args c cc nL RX5 E B) (hJ : JL E B s n f H locs) (hC : Ct l yX5_isTied cX5_isTied 4 (some .boolean) fr lo mc ms E B (.ref (B + o) :: As) n f (some rv) n1 f1) (hn : As.length = 1) {fs : List Value} (ho : o < n) (hf : f o = .inr (5, fs)) (hls : ls.size = nL) (hfr : fr + 1 ≤ R.frames ∧ 8 + (4 + 11) + lo ≤ R.locals) (hcs : cells + mc ≤ R.cells ∧ slots + ms ≤ R.slots) (hst : st = As.reverse ++ .ref (B + o) :: rest) (hW : (rest.map fun v => v.category).sum ≤ 8) (hdg : decode cc pc = .ok (.invokevirtual 152, 3))
    (kk : ∀ (H1 : Heap) (locs1 : List Loc), JL E B s n1 f1 H1 locs1 → W p l e R s m args below meth c H1 locs1 (cells + mc) (slots + ms) Q (F0 m (pc + 3) ls (rv :: rest))) : W p l e R s m args below meth c H locs cells slots Q (F0 m pc ls st) :=
  rcallV X hJ hC (tw (i := 466) (by decide +kernel) (by decide)) ti_X5_isTied te_X5_isTied tn_5 tk_X5_isTied ⟨by decide +kernel, by decide +kernel, by rw [hn]; decide +kernel⟩ rfl rfl ho hf hls hfr hcs hst hW hdg kk
theorem kX5_156 (X : Cx p s m args c cc nL RX5 E B) (hJ : JL E B s n f H locs) (hC : Ct l yX5_comerOver cX5_comerOver 5 (some (.object "BridgeWardens$Cart")) fr lo mc ms E B (.ref (B + o) :: As) n f (some rv) n1 f1) (hn : As.length = 1) {fs : List Value} (ho : o < n) (hf : f o = .inr (5, fs)) (hls : ls.size = nL) (hfr : fr + 1 ≤ R.frames ∧ 8 + (5 + 11) + lo ≤ R.locals) (hcs : cells + mc ≤ R.cells ∧ slots + ms ≤ R.slots) (hst : st = As.reverse ++ .ref (B + o) :: rest) (hW : (rest.map fun v => v.category).sum ≤ 8) (hdg : decode cc pc = .ok (.invokevirtual 156, 3))
    (kk : ∀ (H1 : Heap) (locs1 : List Loc), JL E B s n1 f1 H1 locs1 → W p l e R s m args below meth c H1 locs1 (cells + mc) (slots + ms) Q (F0 m (pc + 3) ls (rv :: rest))) : W p l e R s m args below meth c H locs cells slots Q (F0 m pc ls st) :=
  rcallV X hJ hC (tw (i := 481) (by decide +kernel) (by decide)) ti_X5_comerOver te_X5_comerOver tn_5 tk_X5_comerOver ⟨by decide +kernel, by decide +kernel, by rw [hn]; decide +kernel⟩ rfl rfl ho hf hls hfr hcs hst hW hdg kk
theorem tl_X5_163 : Cond.methodLink RX5 163 Lib.Math.min.name ∈ TW := tw (i := 489) (by decide +kernel) (by decide)
theorem kX5_172 (X : Cx p s m args c cc nL RX5 E B) (hJ : JL E B s n f H locs) (hC : Ct l yX1_takeGift cX1_takeGift 4 none fr lo mc ms E B (.ref (B + o) :: As) n f none n1 f1) (hn : As.length = 2) {fs : List Value} (ho : o < n) (hf : f o = .inr (1, fs)) (hls : ls.size = nL) (hfr : fr + 1 ≤ R.frames ∧ 8 + (4 + 11) + lo ≤ R.locals) (hcs : cells + mc ≤ R.cells ∧ slots + ms ≤ R.slots) (hst : st = As.reverse ++ .ref (B + o) :: rest) (hW : (rest.map fun v => v.category).sum ≤ 8) (hdg : decode cc pc = .ok (.invokevirtual 172, 3))
    (kk : ∀ (H1 : Heap) (locs1 : List Loc), JL E B s n1 f1 H1 locs1 → W p l e R s m args below meth c H1 locs1 (cells + mc) (slots + ms) Q (F0 m (pc + 3) ls (rest))) : W p l e R s m args below meth c H locs cells slots Q (F0 m pc ls st) :=
  rcallV X hJ hC (tw (i := 490) (by decide +kernel) (by decide)) ti_X1_takeGift te_X1_takeGift tn_1 tk_X1_takeGift ⟨by decide +kernel, by decide +kernel, by rw [hn]; decide +kernel⟩ rfl rfl ho hf hls hfr hcs hst hW hdg kk
theorem kX5_175 (X : Cx p s m args c cc nL RX5 E B) (hJ : JL E B s n f H locs) (hC : Ct l yX0_farFrom cX0_farFrom 2 (some .int) fr lo mc ms E B (.ref (B + o) :: As) n f (some rv) n1 f1) (hn : As.length = 1) {fs : List Value} (ho : o < n) (hf : f o = .inr (0, fs)) (hls : ls.size = nL) (hfr : fr + 1 ≤ R.frames ∧ 8 + (2 + 11) + lo ≤ R.locals) (hcs : cells + mc ≤ R.cells ∧ slots + ms ≤ R.slots) (hst : st = As.reverse ++ .ref (B + o) :: rest) (hW : (rest.map fun v => v.category).sum ≤ 8) (hdg : decode cc pc = .ok (.invokevirtual 175, 3))
    (kk : ∀ (H1 : Heap) (locs1 : List Loc), JL E B s n1 f1 H1 locs1 → W p l e R s m args below meth c H1 locs1 (cells + mc) (slots + ms) Q (F0 m (pc + 3) ls (rv :: rest))) : W p l e R s m args below meth c H locs cells slots Q (F0 m pc ls st) :=
  rcallV X hJ hC (tw (i := 495) (by decide +kernel) (by decide)) ti_X0_farFrom te_X0_farFrom tn_0 tk_X0_farFrom ⟨by decide +kernel, by decide +kernel, by rw [hn]; decide +kernel⟩ rfl rfl ho hf hls hfr hcs hst hW hdg kk
theorem kX5_183 (X : Cx p s m args c cc nL RX5 E B) (hJ : JL E B s n f H locs) (hC : Ct l yX5_waiterAt cX5_waiterAt 6 (some (.object "BridgeWardens$Cart")) fr lo mc ms E B (.ref (B + o) :: As) n f (some rv) n1 f1) (hn : As.length = 2) {fs : List Value} (ho : o < n) (hf : f o = .inr (5, fs)) (hls : ls.size = nL) (hfr : fr + 1 ≤ R.frames ∧ 8 + (6 + 11) + lo ≤ R.locals) (hcs : cells + mc ≤ R.cells ∧ slots + ms ≤ R.slots) (hst : st = As.reverse ++ .ref (B + o) :: rest) (hW : (rest.map fun v => v.category).sum ≤ 8) (hdg : decode cc pc = .ok (.invokevirtual 183, 3))
    (kk : ∀ (H1 : Heap) (locs1 : List Loc), JL E B s n1 f1 H1 locs1 → W p l e R s m args below meth c H1 locs1 (cells + mc) (slots + ms) Q (F0 m (pc + 3) ls (rv :: rest))) : W p l e R s m args below meth c H locs cells slots Q (F0 m pc ls st) :=
  rcallV X hJ hC (tw (i := 470) (by decide +kernel) (by decide)) ti_X5_waiterAt te_X5_waiterAt tn_5 tk_X5_waiterAt ⟨by decide +kernel, by decide +kernel, by rw [hn]; decide +kernel⟩ rfl rfl ho hf hls hfr hcs hst hW hdg kk
theorem kX5_187 (X : Cx p s m args c cc nL RX5 E B) (hJ : JL E B s n f H locs) (hC : Ct l yX0_distance cX0_distance 2 (some .int) fr lo mc ms E B (.ref (B + o) :: As) n f (some rv) n1 f1) (hn : As.length = 1) {fs : List Value} (ho : o < n) (hf : f o = .inr (0, fs)) (hls : ls.size = nL) (hfr : fr + 1 ≤ R.frames ∧ 8 + (2 + 11) + lo ≤ R.locals) (hcs : cells + mc ≤ R.cells ∧ slots + ms ≤ R.slots) (hst : st = As.reverse ++ .ref (B + o) :: rest) (hW : (rest.map fun v => v.category).sum ≤ 8) (hdg : decode cc pc = .ok (.invokevirtual 187, 3))
    (kk : ∀ (H1 : Heap) (locs1 : List Loc), JL E B s n1 f1 H1 locs1 → W p l e R s m args below meth c H1 locs1 (cells + mc) (slots + ms) Q (F0 m (pc + 3) ls (rv :: rest))) : W p l e R s m args below meth c H locs cells slots Q (F0 m pc ls st) :=
  rcallV X hJ hC (tw (i := 474) (by decide +kernel) (by decide)) ti_X0_distance te_X0_distance tn_0 tk_X0_distance ⟨by decide +kernel, by decide +kernel, by rw [hn]; decide +kernel⟩ rfl rfl ho hf hls hfr hcs hst hW hdg kk
theorem kX5_190 (X : Cx p s m args c cc nL RX5 E B) (hJ : JL E B s n f H locs) (hC : Ct l yX5_payerOfTie cX5_payerOfTie 5 (some (.object "BridgeWardens$Cart")) fr lo mc ms E B (.ref (B + o) :: As) n f (some rv) n1 f1) (hn : As.length = 2) {fs : List Value} (ho : o < n) (hf : f o = .inr (5, fs)) (hls : ls.size = nL) (hfr : fr + 1 ≤ R.frames ∧ 8 + (5 + 11) + lo ≤ R.locals) (hcs : cells + mc ≤ R.cells ∧ slots + ms ≤ R.slots) (hst : st = As.reverse ++ .ref (B + o) :: rest) (hW : (rest.map fun v => v.category).sum ≤ 8) (hdg : decode cc pc = .ok (.invokevirtual 190, 3))
    (kk : ∀ (H1 : Heap) (locs1 : List Loc), JL E B s n1 f1 H1 locs1 → W p l e R s m args below meth c H1 locs1 (cells + mc) (slots + ms) Q (F0 m (pc + 3) ls (rv :: rest))) : W p l e R s m args below meth c H locs cells slots Q (F0 m pc ls st) :=
  rcallV X hJ hC (tw (i := 485) (by decide +kernel) (by decide)) ti_X5_payerOfTie te_X5_payerOfTie tn_5 tk_X5_payerOfTie ⟨by decide +kernel, by decide +kernel, by rw [hn]; decide +kernel⟩ rfl rfl ho hf hls hfr hcs hst hW hdg kk
theorem kX5_195 (X : Cx p s m args c cc nL RX5 E B) (hJ : JL E B s n f H locs) (hC : Ct l yX0_takeRiddle cX0_takeRiddle 2 none fr lo mc ms E B (.ref (B + o) :: As) n f none n1 f1) (hn : As.length = 1) {fs : List Value} (ho : o < n) (hf : f o = .inr (0, fs)) (hls : ls.size = nL) (hfr : fr + 1 ≤ R.frames ∧ 8 + (2 + 11) + lo ≤ R.locals) (hcs : cells + mc ≤ R.cells ∧ slots + ms ≤ R.slots) (hst : st = As.reverse ++ .ref (B + o) :: rest) (hW : (rest.map fun v => v.category).sum ≤ 8) (hdg : decode cc pc = .ok (.invokevirtual 195, 3))
    (kk : ∀ (H1 : Heap) (locs1 : List Loc), JL E B s n1 f1 H1 locs1 → W p l e R s m args below meth c H1 locs1 (cells + mc) (slots + ms) Q (F0 m (pc + 3) ls (rest))) : W p l e R s m args below meth c H locs cells slots Q (F0 m pc ls st) :=
  rcallV X hJ hC (tw (i := 370) (by decide +kernel) (by decide)) ti_X0_takeRiddle te_X0_takeRiddle tn_0 tk_X0_takeRiddle ⟨by decide +kernel, by decide +kernel, by rw [hn]; decide +kernel⟩ rfl rfl ho hf hls hfr hcs hst hW hdg kk
theorem kX5_198 (X : Cx p s m args c cc nL RX5 E B) (hJ : JL E B s n f H locs) (hC : Ct l yX1_forget cX1_forget 2 none fr lo mc ms E B (.ref (B + o) :: As) n f none n1 f1) (hn : As.length = 1) {fs : List Value} (ho : o < n) (hf : f o = .inr (1, fs)) (hls : ls.size = nL) (hfr : fr + 1 ≤ R.frames ∧ 8 + (2 + 11) + lo ≤ R.locals) (hcs : cells + mc ≤ R.cells ∧ slots + ms ≤ R.slots) (hst : st = As.reverse ++ .ref (B + o) :: rest) (hW : (rest.map fun v => v.category).sum ≤ 8) (hdg : decode cc pc = .ok (.invokevirtual 198, 3))
    (kk : ∀ (H1 : Heap) (locs1 : List Loc), JL E B s n1 f1 H1 locs1 → W p l e R s m args below meth c H1 locs1 (cells + mc) (slots + ms) Q (F0 m (pc + 3) ls (rest))) : W p l e R s m args below meth c H locs cells slots Q (F0 m pc ls st) :=
  rcallV X hJ hC (tw (i := 374) (by decide +kernel) (by decide)) ti_X1_forget te_X1_forget tn_1 tk_X1_forget ⟨by decide +kernel, by decide +kernel, by rw [hn]; decide +kernel⟩ rfl rfl ho hf hls hfr hcs hst hW hdg kk
theorem kX5_201 (X : Cx p s m args c cc nL RX5 E B) (hJ : JL E B s n f H locs) (hC : Ct l yX5_waitingSet cX5_waitingSet 3 (some .int) fr lo mc ms E B (.ref (B + o) :: As) n f (some rv) n1 f1) (hn : As.length = 0) {fs : List Value} (ho : o < n) (hf : f o = .inr (5, fs)) (hls : ls.size = nL) (hfr : fr + 1 ≤ R.frames ∧ 8 + (3 + 11) + lo ≤ R.locals) (hcs : cells + mc ≤ R.cells ∧ slots + ms ≤ R.slots) (hst : st = As.reverse ++ .ref (B + o) :: rest) (hW : (rest.map fun v => v.category).sum ≤ 8) (hdg : decode cc pc = .ok (.invokevirtual 201, 3))
    (kk : ∀ (H1 : Heap) (locs1 : List Loc), JL E B s n1 f1 H1 locs1 → W p l e R s m args below meth c H1 locs1 (cells + mc) (slots + ms) Q (F0 m (pc + 3) ls (rv :: rest))) : W p l e R s m args below meth c H locs cells slots Q (F0 m pc ls st) :=
  rcallV X hJ hC (tw (i := 571) (by decide +kernel) (by decide)) ti_X5_waitingSet te_X5_waitingSet tn_5 tk_X5_waitingSet ⟨by decide +kernel, by decide +kernel, by rw [hn]; decide +kernel⟩ rfl rfl ho hf hls hfr hcs hst hW hdg kk
theorem kX5_204 (X : Cx p s m args c cc nL RX5 E B) (hJ : JL E B s n f H locs) (hC : Ct l yX5_sumOverBridges cX5_sumOverBridges 4 (some .int) fr lo mc ms E B (.ref (B + o) :: As) n f (some rv) n1 f1) (hn : As.length = 1) {fs : List Value} (ho : o < n) (hf : f o = .inr (5, fs)) (hls : ls.size = nL) (hfr : fr + 1 ≤ R.frames ∧ 8 + (4 + 11) + lo ≤ R.locals) (hcs : cells + mc ≤ R.cells ∧ slots + ms ≤ R.slots) (hst : st = As.reverse ++ .ref (B + o) :: rest) (hW : (rest.map fun v => v.category).sum ≤ 8) (hdg : decode cc pc = .ok (.invokevirtual 204, 3))
    (kk : ∀ (H1 : Heap) (locs1 : List Loc), JL E B s n1 f1 H1 locs1 → W p l e R s m args below meth c H1 locs1 (cells + mc) (slots + ms) Q (F0 m (pc + 3) ls (rv :: rest))) : W p l e R s m args below meth c H locs cells slots Q (F0 m pc ls st) :=
  rcallV X hJ hC (tw (i := 575) (by decide +kernel) (by decide)) ti_X5_sumOverBridges te_X5_sumOverBridges tn_5 tk_X5_sumOverBridges ⟨by decide +kernel, by decide +kernel, by rw [hn]; decide +kernel⟩ rfl rfl ho hf hls hfr hcs hst hW hdg kk
theorem kX5_207 (X : Cx p s m args c cc nL RX5 E B) (hJ : JL E B s n f H locs) (hC : Ct l yX5_sumOverCarts cX5_sumOverCarts 4 (some .int) fr lo mc ms E B (.ref (B + o) :: As) n f (some rv) n1 f1) (hn : As.length = 1) {fs : List Value} (ho : o < n) (hf : f o = .inr (5, fs)) (hls : ls.size = nL) (hfr : fr + 1 ≤ R.frames ∧ 8 + (4 + 11) + lo ≤ R.locals) (hcs : cells + mc ≤ R.cells ∧ slots + ms ≤ R.slots) (hst : st = As.reverse ++ .ref (B + o) :: rest) (hW : (rest.map fun v => v.category).sum ≤ 8) (hdg : decode cc pc = .ok (.invokevirtual 207, 3))
    (kk : ∀ (H1 : Heap) (locs1 : List Loc), JL E B s n1 f1 H1 locs1 → W p l e R s m args below meth c H1 locs1 (cells + mc) (slots + ms) Q (F0 m (pc + 3) ls (rv :: rest))) : W p l e R s m args below meth c H locs cells slots Q (F0 m pc ls st) :=
  rcallV X hJ hC (tw (i := 580) (by decide +kernel) (by decide)) ti_X5_sumOverCarts te_X5_sumOverCarts tn_5 tk_X5_sumOverCarts ⟨by decide +kernel, by decide +kernel, by rw [hn]; decide +kernel⟩ rfl rfl ho hf hls hfr hcs hst hW hdg kk
theorem kX5_210 (X : Cx p s m args c cc nL RX5 E B) (hJ : JL E B s n f H locs) (hC : Ct l yX1_part cX1_part 2 (some .int) fr lo mc ms E B (.ref (B + o) :: As) n f (some rv) n1 f1) (hn : As.length = 1) {fs : List Value} (ho : o < n) (hf : f o = .inr (1, fs)) (hls : ls.size = nL) (hfr : fr + 1 ≤ R.frames ∧ 8 + (2 + 11) + lo ≤ R.locals) (hcs : cells + mc ≤ R.cells ∧ slots + ms ≤ R.slots) (hst : st = As.reverse ++ .ref (B + o) :: rest) (hW : (rest.map fun v => v.category).sum ≤ 8) (hdg : decode cc pc = .ok (.invokevirtual 210, 3))
    (kk : ∀ (H1 : Heap) (locs1 : List Loc), JL E B s n1 f1 H1 locs1 → W p l e R s m args below meth c H1 locs1 (cells + mc) (slots + ms) Q (F0 m (pc + 3) ls (rv :: rest))) : W p l e R s m args below meth c H locs cells slots Q (F0 m pc ls st) :=
  rcallV X hJ hC (tw (i := 584) (by decide +kernel) (by decide)) ti_X1_part te_X1_part tn_1 tk_X1_part ⟨by decide +kernel, by decide +kernel, by rw [hn]; decide +kernel⟩ rfl rfl ho hf hls hfr hcs hst hW hdg kk
theorem kX5_213 (X : Cx p s m args c cc nL RX5 E B) (hJ : JL E B s n f H locs) (hC : Ct l yX0_part cX0_part 2 (some .int) fr lo mc ms E B (.ref (B + o) :: As) n f (some rv) n1 f1) (hn : As.length = 1) {fs : List Value} (ho : o < n) (hf : f o = .inr (0, fs)) (hls : ls.size = nL) (hfr : fr + 1 ≤ R.frames ∧ 8 + (2 + 11) + lo ≤ R.locals) (hcs : cells + mc ≤ R.cells ∧ slots + ms ≤ R.slots) (hst : st = As.reverse ++ .ref (B + o) :: rest) (hW : (rest.map fun v => v.category).sum ≤ 8) (hdg : decode cc pc = .ok (.invokevirtual 213, 3))
    (kk : ∀ (H1 : Heap) (locs1 : List Loc), JL E B s n1 f1 H1 locs1 → W p l e R s m args below meth c H1 locs1 (cells + mc) (slots + ms) Q (F0 m (pc + 3) ls (rv :: rest))) : W p l e R s m args below meth c H locs cells slots Q (F0 m pc ls st) :=
  rcallV X hJ hC (tw (i := 579) (by decide +kernel) (by decide)) ti_X0_part te_X0_part tn_0 tk_X0_part ⟨by decide +kernel, by decide +kernel, by rw [hn]; decide +kernel⟩ rfl rfl ho hf hls hfr hcs hst hW hdg kk
theorem kX5_214 (X : Cx p s m args c cc nL RX5 E B) (hJ : JL E B s n f H locs) (hC : Ct l yX5_withNeighbours cX5_withNeighbours 5 (some .int) fr lo mc ms E B (.ref (B + o) :: As) n f (some rv) n1 f1) (hn : As.length = 1) {fs : List Value} (ho : o < n) (hf : f o = .inr (5, fs)) (hls : ls.size = nL) (hfr : fr + 1 ≤ R.frames ∧ 8 + (5 + 11) + lo ≤ R.locals) (hcs : cells + mc ≤ R.cells ∧ slots + ms ≤ R.slots) (hst : st = As.reverse ++ .ref (B + o) :: rest) (hW : (rest.map fun v => v.category).sum ≤ 8) (hdg : decode cc pc = .ok (.invokevirtual 214, 3))
    (kk : ∀ (H1 : Heap) (locs1 : List Loc), JL E B s n1 f1 H1 locs1 → W p l e R s m args below meth c H1 locs1 (cells + mc) (slots + ms) Q (F0 m (pc + 3) ls (rv :: rest))) : W p l e R s m args below meth c H locs cells slots Q (F0 m pc ls st) :=
  rcallV X hJ hC (tw (i := 628) (by decide +kernel) (by decide)) ti_X5_withNeighbours te_X5_withNeighbours tn_5 tk_X5_withNeighbours ⟨by decide +kernel, by decide +kernel, by rw [hn]; decide +kernel⟩ rfl rfl ho hf hls hfr hcs hst hW hdg kk
theorem kX5_217 (X : Cx p s m args c cc nL RX5 E B) (hJ : JL E B s n f H locs) (hC : Ct l yX0_endsSet cX0_endsSet 1 (some .int) fr lo mc ms E B (.ref (B + o) :: As) n f (some rv) n1 f1) (hn : As.length = 0) {fs : List Value} (ho : o < n) (hf : f o = .inr (0, fs)) (hls : ls.size = nL) (hfr : fr + 1 ≤ R.frames ∧ 8 + (1 + 11) + lo ≤ R.locals) (hcs : cells + mc ≤ R.cells ∧ slots + ms ≤ R.slots) (hst : st = As.reverse ++ .ref (B + o) :: rest) (hW : (rest.map fun v => v.category).sum ≤ 8) (hdg : decode cc pc = .ok (.invokevirtual 217, 3))
    (kk : ∀ (H1 : Heap) (locs1 : List Loc), JL E B s n1 f1 H1 locs1 → W p l e R s m args below meth c H1 locs1 (cells + mc) (slots + ms) Q (F0 m (pc + 3) ls (rv :: rest))) : W p l e R s m args below meth c H locs cells slots Q (F0 m pc ls st) :=
  rcallV X hJ hC (tw (i := 632) (by decide +kernel) (by decide)) ti_X0_endsSet te_X0_endsSet tn_0 tk_X0_endsSet ⟨by decide +kernel, by decide +kernel, by rw [hn]; decide +kernel⟩ rfl rfl ho hf hls hfr hcs hst hW hdg kk
theorem kX5_220 (X : Cx p s m args c cc nL RX5 E B) (hJ : JL E B s n f H locs) (hC : Ct l yX5_stepsBetween cX5_stepsBetween 5 (some .int) fr lo mc ms E B (.ref (B + o) :: As) n f (some rv) n1 f1) (hn : As.length = 2) {fs : List Value} (ho : o < n) (hf : f o = .inr (5, fs)) (hls : ls.size = nL) (hfr : fr + 1 ≤ R.frames ∧ 8 + (5 + 11) + lo ≤ R.locals) (hcs : cells + mc ≤ R.cells ∧ slots + ms ≤ R.slots) (hst : st = As.reverse ++ .ref (B + o) :: rest) (hW : (rest.map fun v => v.category).sum ≤ 8) (hdg : decode cc pc = .ok (.invokevirtual 220, 3))
    (kk : ∀ (H1 : Heap) (locs1 : List Loc), JL E B s n1 f1 H1 locs1 → W p l e R s m args below meth c H1 locs1 (cells + mc) (slots + ms) Q (F0 m (pc + 3) ls (rv :: rest))) : W p l e R s m args below meth c H locs cells slots Q (F0 m pc ls st) :=
  rcallV X hJ hC (tw (i := 640) (by decide +kernel) (by decide)) ti_X5_stepsBetween te_X5_stepsBetween tn_5 tk_X5_stepsBetween ⟨by decide +kernel, by decide +kernel, by rw [hn]; decide +kernel⟩ rfl rfl ho hf hls hfr hcs hst hW hdg kk
theorem kL_9 (X : Cx p s m args c cc nL RL E B) (hJ : JL E B s n f H locs) (hC : Ct l yX6_init cX6_init 1 none fr lo mc ms E B (.ref b :: As) n f none n1 f1) (hn : As.length = 0) (hls : ls.size = nL) (hfr : fr + 1 ≤ R.frames ∧ 8 + (1 + 11) + lo ≤ R.locals) (hcs : cells + mc ≤ R.cells ∧ slots + ms ≤ R.slots) (hst : st = As.reverse ++ .ref b :: rest) (hW : (rest.map fun v => v.category).sum ≤ 8) (hdg : decode cc pc = .ok (.invokespecial 9, 3))
    (kk : ∀ (H1 : Heap) (locs1 : List Loc), JL E B s n1 f1 H1 locs1 → W p l e R s m args below meth c H1 locs1 (cells + mc) (slots + ms) Q (F0 m (pc + 3) ls (rest))) : W p l e R s m args below meth c H locs cells slots Q (F0 m pc ls st) :=
  rcallI X hJ hC rfl (tw (i := 74) (by decide +kernel) (by decide)) ti_X6_init tn_6 tk_X6_init ⟨by decide +kernel, by decide +kernel, by rw [hn]; decide +kernel⟩ hls hfr hcs hst hW hdg kk
theorem kL_12 (X : Cx p s m args c cc nL RL E B) (hJ : JL E B s n f H locs) (hC : Ct l yX7_init cX7_init 1 none fr lo mc ms E B (.ref b :: As) n f none n1 f1) (hn : As.length = 0) (hls : ls.size = nL) (hfr : fr + 1 ≤ R.frames ∧ 8 + (1 + 11) + lo ≤ R.locals) (hcs : cells + mc ≤ R.cells ∧ slots + ms ≤ R.slots) (hst : st = As.reverse ++ .ref b :: rest) (hW : (rest.map fun v => v.category).sum ≤ 8) (hdg : decode cc pc = .ok (.invokespecial 12, 3))
    (kk : ∀ (H1 : Heap) (locs1 : List Loc), JL E B s n1 f1 H1 locs1 → W p l e R s m args below meth c H1 locs1 (cells + mc) (slots + ms) Q (F0 m (pc + 3) ls (rest))) : W p l e R s m args below meth c H locs cells slots Q (F0 m pc ls st) :=
  rcallI X hJ hC rfl (tw (i := 735) (by decide +kernel) (by decide)) ti_X7_init tn_7 tk_X7_init ⟨by decide +kernel, by decide +kernel, by rw [hn]; decide +kernel⟩ hls hfr hcs hst hW hdg kk
theorem kL_13 (X : Cx p s m args c cc nL RL E B) (hJ : JL E B s n f H locs) (hC : Ct l yX6_set cX6_set 3 (some .int) fr lo mc ms E B (.ref (B + o) :: As) n f (some rv) n1 f1) (hn : As.length = 2) {fs : List Value} (ho : o < n) (hf : f o = .inr (6, fs)) (hls : ls.size = nL) (hfr : fr + 1 ≤ R.frames ∧ 8 + (3 + 11) + lo ≤ R.locals) (hcs : cells + mc ≤ R.cells ∧ slots + ms ≤ R.slots) (hst : st = As.reverse ++ .ref (B + o) :: rest) (hW : (rest.map fun v => v.category).sum ≤ 8) (hdg : decode cc pc = .ok (.invokevirtual 13, 3))
    (kk : ∀ (H1 : Heap) (locs1 : List Loc), JL E B s n1 f1 H1 locs1 → W p l e R s m args below meth c H1 locs1 (cells + mc) (slots + ms) Q (F0 m (pc + 3) ls (rv :: rest))) : W p l e R s m args below meth c H locs cells slots Q (F0 m pc ls st) :=
  rcallV X hJ hC (tw (i := 314) (by decide +kernel) (by decide)) ti_X6_set te_X6_set tn_6 tk_X6_set ⟨by decide +kernel, by decide +kernel, by rw [hn]; decide +kernel⟩ rfl rfl ho hf hls hfr hcs hst hW hdg kk
theorem kL_17 (X : Cx p s m args c cc nL RL E B) (hJ : JL E B s n f H locs) (hC : Ct l yX7_set cX7_set 4 (some .int) fr lo mc ms E B (.ref (B + o) :: As) n f (some rv) n1 f1) (hn : As.length = 2) {fs : List Value} (ho : o < n) (hf : f o = .inr (7, fs)) (hls : ls.size = nL) (hfr : fr + 1 ≤ R.frames ∧ 8 + (4 + 11) + lo ≤ R.locals) (hcs : cells + mc ≤ R.cells ∧ slots + ms ≤ R.slots) (hst : st = As.reverse ++ .ref (B + o) :: rest) (hW : (rest.map fun v => v.category).sum ≤ 8) (hdg : decode cc pc = .ok (.invokevirtual 17, 3))
    (kk : ∀ (H1 : Heap) (locs1 : List Loc), JL E B s n1 f1 H1 locs1 → W p l e R s m args below meth c H1 locs1 (cells + mc) (slots + ms) Q (F0 m (pc + 3) ls (rv :: rest))) : W p l e R s m args below meth c H locs cells slots Q (F0 m pc ls st) :=
  rcallV X hJ hC (tw (i := 773) (by decide +kernel) (by decide)) ti_X7_set te_X7_set tn_7 tk_X7_set ⟨by decide +kernel, by decide +kernel, by rw [hn]; decide +kernel⟩ rfl rfl ho hf hls hfr hcs hst hW hdg kk
theorem kL_18 (X : Cx p s m args c cc nL RL E B) (hJ : JL E B s n f H locs) (hC : Ct l yX6_bridge cX6_bridge 4 (some .int) fr lo mc ms E B (.ref (B + o) :: As) n f (some rv) n1 f1) (hn : As.length = 3) {fs : List Value} (ho : o < n) (hf : f o = .inr (6, fs)) (hls : ls.size = nL) (hfr : fr + 1 ≤ R.frames ∧ 8 + (4 + 11) + lo ≤ R.locals) (hcs : cells + mc ≤ R.cells ∧ slots + ms ≤ R.slots) (hst : st = As.reverse ++ .ref (B + o) :: rest) (hW : (rest.map fun v => v.category).sum ≤ 8) (hdg : decode cc pc = .ok (.invokevirtual 18, 3))
    (kk : ∀ (H1 : Heap) (locs1 : List Loc), JL E B s n1 f1 H1 locs1 → W p l e R s m args below meth c H1 locs1 (cells + mc) (slots + ms) Q (F0 m (pc + 3) ls (rv :: rest))) : W p l e R s m args below meth c H locs cells slots Q (F0 m pc ls st) :=
  rcallV X hJ hC (tw (i := 357) (by decide +kernel) (by decide)) ti_X6_bridge te_X6_bridge tn_6 tk_X6_bridge ⟨by decide +kernel, by decide +kernel, by rw [hn]; decide +kernel⟩ rfl rfl ho hf hls hfr hcs hst hW hdg kk
theorem kL_22 (X : Cx p s m args c cc nL RL E B) (hJ : JL E B s n f H locs) (hC : Ct l yX7_bridge cX7_bridge 5 (some .int) fr lo mc ms E B (.ref (B + o) :: As) n f (some rv) n1 f1) (hn : As.length = 3) {fs : List Value} (ho : o < n) (hf : f o = .inr (7, fs)) (hls : ls.size = nL) (hfr : fr + 1 ≤ R.frames ∧ 8 + (5 + 11) + lo ≤ R.locals) (hcs : cells + mc ≤ R.cells ∧ slots + ms ≤ R.slots) (hst : st = As.reverse ++ .ref (B + o) :: rest) (hW : (rest.map fun v => v.category).sum ≤ 8) (hdg : decode cc pc = .ok (.invokevirtual 22, 3))
    (kk : ∀ (H1 : Heap) (locs1 : List Loc), JL E B s n1 f1 H1 locs1 → W p l e R s m args below meth c H1 locs1 (cells + mc) (slots + ms) Q (F0 m (pc + 3) ls (rv :: rest))) : W p l e R s m args below meth c H locs cells slots Q (F0 m pc ls st) :=
  rcallV X hJ hC (tw (i := 793) (by decide +kernel) (by decide)) ti_X7_bridge te_X7_bridge tn_7 tk_X7_bridge ⟨by decide +kernel, by decide +kernel, by rw [hn]; decide +kernel⟩ rfl rfl ho hf hls hfr hcs hst hW hdg kk
theorem kL_23 (X : Cx p s m args c cc nL RL E B) (hJ : JL E B s n f H locs) (hC : Ct l yX6_cart cX6_cart 3 (some .int) fr lo mc ms E B (.ref (B + o) :: As) n f (some rv) n1 f1) (hn : As.length = 2) {fs : List Value} (ho : o < n) (hf : f o = .inr (6, fs)) (hls : ls.size = nL) (hfr : fr + 1 ≤ R.frames ∧ 8 + (3 + 11) + lo ≤ R.locals) (hcs : cells + mc ≤ R.cells ∧ slots + ms ≤ R.slots) (hst : st = As.reverse ++ .ref (B + o) :: rest) (hW : (rest.map fun v => v.category).sum ≤ 8) (hdg : decode cc pc = .ok (.invokevirtual 23, 3))
    (kk : ∀ (H1 : Heap) (locs1 : List Loc), JL E B s n1 f1 H1 locs1 → W p l e R s m args below meth c H1 locs1 (cells + mc) (slots + ms) Q (F0 m (pc + 3) ls (rv :: rest))) : W p l e R s m args below meth c H locs cells slots Q (F0 m pc ls st) :=
  rcallV X hJ hC (tw (i := 378) (by decide +kernel) (by decide)) ti_X6_cart te_X6_cart tn_6 tk_X6_cart ⟨by decide +kernel, by decide +kernel, by rw [hn]; decide +kernel⟩ rfl rfl ho hf hls hfr hcs hst hW hdg kk
theorem kL_26 (X : Cx p s m args c cc nL RL E B) (hJ : JL E B s n f H locs) (hC : Ct l yX7_cart cX7_cart 4 (some .int) fr lo mc ms E B (.ref (B + o) :: As) n f (some rv) n1 f1) (hn : As.length = 2) {fs : List Value} (ho : o < n) (hf : f o = .inr (7, fs)) (hls : ls.size = nL) (hfr : fr + 1 ≤ R.frames ∧ 8 + (4 + 11) + lo ≤ R.locals) (hcs : cells + mc ≤ R.cells ∧ slots + ms ≤ R.slots) (hst : st = As.reverse ++ .ref (B + o) :: rest) (hW : (rest.map fun v => v.category).sum ≤ 8) (hdg : decode cc pc = .ok (.invokevirtual 26, 3))
    (kk : ∀ (H1 : Heap) (locs1 : List Loc), JL E B s n1 f1 H1 locs1 → W p l e R s m args below meth c H1 locs1 (cells + mc) (slots + ms) Q (F0 m (pc + 3) ls (rv :: rest))) : W p l e R s m args below meth c H locs cells slots Q (F0 m pc ls st) :=
  rcallV X hJ hC (tw (i := 822) (by decide +kernel) (by decide)) ti_X7_cart te_X7_cart tn_7 tk_X7_cart ⟨by decide +kernel, by decide +kernel, by rw [hn]; decide +kernel⟩ rfl rfl ho hf hls hfr hcs hst hW hdg kk
theorem kL_27 (X : Cx p s m args c cc nL RL E B) (hJ : JL E B s n f H locs) (hC : Ct l yX6_guess cX6_guess 4 (some .int) fr lo mc ms E B (.ref (B + o) :: As) n f (some rv) n1 f1) (hn : As.length = 3) {fs : List Value} (ho : o < n) (hf : f o = .inr (6, fs)) (hls : ls.size = nL) (hfr : fr + 1 ≤ R.frames ∧ 8 + (4 + 11) + lo ≤ R.locals) (hcs : cells + mc ≤ R.cells ∧ slots + ms ≤ R.slots) (hst : st = As.reverse ++ .ref (B + o) :: rest) (hW : (rest.map fun v => v.category).sum ≤ 8) (hdg : decode cc pc = .ok (.invokevirtual 27, 3))
    (kk : ∀ (H1 : Heap) (locs1 : List Loc), JL E B s n1 f1 H1 locs1 → W p l e R s m args below meth c H1 locs1 (cells + mc) (slots + ms) Q (F0 m (pc + 3) ls (rv :: rest))) : W p l e R s m args below meth c H locs cells slots Q (F0 m pc ls st) :=
  rcallV X hJ hC (tw (i := 386) (by decide +kernel) (by decide)) ti_X6_guess te_X6_guess tn_6 tk_X6_guess ⟨by decide +kernel, by decide +kernel, by rw [hn]; decide +kernel⟩ rfl rfl ho hf hls hfr hcs hst hW hdg kk
theorem kL_30 (X : Cx p s m args c cc nL RL E B) (hJ : JL E B s n f H locs) (hC : Ct l yX7_guess cX7_guess 5 (some .int) fr lo mc ms E B (.ref (B + o) :: As) n f (some rv) n1 f1) (hn : As.length = 3) {fs : List Value} (ho : o < n) (hf : f o = .inr (7, fs)) (hls : ls.size = nL) (hfr : fr + 1 ≤ R.frames ∧ 8 + (5 + 11) + lo ≤ R.locals) (hcs : cells + mc ≤ R.cells ∧ slots + ms ≤ R.slots) (hst : st = As.reverse ++ .ref (B + o) :: rest) (hW : (rest.map fun v => v.category).sum ≤ 8) (hdg : decode cc pc = .ok (.invokevirtual 30, 3))
    (kk : ∀ (H1 : Heap) (locs1 : List Loc), JL E B s n1 f1 H1 locs1 → W p l e R s m args below meth c H1 locs1 (cells + mc) (slots + ms) Q (F0 m (pc + 3) ls (rv :: rest))) : W p l e R s m args below meth c H locs cells slots Q (F0 m pc ls st) :=
  rcallV X hJ hC (tw (i := 838) (by decide +kernel) (by decide)) ti_X7_guess te_X7_guess tn_7 tk_X7_guess ⟨by decide +kernel, by decide +kernel, by rw [hn]; decide +kernel⟩ rfl rfl ho hf hls hfr hcs hst hW hdg kk
theorem kL_31 (X : Cx p s m args c cc nL RL E B) (hJ : JL E B s n f H locs) (hC : Ct l yX6_leave cX6_leave 2 (some .int) fr lo mc ms E B (.ref (B + o) :: As) n f (some rv) n1 f1) (hn : As.length = 1) {fs : List Value} (ho : o < n) (hf : f o = .inr (6, fs)) (hls : ls.size = nL) (hfr : fr + 1 ≤ R.frames ∧ 8 + (2 + 11) + lo ≤ R.locals) (hcs : cells + mc ≤ R.cells ∧ slots + ms ≤ R.slots) (hst : st = As.reverse ++ .ref (B + o) :: rest) (hW : (rest.map fun v => v.category).sum ≤ 8) (hdg : decode cc pc = .ok (.invokevirtual 31, 3))
    (kk : ∀ (H1 : Heap) (locs1 : List Loc), JL E B s n1 f1 H1 locs1 → W p l e R s m args below meth c H1 locs1 (cells + mc) (slots + ms) Q (F0 m (pc + 3) ls (rv :: rest))) : W p l e R s m args below meth c H locs cells slots Q (F0 m pc ls st) :=
  rcallV X hJ hC (tw (i := 410) (by decide +kernel) (by decide)) ti_X6_leave te_X6_leave tn_6 tk_X6_leave ⟨by decide +kernel, by decide +kernel, by rw [hn]; decide +kernel⟩ rfl rfl ho hf hls hfr hcs hst hW hdg kk
theorem kL_35 (X : Cx p s m args c cc nL RL E B) (hJ : JL E B s n f H locs) (hC : Ct l yX7_leave cX7_leave 3 (some .int) fr lo mc ms E B (.ref (B + o) :: As) n f (some rv) n1 f1) (hn : As.length = 1) {fs : List Value} (ho : o < n) (hf : f o = .inr (7, fs)) (hls : ls.size = nL) (hfr : fr + 1 ≤ R.frames ∧ 8 + (3 + 11) + lo ≤ R.locals) (hcs : cells + mc ≤ R.cells ∧ slots + ms ≤ R.slots) (hst : st = As.reverse ++ .ref (B + o) :: rest) (hW : (rest.map fun v => v.category).sum ≤ 8) (hdg : decode cc pc = .ok (.invokevirtual 35, 3))
    (kk : ∀ (H1 : Heap) (locs1 : List Loc), JL E B s n1 f1 H1 locs1 → W p l e R s m args below meth c H1 locs1 (cells + mc) (slots + ms) Q (F0 m (pc + 3) ls (rv :: rest))) : W p l e R s m args below meth c H locs cells slots Q (F0 m pc ls st) :=
  rcallV X hJ hC (tw (i := 870) (by decide +kernel) (by decide)) ti_X7_leave te_X7_leave tn_7 tk_X7_leave ⟨by decide +kernel, by decide +kernel, by rw [hn]; decide +kernel⟩ rfl rfl ho hf hls hfr hcs hst hW hdg kk
theorem kL_36 (X : Cx p s m args c cc nL RL E B) (hJ : JL E B s n f H locs) (hC : Ct l yX6_hint cX6_hint 3 (some .int) fr lo mc ms E B (.ref (B + o) :: As) n f (some rv) n1 f1) (hn : As.length = 2) {fs : List Value} (ho : o < n) (hf : f o = .inr (6, fs)) (hls : ls.size = nL) (hfr : fr + 1 ≤ R.frames ∧ 8 + (3 + 11) + lo ≤ R.locals) (hcs : cells + mc ≤ R.cells ∧ slots + ms ≤ R.slots) (hst : st = As.reverse ++ .ref (B + o) :: rest) (hW : (rest.map fun v => v.category).sum ≤ 8) (hdg : decode cc pc = .ok (.invokevirtual 36, 3))
    (kk : ∀ (H1 : Heap) (locs1 : List Loc), JL E B s n1 f1 H1 locs1 → W p l e R s m args below meth c H1 locs1 (cells + mc) (slots + ms) Q (F0 m (pc + 3) ls (rv :: rest))) : W p l e R s m args below meth c H locs cells slots Q (F0 m pc ls st) :=
  rcallV X hJ hC (tw (i := 422) (by decide +kernel) (by decide)) ti_X6_hint te_X6_hint tn_6 tk_X6_hint ⟨by decide +kernel, by decide +kernel, by rw [hn]; decide +kernel⟩ rfl rfl ho hf hls hfr hcs hst hW hdg kk
theorem kL_39 (X : Cx p s m args c cc nL RL E B) (hJ : JL E B s n f H locs) (hC : Ct l yX7_hint cX7_hint 4 (some .int) fr lo mc ms E B (.ref (B + o) :: As) n f (some rv) n1 f1) (hn : As.length = 2) {fs : List Value} (ho : o < n) (hf : f o = .inr (7, fs)) (hls : ls.size = nL) (hfr : fr + 1 ≤ R.frames ∧ 8 + (4 + 11) + lo ≤ R.locals) (hcs : cells + mc ≤ R.cells ∧ slots + ms ≤ R.slots) (hst : st = As.reverse ++ .ref (B + o) :: rest) (hW : (rest.map fun v => v.category).sum ≤ 8) (hdg : decode cc pc = .ok (.invokevirtual 39, 3))
    (kk : ∀ (H1 : Heap) (locs1 : List Loc), JL E B s n1 f1 H1 locs1 → W p l e R s m args below meth c H1 locs1 (cells + mc) (slots + ms) Q (F0 m (pc + 3) ls (rv :: rest))) : W p l e R s m args below meth c H locs cells slots Q (F0 m pc ls st) :=
  rcallV X hJ hC (tw (i := 886) (by decide +kernel) (by decide)) ti_X7_hint te_X7_hint tn_7 tk_X7_hint ⟨by decide +kernel, by decide +kernel, by rw [hn]; decide +kernel⟩ rfl rfl ho hf hls hfr hcs hst hW hdg kk
theorem kL_40 (X : Cx p s m args c cc nL RL E B) (hJ : JL E B s n f H locs) (hC : Ct l yX6_pass cX6_pass 2 (some .int) fr lo mc ms E B (.ref (B + o) :: As) n f (some rv) n1 f1) (hn : As.length = 1) {fs : List Value} (ho : o < n) (hf : f o = .inr (6, fs)) (hls : ls.size = nL) (hfr : fr + 1 ≤ R.frames ∧ 8 + (2 + 11) + lo ≤ R.locals) (hcs : cells + mc ≤ R.cells ∧ slots + ms ≤ R.slots) (hst : st = As.reverse ++ .ref (B + o) :: rest) (hW : (rest.map fun v => v.category).sum ≤ 8) (hdg : decode cc pc = .ok (.invokevirtual 40, 3))
    (kk : ∀ (H1 : Heap) (locs1 : List Loc), JL E B s n1 f1 H1 locs1 → W p l e R s m args below meth c H1 locs1 (cells + mc) (slots + ms) Q (F0 m (pc + 3) ls (rv :: rest))) : W p l e R s m args below meth c H locs cells slots Q (F0 m pc ls st) :=
  rcallV X hJ hC (tw (i := 450) (by decide +kernel) (by decide)) ti_X6_pass te_X6_pass tn_6 tk_X6_pass ⟨by decide +kernel, by decide +kernel, by rw [hn]; decide +kernel⟩ rfl rfl ho hf hls hfr hcs hst hW hdg kk
theorem kL_43 (X : Cx p s m args c cc nL RL E B) (hJ : JL E B s n f H locs) (hC : Ct l yX7_pass cX7_pass 3 (some .int) fr lo mc ms E B (.ref (B + o) :: As) n f (some rv) n1 f1) (hn : As.length = 1) {fs : List Value} (ho : o < n) (hf : f o = .inr (7, fs)) (hls : ls.size = nL) (hfr : fr + 1 ≤ R.frames ∧ 8 + (3 + 11) + lo ≤ R.locals) (hcs : cells + mc ≤ R.cells ∧ slots + ms ≤ R.slots) (hst : st = As.reverse ++ .ref (B + o) :: rest) (hW : (rest.map fun v => v.category).sum ≤ 8) (hdg : decode cc pc = .ok (.invokevirtual 43, 3))
    (kk : ∀ (H1 : Heap) (locs1 : List Loc), JL E B s n1 f1 H1 locs1 → W p l e R s m args below meth c H1 locs1 (cells + mc) (slots + ms) Q (F0 m (pc + 3) ls (rv :: rest))) : W p l e R s m args below meth c H locs cells slots Q (F0 m pc ls st) :=
  rcallV X hJ hC (tw (i := 902) (by decide +kernel) (by decide)) ti_X7_pass te_X7_pass tn_7 tk_X7_pass ⟨by decide +kernel, by decide +kernel, by rw [hn]; decide +kernel⟩ rfl rfl ho hf hls hfr hcs hst hW hdg kk
theorem kL_44 (X : Cx p s m args c cc nL RL E B) (hJ : JL E B s n f H locs) (hC : Ct l yX6_write cX6_write 3 (some .int) fr lo mc ms E B (.ref (B + o) :: As) n f (some rv) n1 f1) (hn : As.length = 1) {fs : List Value} (ho : o < n) (hf : f o = .inr (6, fs)) (hls : ls.size = nL) (hfr : fr + 1 ≤ R.frames ∧ 8 + (3 + 11) + lo ≤ R.locals) (hcs : cells + mc ≤ R.cells ∧ slots + ms ≤ R.slots) (hst : st = As.reverse ++ .ref (B + o) :: rest) (hW : (rest.map fun v => v.category).sum ≤ 8) (hdg : decode cc pc = .ok (.invokevirtual 44, 3))
    (kk : ∀ (H1 : Heap) (locs1 : List Loc), JL E B s n1 f1 H1 locs1 → W p l e R s m args below meth c H1 locs1 (cells + mc) (slots + ms) Q (F0 m (pc + 3) ls (rv :: rest))) : W p l e R s m args below meth c H locs cells slots Q (F0 m pc ls st) :=
  rcallV X hJ hC (tw (i := 499) (by decide +kernel) (by decide)) ti_X6_write te_X6_write tn_6 tk_X6_write ⟨by decide +kernel, by decide +kernel, by rw [hn]; decide +kernel⟩ rfl rfl ho hf hls hfr hcs hst hW hdg kk
theorem kL_47 (X : Cx p s m args c cc nL RL E B) (hJ : JL E B s n f H locs) (hC : Ct l yX7_write cX7_write 4 (some .int) fr lo mc ms E B (.ref (B + o) :: As) n f (some rv) n1 f1) (hn : As.length = 1) {fs : List Value} (ho : o < n) (hf : f o = .inr (7, fs)) (hls : ls.size = nL) (hfr : fr + 1 ≤ R.frames ∧ 8 + (4 + 11) + lo ≤ R.locals) (hcs : cells + mc ≤ R.cells ∧ slots + ms ≤ R.slots) (hst : st = As.reverse ++ .ref (B + o) :: rest) (hW : (rest.map fun v => v.category).sum ≤ 8) (hdg : decode cc pc = .ok (.invokevirtual 47, 3))
    (kk : ∀ (H1 : Heap) (locs1 : List Loc), JL E B s n1 f1 H1 locs1 → W p l e R s m args below meth c H1 locs1 (cells + mc) (slots + ms) Q (F0 m (pc + 3) ls (rv :: rest))) : W p l e R s m args below meth c H locs cells slots Q (F0 m pc ls st) :=
  rcallV X hJ hC (tw (i := 942) (by decide +kernel) (by decide)) ti_X7_write te_X7_write tn_7 tk_X7_write ⟨by decide +kernel, by decide +kernel, by rw [hn]; decide +kernel⟩ rfl rfl ho hf hls hfr hcs hst hW hdg kk
theorem kL_48 (X : Cx p s m args c cc nL RL E B) (hJ : JL E B s n f H locs) (hC : Ct l yX6_ofBridge cX6_ofBridge 4 (some .int) fr lo mc ms E B (.ref (B + o) :: As) n f (some rv) n1 f1) (hn : As.length = 2) {fs : List Value} (ho : o < n) (hf : f o = .inr (6, fs)) (hls : ls.size = nL) (hfr : fr + 1 ≤ R.frames ∧ 8 + (4 + 11) + lo ≤ R.locals) (hcs : cells + mc ≤ R.cells ∧ slots + ms ≤ R.slots) (hst : st = As.reverse ++ .ref (B + o) :: rest) (hW : (rest.map fun v => v.category).sum ≤ 8) (hdg : decode cc pc = .ok (.invokevirtual 48, 3))
    (kk : ∀ (H1 : Heap) (locs1 : List Loc), JL E B s n1 f1 H1 locs1 → W p l e R s m args below meth c H1 locs1 (cells + mc) (slots + ms) Q (F0 m (pc + 3) ls (rv :: rest))) : W p l e R s m args below meth c H locs cells slots Q (F0 m pc ls st) :=
  rcallV X hJ hC (tw (i := 526) (by decide +kernel) (by decide)) ti_X6_ofBridge te_X6_ofBridge tn_6 tk_X6_ofBridge ⟨by decide +kernel, by decide +kernel, by rw [hn]; decide +kernel⟩ rfl rfl ho hf hls hfr hcs hst hW hdg kk
theorem kL_51 (X : Cx p s m args c cc nL RL E B) (hJ : JL E B s n f H locs) (hC : Ct l yX7_ofBridge cX7_ofBridge 3 (some .int) fr lo mc ms E B (.ref (B + o) :: As) n f (some rv) n1 f1) (hn : As.length = 2) {fs : List Value} (ho : o < n) (hf : f o = .inr (7, fs)) (hls : ls.size = nL) (hfr : fr + 1 ≤ R.frames ∧ 8 + (3 + 11) + lo ≤ R.locals) (hcs : cells + mc ≤ R.cells ∧ slots + ms ≤ R.slots) (hst : st = As.reverse ++ .ref (B + o) :: rest) (hW : (rest.map fun v => v.category).sum ≤ 8) (hdg : decode cc pc = .ok (.invokevirtual 51, 3))
    (kk : ∀ (H1 : Heap) (locs1 : List Loc), JL E B s n1 f1 H1 locs1 → W p l e R s m args below meth c H1 locs1 (cells + mc) (slots + ms) Q (F0 m (pc + 3) ls (rv :: rest))) : W p l e R s m args below meth c H locs cells slots Q (F0 m pc ls st) :=
  rcallV X hJ hC (tw (i := 955) (by decide +kernel) (by decide)) ti_X7_ofBridge te_X7_ofBridge tn_7 tk_X7_ofBridge ⟨by decide +kernel, by decide +kernel, by rw [hn]; decide +kernel⟩ rfl rfl ho hf hls hfr hcs hst hW hdg kk
theorem kL_52 (X : Cx p s m args c cc nL RL E B) (hJ : JL E B s n f H locs) (hC : Ct l yX6_ofCart cX6_ofCart 4 (some .int) fr lo mc ms E B (.ref (B + o) :: As) n f (some rv) n1 f1) (hn : As.length = 2) {fs : List Value} (ho : o < n) (hf : f o = .inr (6, fs)) (hls : ls.size = nL) (hfr : fr + 1 ≤ R.frames ∧ 8 + (4 + 11) + lo ≤ R.locals) (hcs : cells + mc ≤ R.cells ∧ slots + ms ≤ R.slots) (hst : st = As.reverse ++ .ref (B + o) :: rest) (hW : (rest.map fun v => v.category).sum ≤ 8) (hdg : decode cc pc = .ok (.invokevirtual 52, 3))
    (kk : ∀ (H1 : Heap) (locs1 : List Loc), JL E B s n1 f1 H1 locs1 → W p l e R s m args below meth c H1 locs1 (cells + mc) (slots + ms) Q (F0 m (pc + 3) ls (rv :: rest))) : W p l e R s m args below meth c H locs cells slots Q (F0 m pc ls st) :=
  rcallV X hJ hC (tw (i := 535) (by decide +kernel) (by decide)) ti_X6_ofCart te_X6_ofCart tn_6 tk_X6_ofCart ⟨by decide +kernel, by decide +kernel, by rw [hn]; decide +kernel⟩ rfl rfl ho hf hls hfr hcs hst hW hdg kk
theorem kL_55 (X : Cx p s m args c cc nL RL E B) (hJ : JL E B s n f H locs) (hC : Ct l yX7_ofCart cX7_ofCart 3 (some .int) fr lo mc ms E B (.ref (B + o) :: As) n f (some rv) n1 f1) (hn : As.length = 2) {fs : List Value} (ho : o < n) (hf : f o = .inr (7, fs)) (hls : ls.size = nL) (hfr : fr + 1 ≤ R.frames ∧ 8 + (3 + 11) + lo ≤ R.locals) (hcs : cells + mc ≤ R.cells ∧ slots + ms ≤ R.slots) (hst : st = As.reverse ++ .ref (B + o) :: rest) (hW : (rest.map fun v => v.category).sum ≤ 8) (hdg : decode cc pc = .ok (.invokevirtual 55, 3))
    (kk : ∀ (H1 : Heap) (locs1 : List Loc), JL E B s n1 f1 H1 locs1 → W p l e R s m args below meth c H1 locs1 (cells + mc) (slots + ms) Q (F0 m (pc + 3) ls (rv :: rest))) : W p l e R s m args below meth c H locs cells slots Q (F0 m pc ls st) :=
  rcallV X hJ hC (tw (i := 959) (by decide +kernel) (by decide)) ti_X7_ofCart te_X7_ofCart tn_7 tk_X7_ofCart ⟨by decide +kernel, by decide +kernel, by rw [hn]; decide +kernel⟩ rfl rfl ho hf hls hfr hcs hst hW hdg kk
theorem kL_56 (X : Cx p s m args c cc nL RL E B) (hJ : JL E B s n f H locs) (hC : Ct l yX6_knows cX6_knows 6 (some .int) fr lo mc ms E B (.ref (B + o) :: As) n f (some rv) n1 f1) (hn : As.length = 3) {fs : List Value} (ho : o < n) (hf : f o = .inr (6, fs)) (hls : ls.size = nL) (hfr : fr + 1 ≤ R.frames ∧ 8 + (6 + 11) + lo ≤ R.locals) (hcs : cells + mc ≤ R.cells ∧ slots + ms ≤ R.slots) (hst : st = As.reverse ++ .ref (B + o) :: rest) (hW : (rest.map fun v => v.category).sum ≤ 8) (hdg : decode cc pc = .ok (.invokevirtual 56, 3))
    (kk : ∀ (H1 : Heap) (locs1 : List Loc), JL E B s n1 f1 H1 locs1 → W p l e R s m args below meth c H1 locs1 (cells + mc) (slots + ms) Q (F0 m (pc + 3) ls (rv :: rest))) : W p l e R s m args below meth c H locs cells slots Q (F0 m pc ls st) :=
  rcallV X hJ hC (tw (i := 543) (by decide +kernel) (by decide)) ti_X6_knows te_X6_knows tn_6 tk_X6_knows ⟨by decide +kernel, by decide +kernel, by rw [hn]; decide +kernel⟩ rfl rfl ho hf hls hfr hcs hst hW hdg kk
theorem kL_59 (X : Cx p s m args c cc nL RL E B) (hJ : JL E B s n f H locs) (hC : Ct l yX7_knows cX7_knows 4 (some .int) fr lo mc ms E B (.ref (B + o) :: As) n f (some rv) n1 f1) (hn : As.length = 3) {fs : List Value} (ho : o < n) (hf : f o = .inr (7, fs)) (hls : ls.size = nL) (hfr : fr + 1 ≤ R.frames ∧ 8 + (4 + 11) + lo ≤ R.locals) (hcs : cells + mc ≤ R.cells ∧ slots + ms ≤ R.slots) (hst : st = As.reverse ++ .ref (B + o) :: rest) (hW : (rest.map fun v => v.category).sum ≤ 8) (hdg : decode cc pc = .ok (.invokevirtual 59, 3))
    (kk : ∀ (H1 : Heap) (locs1 : List Loc), JL E B s n1 f1 H1 locs1 → W p l e R s m args below meth c H1 locs1 (cells + mc) (slots + ms) Q (F0 m (pc + 3) ls (rv :: rest))) : W p l e R s m args below meth c H locs cells slots Q (F0 m pc ls st) :=
  rcallV X hJ hC (tw (i := 963) (by decide +kernel) (by decide)) ti_X7_knows te_X7_knows tn_7 tk_X7_knows ⟨by decide +kernel, by decide +kernel, by rw [hn]; decide +kernel⟩ rfl rfl ho hf hls hfr hcs hst hW hdg kk
theorem kL_60 (X : Cx p s m args c cc nL RL E B) (hJ : JL E B s n f H locs) (hC : Ct l yX6_waits cX6_waits 4 (some .int) fr lo mc ms E B (.ref (B + o) :: As) n f (some rv) n1 f1) (hn : As.length = 2) {fs : List Value} (ho : o < n) (hf : f o = .inr (6, fs)) (hls : ls.size = nL) (hfr : fr + 1 ≤ R.frames ∧ 8 + (4 + 11) + lo ≤ R.locals) (hcs : cells + mc ≤ R.cells ∧ slots + ms ≤ R.slots) (hst : st = As.reverse ++ .ref (B + o) :: rest) (hW : (rest.map fun v => v.category).sum ≤ 8) (hdg : decode cc pc = .ok (.invokevirtual 60, 3))
    (kk : ∀ (H1 : Heap) (locs1 : List Loc), JL E B s n1 f1 H1 locs1 → W p l e R s m args below meth c H1 locs1 (cells + mc) (slots + ms) Q (F0 m (pc + 3) ls (rv :: rest))) : W p l e R s m args below meth c H locs cells slots Q (F0 m pc ls st) :=
  rcallV X hJ hC (tw (i := 547) (by decide +kernel) (by decide)) ti_X6_waits te_X6_waits tn_6 tk_X6_waits ⟨by decide +kernel, by decide +kernel, by rw [hn]; decide +kernel⟩ rfl rfl ho hf hls hfr hcs hst hW hdg kk
theorem kL_63 (X : Cx p s m args c cc nL RL E B) (hJ : JL E B s n f H locs) (hC : Ct l yX7_waits cX7_waits 3 (some .int) fr lo mc ms E B (.ref (B + o) :: As) n f (some rv) n1 f1) (hn : As.length = 2) {fs : List Value} (ho : o < n) (hf : f o = .inr (7, fs)) (hls : ls.size = nL) (hfr : fr + 1 ≤ R.frames ∧ 8 + (3 + 11) + lo ≤ R.locals) (hcs : cells + mc ≤ R.cells ∧ slots + ms ≤ R.slots) (hst : st = As.reverse ++ .ref (B + o) :: rest) (hW : (rest.map fun v => v.category).sum ≤ 8) (hdg : decode cc pc = .ok (.invokevirtual 63, 3))
    (kk : ∀ (H1 : Heap) (locs1 : List Loc), JL E B s n1 f1 H1 locs1 → W p l e R s m args below meth c H1 locs1 (cells + mc) (slots + ms) Q (F0 m (pc + 3) ls (rv :: rest))) : W p l e R s m args below meth c H locs cells slots Q (F0 m pc ls st) :=
  rcallV X hJ hC (tw (i := 967) (by decide +kernel) (by decide)) ti_X7_waits te_X7_waits tn_7 tk_X7_waits ⟨by decide +kernel, by decide +kernel, by rw [hn]; decide +kernel⟩ rfl rfl ho hf hls hfr hcs hst hW hdg kk
theorem kL_64 (X : Cx p s m args c cc nL RL E B) (hJ : JL E B s n f H locs) (hC : Ct l yX6_sign cX6_sign 2 (some .int) fr lo mc ms E B (.ref (B + o) :: As) n f (some rv) n1 f1) (hn : As.length = 1) {fs : List Value} (ho : o < n) (hf : f o = .inr (6, fs)) (hls : ls.size = nL) (hfr : fr + 1 ≤ R.frames ∧ 8 + (2 + 11) + lo ≤ R.locals) (hcs : cells + mc ≤ R.cells ∧ slots + ms ≤ R.slots) (hst : st = As.reverse ++ .ref (B + o) :: rest) (hW : (rest.map fun v => v.category).sum ≤ 8) (hdg : decode cc pc = .ok (.invokevirtual 64, 3))
    (kk : ∀ (H1 : Heap) (locs1 : List Loc), JL E B s n1 f1 H1 locs1 → W p l e R s m args below meth c H1 locs1 (cells + mc) (slots + ms) Q (F0 m (pc + 3) ls (rv :: rest))) : W p l e R s m args below meth c H locs cells slots Q (F0 m pc ls st) :=
  rcallV X hJ hC (tw (i := 555) (by decide +kernel) (by decide)) ti_X6_sign te_X6_sign tn_6 tk_X6_sign ⟨by decide +kernel, by decide +kernel, by rw [hn]; decide +kernel⟩ rfl rfl ho hf hls hfr hcs hst hW hdg kk
theorem kL_67 (X : Cx p s m args c cc nL RL E B) (hJ : JL E B s n f H locs) (hC : Ct l yX7_sign cX7_sign 2 (some .int) fr lo mc ms E B (.ref (B + o) :: As) n f (some rv) n1 f1) (hn : As.length = 1) {fs : List Value} (ho : o < n) (hf : f o = .inr (7, fs)) (hls : ls.size = nL) (hfr : fr + 1 ≤ R.frames ∧ 8 + (2 + 11) + lo ≤ R.locals) (hcs : cells + mc ≤ R.cells ∧ slots + ms ≤ R.slots) (hst : st = As.reverse ++ .ref (B + o) :: rest) (hW : (rest.map fun v => v.category).sum ≤ 8) (hdg : decode cc pc = .ok (.invokevirtual 67, 3))
    (kk : ∀ (H1 : Heap) (locs1 : List Loc), JL E B s n1 f1 H1 locs1 → W p l e R s m args below meth c H1 locs1 (cells + mc) (slots + ms) Q (F0 m (pc + 3) ls (rv :: rest))) : W p l e R s m args below meth c H locs cells slots Q (F0 m pc ls st) :=
  rcallV X hJ hC (tw (i := 971) (by decide +kernel) (by decide)) ti_X7_sign te_X7_sign tn_7 tk_X7_sign ⟨by decide +kernel, by decide +kernel, by rw [hn]; decide +kernel⟩ rfl rfl ho hf hls hfr hcs hst hW hdg kk
theorem kL_68 (X : Cx p s m args c cc nL RL E B) (hJ : JL E B s n f H locs) (hC : Ct l yX6_count cX6_count 2 (some .int) fr lo mc ms E B (.ref (B + o) :: As) n f (some rv) n1 f1) (hn : As.length = 1) {fs : List Value} (ho : o < n) (hf : f o = .inr (6, fs)) (hls : ls.size = nL) (hfr : fr + 1 ≤ R.frames ∧ 8 + (2 + 11) + lo ≤ R.locals) (hcs : cells + mc ≤ R.cells ∧ slots + ms ≤ R.slots) (hst : st = As.reverse ++ .ref (B + o) :: rest) (hW : (rest.map fun v => v.category).sum ≤ 8) (hdg : decode cc pc = .ok (.invokevirtual 68, 3))
    (kk : ∀ (H1 : Heap) (locs1 : List Loc), JL E B s n1 f1 H1 locs1 → W p l e R s m args below meth c H1 locs1 (cells + mc) (slots + ms) Q (F0 m (pc + 3) ls (rv :: rest))) : W p l e R s m args below meth c H locs cells slots Q (F0 m pc ls st) :=
  rcallV X hJ hC (tw (i := 563) (by decide +kernel) (by decide)) ti_X6_count te_X6_count tn_6 tk_X6_count ⟨by decide +kernel, by decide +kernel, by rw [hn]; decide +kernel⟩ rfl rfl ho hf hls hfr hcs hst hW hdg kk
theorem kL_71 (X : Cx p s m args c cc nL RL E B) (hJ : JL E B s n f H locs) (hC : Ct l yX7_count cX7_count 2 (some .int) fr lo mc ms E B (.ref (B + o) :: As) n f (some rv) n1 f1) (hn : As.length = 1) {fs : List Value} (ho : o < n) (hf : f o = .inr (7, fs)) (hls : ls.size = nL) (hfr : fr + 1 ≤ R.frames ∧ 8 + (2 + 11) + lo ≤ R.locals) (hcs : cells + mc ≤ R.cells ∧ slots + ms ≤ R.slots) (hst : st = As.reverse ++ .ref (B + o) :: rest) (hW : (rest.map fun v => v.category).sum ≤ 8) (hdg : decode cc pc = .ok (.invokevirtual 71, 3))
    (kk : ∀ (H1 : Heap) (locs1 : List Loc), JL E B s n1 f1 H1 locs1 → W p l e R s m args below meth c H1 locs1 (cells + mc) (slots + ms) Q (F0 m (pc + 3) ls (rv :: rest))) : W p l e R s m args below meth c H locs cells slots Q (F0 m pc ls st) :=
  rcallV X hJ hC (tw (i := 975) (by decide +kernel) (by decide)) ti_X7_count te_X7_count tn_7 tk_X7_count ⟨by decide +kernel, by decide +kernel, by rw [hn]; decide +kernel⟩ rfl rfl ho hf hls hfr hcs hst hW hdg kk
theorem kL_72 (X : Cx p s m args c cc nL RL E B) (hJ : JL E B s n f H locs) (hC : Ct l yX6_next cX6_next 3 (some .int) fr lo mc ms E B (.ref (B + o) :: As) n f (some rv) n1 f1) (hn : As.length = 1) {fs : List Value} (ho : o < n) (hf : f o = .inr (6, fs)) (hls : ls.size = nL) (hfr : fr + 1 ≤ R.frames ∧ 8 + (3 + 11) + lo ≤ R.locals) (hcs : cells + mc ≤ R.cells ∧ slots + ms ≤ R.slots) (hst : st = As.reverse ++ .ref (B + o) :: rest) (hW : (rest.map fun v => v.category).sum ≤ 8) (hdg : decode cc pc = .ok (.invokevirtual 72, 3))
    (kk : ∀ (H1 : Heap) (locs1 : List Loc), JL E B s n1 f1 H1 locs1 → W p l e R s m args below meth c H1 locs1 (cells + mc) (slots + ms) Q (F0 m (pc + 3) ls (rv :: rest))) : W p l e R s m args below meth c H locs cells slots Q (F0 m pc ls st) :=
  rcallV X hJ hC (tw (i := 585) (by decide +kernel) (by decide)) ti_X6_next te_X6_next tn_6 tk_X6_next ⟨by decide +kernel, by decide +kernel, by rw [hn]; decide +kernel⟩ rfl rfl ho hf hls hfr hcs hst hW hdg kk
theorem kL_75 (X : Cx p s m args c cc nL RL E B) (hJ : JL E B s n f H locs) (hC : Ct l yX7_next cX7_next 2 (some .int) fr lo mc ms E B (.ref (B + o) :: As) n f (some rv) n1 f1) (hn : As.length = 1) {fs : List Value} (ho : o < n) (hf : f o = .inr (7, fs)) (hls : ls.size = nL) (hfr : fr + 1 ≤ R.frames ∧ 8 + (2 + 11) + lo ≤ R.locals) (hcs : cells + mc ≤ R.cells ∧ slots + ms ≤ R.slots) (hst : st = As.reverse ++ .ref (B + o) :: rest) (hW : (rest.map fun v => v.category).sum ≤ 8) (hdg : decode cc pc = .ok (.invokevirtual 75, 3))
    (kk : ∀ (H1 : Heap) (locs1 : List Loc), JL E B s n1 f1 H1 locs1 → W p l e R s m args below meth c H1 locs1 (cells + mc) (slots + ms) Q (F0 m (pc + 3) ls (rv :: rest))) : W p l e R s m args below meth c H locs cells slots Q (F0 m pc ls st) :=
  rcallV X hJ hC (tw (i := 991) (by decide +kernel) (by decide)) ti_X7_next te_X7_next tn_7 tk_X7_next ⟨by decide +kernel, by decide +kernel, by rw [hn]; decide +kernel⟩ rfl rfl ho hf hls hfr hcs hst hW hdg kk
theorem kL_76 (X : Cx p s m args c cc nL RL E B) (hJ : JL E B s n f H locs) (hC : Ct l yX6_why cX6_why 3 (some .int) fr lo mc ms E B (.ref (B + o) :: As) n f (some rv) n1 f1) (hn : As.length = 1) {fs : List Value} (ho : o < n) (hf : f o = .inr (6, fs)) (hls : ls.size = nL) (hfr : fr + 1 ≤ R.frames ∧ 8 + (3 + 11) + lo ≤ R.locals) (hcs : cells + mc ≤ R.cells ∧ slots + ms ≤ R.slots) (hst : st = As.reverse ++ .ref (B + o) :: rest) (hW : (rest.map fun v => v.category).sum ≤ 8) (hdg : decode cc pc = .ok (.invokevirtual 76, 3))
    (kk : ∀ (H1 : Heap) (locs1 : List Loc), JL E B s n1 f1 H1 locs1 → W p l e R s m args below meth c H1 locs1 (cells + mc) (slots + ms) Q (F0 m (pc + 3) ls (rv :: rest))) : W p l e R s m args below meth c H locs cells slots Q (F0 m pc ls st) :=
  rcallV X hJ hC (tw (i := 590) (by decide +kernel) (by decide)) ti_X6_why te_X6_why tn_6 tk_X6_why ⟨by decide +kernel, by decide +kernel, by rw [hn]; decide +kernel⟩ rfl rfl ho hf hls hfr hcs hst hW hdg kk
theorem kL_79 (X : Cx p s m args c cc nL RL E B) (hJ : JL E B s n f H locs) (hC : Ct l yX7_why cX7_why 3 (some .int) fr lo mc ms E B (.ref (B + o) :: As) n f (some rv) n1 f1) (hn : As.length = 1) {fs : List Value} (ho : o < n) (hf : f o = .inr (7, fs)) (hls : ls.size = nL) (hfr : fr + 1 ≤ R.frames ∧ 8 + (3 + 11) + lo ≤ R.locals) (hcs : cells + mc ≤ R.cells ∧ slots + ms ≤ R.slots) (hst : st = As.reverse ++ .ref (B + o) :: rest) (hW : (rest.map fun v => v.category).sum ≤ 8) (hdg : decode cc pc = .ok (.invokevirtual 79, 3))
    (kk : ∀ (H1 : Heap) (locs1 : List Loc), JL E B s n1 f1 H1 locs1 → W p l e R s m args below meth c H1 locs1 (cells + mc) (slots + ms) Q (F0 m (pc + 3) ls (rv :: rest))) : W p l e R s m args below meth c H locs cells slots Q (F0 m pc ls st) :=
  rcallV X hJ hC (tw (i := 995) (by decide +kernel) (by decide)) ti_X7_why te_X7_why tn_7 tk_X7_why ⟨by decide +kernel, by decide +kernel, by rw [hn]; decide +kernel⟩ rfl rfl ho hf hls hfr hcs hst hW hdg kk
theorem kL_80 (X : Cx p s m args c cc nL RL E B) (hJ : JL E B s n f H locs) (hC : Ct l yX6_overIn cX6_overIn 4 (some .int) fr lo mc ms E B (.ref (B + o) :: As) n f (some rv) n1 f1) (hn : As.length = 1) {fs : List Value} (ho : o < n) (hf : f o = .inr (6, fs)) (hls : ls.size = nL) (hfr : fr + 1 ≤ R.frames ∧ 8 + (4 + 11) + lo ≤ R.locals) (hcs : cells + mc ≤ R.cells ∧ slots + ms ≤ R.slots) (hst : st = As.reverse ++ .ref (B + o) :: rest) (hW : (rest.map fun v => v.category).sum ≤ 8) (hdg : decode cc pc = .ok (.invokevirtual 80, 3))
    (kk : ∀ (H1 : Heap) (locs1 : List Loc), JL E B s n1 f1 H1 locs1 → W p l e R s m args below meth c H1 locs1 (cells + mc) (slots + ms) Q (F0 m (pc + 3) ls (rv :: rest))) : W p l e R s m args below meth c H locs cells slots Q (F0 m pc ls st) :=
  rcallV X hJ hC (tw (i := 598) (by decide +kernel) (by decide)) ti_X6_overIn te_X6_overIn tn_6 tk_X6_overIn ⟨by decide +kernel, by decide +kernel, by rw [hn]; decide +kernel⟩ rfl rfl ho hf hls hfr hcs hst hW hdg kk
theorem kL_83 (X : Cx p s m args c cc nL RL E B) (hJ : JL E B s n f H locs) (hC : Ct l yX7_overIn cX7_overIn 5 (some .int) fr lo mc ms E B (.ref (B + o) :: As) n f (some rv) n1 f1) (hn : As.length = 1) {fs : List Value} (ho : o < n) (hf : f o = .inr (7, fs)) (hls : ls.size = nL) (hfr : fr + 1 ≤ R.frames ∧ 8 + (5 + 11) + lo ≤ R.locals) (hcs : cells + mc ≤ R.cells ∧ slots + ms ≤ R.slots) (hst : st = As.reverse ++ .ref (B + o) :: rest) (hW : (rest.map fun v => v.category).sum ≤ 8) (hdg : decode cc pc = .ok (.invokevirtual 83, 3))
    (kk : ∀ (H1 : Heap) (locs1 : List Loc), JL E B s n1 f1 H1 locs1 → W p l e R s m args below meth c H1 locs1 (cells + mc) (slots + ms) Q (F0 m (pc + 3) ls (rv :: rest))) : W p l e R s m args below meth c H locs cells slots Q (F0 m pc ls st) :=
  rcallV X hJ hC (tw (i := 999) (by decide +kernel) (by decide)) ti_X7_overIn te_X7_overIn tn_7 tk_X7_overIn ⟨by decide +kernel, by decide +kernel, by rw [hn]; decide +kernel⟩ rfl rfl ho hf hls hfr hcs hst hW hdg kk
theorem kL_84 (X : Cx p s m args c cc nL RL E B) (hJ : JL E B s n f H locs) (hC : Ct l yX6_wins cX6_wins 7 (some .int) fr lo mc ms E B (.ref (B + o) :: As) n f (some rv) n1 f1) (hn : As.length = 4) {fs : List Value} (ho : o < n) (hf : f o = .inr (6, fs)) (hls : ls.size = nL) (hfr : fr + 1 ≤ R.frames ∧ 8 + (7 + 11) + lo ≤ R.locals) (hcs : cells + mc ≤ R.cells ∧ slots + ms ≤ R.slots) (hst : st = As.reverse ++ .ref (B + o) :: rest) (hW : (rest.map fun v => v.category).sum ≤ 8) (hdg : decode cc pc = .ok (.invokevirtual 84, 3))
    (kk : ∀ (H1 : Heap) (locs1 : List Loc), JL E B s n1 f1 H1 locs1 → W p l e R s m args below meth c H1 locs1 (cells + mc) (slots + ms) Q (F0 m (pc + 3) ls (rv :: rest))) : W p l e R s m args below meth c H locs cells slots Q (F0 m pc ls st) :=
  rcallV X hJ hC (tw (i := 605) (by decide +kernel) (by decide)) ti_X6_wins te_X6_wins tn_6 tk_X6_wins ⟨by decide +kernel, by decide +kernel, by rw [hn]; decide +kernel⟩ rfl rfl ho hf hls hfr hcs hst hW hdg kk
theorem kL_88 (X : Cx p s m args c cc nL RL E B) (hJ : JL E B s n f H locs) (hC : Ct l yX7_wins cX7_wins 6 (some .int) fr lo mc ms E B (.ref (B + o) :: As) n f (some rv) n1 f1) (hn : As.length = 4) {fs : List Value} (ho : o < n) (hf : f o = .inr (7, fs)) (hls : ls.size = nL) (hfr : fr + 1 ≤ R.frames ∧ 8 + (6 + 11) + lo ≤ R.locals) (hcs : cells + mc ≤ R.cells ∧ slots + ms ≤ R.slots) (hst : st = As.reverse ++ .ref (B + o) :: rest) (hW : (rest.map fun v => v.category).sum ≤ 8) (hdg : decode cc pc = .ok (.invokevirtual 88, 3))
    (kk : ∀ (H1 : Heap) (locs1 : List Loc), JL E B s n1 f1 H1 locs1 → W p l e R s m args below meth c H1 locs1 (cells + mc) (slots + ms) Q (F0 m (pc + 3) ls (rv :: rest))) : W p l e R s m args below meth c H locs cells slots Q (F0 m pc ls st) :=
  rcallV X hJ hC (tw (i := 1003) (by decide +kernel) (by decide)) ti_X7_wins te_X7_wins tn_7 tk_X7_wins ⟨by decide +kernel, by decide +kernel, by rw [hn]; decide +kernel⟩ rfl rfl ho hf hls hfr hcs hst hW hdg kk
theorem kL_89 (X : Cx p s m args c cc nL RL E B) (hJ : JL E B s n f H locs) (hC : Ct l yX6_bestGuess cX6_bestGuess 11 (some .int) fr lo mc ms E B (.ref (B + o) :: As) n f (some rv) n1 f1) (hn : As.length = 4) {fs : List Value} (ho : o < n) (hf : f o = .inr (6, fs)) (hls : ls.size = nL) (hfr : fr + 1 ≤ R.frames ∧ 8 + (11 + 11) + lo ≤ R.locals) (hcs : cells + mc ≤ R.cells ∧ slots + ms ≤ R.slots) (hst : st = As.reverse ++ .ref (B + o) :: rest) (hW : (rest.map fun v => v.category).sum ≤ 8) (hdg : decode cc pc = .ok (.invokevirtual 89, 3))
    (kk : ∀ (H1 : Heap) (locs1 : List Loc), JL E B s n1 f1 H1 locs1 → W p l e R s m args below meth c H1 locs1 (cells + mc) (slots + ms) Q (F0 m (pc + 3) ls (rv :: rest))) : W p l e R s m args below meth c H locs cells slots Q (F0 m pc ls st) :=
  rcallV X hJ hC (tw (i := 616) (by decide +kernel) (by decide)) ti_X6_bestGuess te_X6_bestGuess tn_6 tk_X6_bestGuess ⟨by decide +kernel, by decide +kernel, by rw [hn]; decide +kernel⟩ rfl rfl ho hf hls hfr hcs hst hW hdg kk
theorem kL_92 (X : Cx p s m args c cc nL RL E B) (hJ : JL E B s n f H locs) (hC : Ct l yX7_bestGuess cX7_bestGuess 10 (some .int) fr lo mc ms E B (.ref (B + o) :: As) n f (some rv) n1 f1) (hn : As.length = 4) {fs : List Value} (ho : o < n) (hf : f o = .inr (7, fs)) (hls : ls.size = nL) (hfr : fr + 1 ≤ R.frames ∧ 8 + (10 + 11) + lo ≤ R.locals) (hcs : cells + mc ≤ R.cells ∧ slots + ms ≤ R.slots) (hst : st = As.reverse ++ .ref (B + o) :: rest) (hW : (rest.map fun v => v.category).sum ≤ 8) (hdg : decode cc pc = .ok (.invokevirtual 92, 3))
    (kk : ∀ (H1 : Heap) (locs1 : List Loc), JL E B s n1 f1 H1 locs1 → W p l e R s m args below meth c H1 locs1 (cells + mc) (slots + ms) Q (F0 m (pc + 3) ls (rv :: rest))) : W p l e R s m args below meth c H locs cells slots Q (F0 m pc ls st) :=
  rcallV X hJ hC (tw (i := 1010) (by decide +kernel) (by decide)) ti_X7_bestGuess te_X7_bestGuess tn_7 tk_X7_bestGuess ⟨by decide +kernel, by decide +kernel, by rw [hn]; decide +kernel⟩ rfl rfl ho hf hls hfr hcs hst hW hdg kk
theorem kL_93 (X : Cx p s m args c cc nL RL E B) (hJ : JL E B s n f H locs) (hC : Ct l yX6_route cX6_route 5 (some .int) fr lo mc ms E B (.ref (B + o) :: As) n f (some rv) n1 f1) (hn : As.length = 3) {fs : List Value} (ho : o < n) (hf : f o = .inr (6, fs)) (hls : ls.size = nL) (hfr : fr + 1 ≤ R.frames ∧ 8 + (5 + 11) + lo ≤ R.locals) (hcs : cells + mc ≤ R.cells ∧ slots + ms ≤ R.slots) (hst : st = As.reverse ++ .ref (B + o) :: rest) (hW : (rest.map fun v => v.category).sum ≤ 8) (hdg : decode cc pc = .ok (.invokevirtual 93, 3))
    (kk : ∀ (H1 : Heap) (locs1 : List Loc), JL E B s n1 f1 H1 locs1 → W p l e R s m args below meth c H1 locs1 (cells + mc) (slots + ms) Q (F0 m (pc + 3) ls (rv :: rest))) : W p l e R s m args below meth c H locs cells slots Q (F0 m pc ls st) :=
  rcallV X hJ hC (tw (i := 620) (by decide +kernel) (by decide)) ti_X6_route te_X6_route tn_6 tk_X6_route ⟨by decide +kernel, by decide +kernel, by rw [hn]; decide +kernel⟩ rfl rfl ho hf hls hfr hcs hst hW hdg kk
theorem kL_96 (X : Cx p s m args c cc nL RL E B) (hJ : JL E B s n f H locs) (hC : Ct l yX7_route cX7_route 4 (some .int) fr lo mc ms E B (.ref (B + o) :: As) n f (some rv) n1 f1) (hn : As.length = 3) {fs : List Value} (ho : o < n) (hf : f o = .inr (7, fs)) (hls : ls.size = nL) (hfr : fr + 1 ≤ R.frames ∧ 8 + (4 + 11) + lo ≤ R.locals) (hcs : cells + mc ≤ R.cells ∧ slots + ms ≤ R.slots) (hst : st = As.reverse ++ .ref (B + o) :: rest) (hW : (rest.map fun v => v.category).sum ≤ 8) (hdg : decode cc pc = .ok (.invokevirtual 96, 3))
    (kk : ∀ (H1 : Heap) (locs1 : List Loc), JL E B s n1 f1 H1 locs1 → W p l e R s m args below meth c H1 locs1 (cells + mc) (slots + ms) Q (F0 m (pc + 3) ls (rv :: rest))) : W p l e R s m args below meth c H locs cells slots Q (F0 m pc ls st) :=
  rcallV X hJ hC (tw (i := 1014) (by decide +kernel) (by decide)) ti_X7_route te_X7_route tn_7 tk_X7_route ⟨by decide +kernel, by decide +kernel, by rw [hn]; decide +kernel⟩ rfl rfl ho hf hls hfr hcs hst hW hdg kk
theorem kL_97 (X : Cx p s m args c cc nL RL E B) (hJ : JL E B s n f H locs) (hC : Ct l yX6_would cX6_would 5 (some .int) fr lo mc ms E B (.ref (B + o) :: As) n f (some rv) n1 f1) (hn : As.length = 2) {fs : List Value} (ho : o < n) (hf : f o = .inr (6, fs)) (hls : ls.size = nL) (hfr : fr + 1 ≤ R.frames ∧ 8 + (5 + 11) + lo ≤ R.locals) (hcs : cells + mc ≤ R.cells ∧ slots + ms ≤ R.slots) (hst : st = As.reverse ++ .ref (B + o) :: rest) (hW : (rest.map fun v => v.category).sum ≤ 8) (hdg : decode cc pc = .ok (.invokevirtual 97, 3))
    (kk : ∀ (H1 : Heap) (locs1 : List Loc), JL E B s n1 f1 H1 locs1 → W p l e R s m args below meth c H1 locs1 (cells + mc) (slots + ms) Q (F0 m (pc + 3) ls (rv :: rest))) : W p l e R s m args below meth c H locs cells slots Q (F0 m pc ls st) :=
  rcallV X hJ hC (tw (i := 641) (by decide +kernel) (by decide)) ti_X6_would te_X6_would tn_6 tk_X6_would ⟨by decide +kernel, by decide +kernel, by rw [hn]; decide +kernel⟩ rfl rfl ho hf hls hfr hcs hst hW hdg kk
theorem kL_100 (X : Cx p s m args c cc nL RL E B) (hJ : JL E B s n f H locs) (hC : Ct l yX7_would cX7_would 5 (some .int) fr lo mc ms E B (.ref (B + o) :: As) n f (some rv) n1 f1) (hn : As.length = 2) {fs : List Value} (ho : o < n) (hf : f o = .inr (7, fs)) (hls : ls.size = nL) (hfr : fr + 1 ≤ R.frames ∧ 8 + (5 + 11) + lo ≤ R.locals) (hcs : cells + mc ≤ R.cells ∧ slots + ms ≤ R.slots) (hst : st = As.reverse ++ .ref (B + o) :: rest) (hW : (rest.map fun v => v.category).sum ≤ 8) (hdg : decode cc pc = .ok (.invokevirtual 100, 3))
    (kk : ∀ (H1 : Heap) (locs1 : List Loc), JL E B s n1 f1 H1 locs1 → W p l e R s m args below meth c H1 locs1 (cells + mc) (slots + ms) Q (F0 m (pc + 3) ls (rv :: rest))) : W p l e R s m args below meth c H locs cells slots Q (F0 m pc ls st) :=
  rcallV X hJ hC (tw (i := 1026) (by decide +kernel) (by decide)) ti_X7_would te_X7_would tn_7 tk_X7_would ⟨by decide +kernel, by decide +kernel, by rw [hn]; decide +kernel⟩ rfl rfl ho hf hls hfr hcs hst hW hdg kk
theorem kL_103 (X : Cx p s m args c cc nL RL E B) (hJ : JL E B s n f H locs) (hC : Ct l yX6_put cX6_put 5 (some .int) fr lo mc ms E B (.ref (B + o) :: As) n f (some rv) n1 f1) (hn : As.length = 1) {fs : List Value} (ho : o < n) (hf : f o = .inr (6, fs)) (hls : ls.size = nL) (hfr : fr + 1 ≤ R.frames ∧ 8 + (5 + 11) + lo ≤ R.locals) (hcs : cells + mc ≤ R.cells ∧ slots + ms ≤ R.slots) (hst : st = As.reverse ++ .ref (B + o) :: rest) (hW : (rest.map fun v => v.category).sum ≤ 8) (hdg : decode cc pc = .ok (.invokevirtual 103, 3))
    (kk : ∀ (H1 : Heap) (locs1 : List Loc), JL E B s n1 f1 H1 locs1 → W p l e R s m args below meth c H1 locs1 (cells + mc) (slots + ms) Q (F0 m (pc + 3) ls (rv :: rest))) : W p l e R s m args below meth c H locs cells slots Q (F0 m pc ls st) :=
  rcallV X hJ hC (tw (i := 647) (by decide +kernel) (by decide)) ti_X6_put te_X6_put tn_6 tk_X6_put ⟨by decide +kernel, by decide +kernel, by rw [hn]; decide +kernel⟩ rfl rfl ho hf hls hfr hcs hst hW hdg kk
theorem kL_107 (X : Cx p s m args c cc nL RL E B) (hJ : JL E B s n f H locs) (hC : Ct l yX7_put cX7_put 5 (some .int) fr lo mc ms E B (.ref (B + o) :: As) n f (some rv) n1 f1) (hn : As.length = 1) {fs : List Value} (ho : o < n) (hf : f o = .inr (7, fs)) (hls : ls.size = nL) (hfr : fr + 1 ≤ R.frames ∧ 8 + (5 + 11) + lo ≤ R.locals) (hcs : cells + mc ≤ R.cells ∧ slots + ms ≤ R.slots) (hst : st = As.reverse ++ .ref (B + o) :: rest) (hW : (rest.map fun v => v.category).sum ≤ 8) (hdg : decode cc pc = .ok (.invokevirtual 107, 3))
    (kk : ∀ (H1 : Heap) (locs1 : List Loc), JL E B s n1 f1 H1 locs1 → W p l e R s m args below meth c H1 locs1 (cells + mc) (slots + ms) Q (F0 m (pc + 3) ls (rv :: rest))) : W p l e R s m args below meth c H locs cells slots Q (F0 m pc ls st) :=
  rcallV X hJ hC (tw (i := 1031) (by decide +kernel) (by decide)) ti_X7_put te_X7_put tn_7 tk_X7_put ⟨by decide +kernel, by decide +kernel, by rw [hn]; decide +kernel⟩ rfl rfl ho hf hls hfr hcs hst hW hdg kk
theorem kL_108 (X : Cx p s m args c cc nL RL E B) (hJ : JL E B s n f H locs) (hC : Ct l yX6_wipe cX6_wipe 2 (some .int) fr lo mc ms E B (.ref (B + o) :: As) n f (some rv) n1 f1) (hn : As.length = 0) {fs : List Value} (ho : o < n) (hf : f o = .inr (6, fs)) (hls : ls.size = nL) (hfr : fr + 1 ≤ R.frames ∧ 8 + (2 + 11) + lo ≤ R.locals) (hcs : cells + mc ≤ R.cells ∧ slots + ms ≤ R.slots) (hst : st = As.reverse ++ .ref (B + o) :: rest) (hW : (rest.map fun v => v.category).sum ≤ 8) (hdg : decode cc pc = .ok (.invokevirtual 108, 3))
    (kk : ∀ (H1 : Heap) (locs1 : List Loc), JL E B s n1 f1 H1 locs1 → W p l e R s m args below meth c H1 locs1 (cells + mc) (slots + ms) Q (F0 m (pc + 3) ls (rv :: rest))) : W p l e R s m args below meth c H locs cells slots Q (F0 m pc ls st) :=
  rcallV X hJ hC (tw (i := 654) (by decide +kernel) (by decide)) ti_X6_wipe te_X6_wipe tn_6 tk_X6_wipe ⟨by decide +kernel, by decide +kernel, by rw [hn]; decide +kernel⟩ rfl rfl ho hf hls hfr hcs hst hW hdg kk
theorem kL_112 (X : Cx p s m args c cc nL RL E B) (hJ : JL E B s n f H locs) (hC : Ct l yX7_wipe cX7_wipe 2 (some .int) fr lo mc ms E B (.ref (B + o) :: As) n f (some rv) n1 f1) (hn : As.length = 0) {fs : List Value} (ho : o < n) (hf : f o = .inr (7, fs)) (hls : ls.size = nL) (hfr : fr + 1 ≤ R.frames ∧ 8 + (2 + 11) + lo ≤ R.locals) (hcs : cells + mc ≤ R.cells ∧ slots + ms ≤ R.slots) (hst : st = As.reverse ++ .ref (B + o) :: rest) (hW : (rest.map fun v => v.category).sum ≤ 8) (hdg : decode cc pc = .ok (.invokevirtual 112, 3))
    (kk : ∀ (H1 : Heap) (locs1 : List Loc), JL E B s n1 f1 H1 locs1 → W p l e R s m args below meth c H1 locs1 (cells + mc) (slots + ms) Q (F0 m (pc + 3) ls (rv :: rest))) : W p l e R s m args below meth c H locs cells slots Q (F0 m pc ls st) :=
  rcallV X hJ hC (tw (i := 1041) (by decide +kernel) (by decide)) ti_X7_wipe te_X7_wipe tn_7 tk_X7_wipe ⟨by decide +kernel, by decide +kernel, by rw [hn]; decide +kernel⟩ rfl rfl ho hf hls hfr hcs hst hW hdg kk
theorem kL_113 (X : Cx p s m args c cc nL RL E B) (hJ : JL E B s n f H locs) (hC : Ct l yX6_fault cX6_fault 1 (some .int) fr lo mc ms E B (.ref (B + o) :: As) n f (some rv) n1 f1) (hn : As.length = 0) {fs : List Value} (ho : o < n) (hf : f o = .inr (6, fs)) (hls : ls.size = nL) (hfr : fr + 1 ≤ R.frames ∧ 8 + (1 + 11) + lo ≤ R.locals) (hcs : cells + mc ≤ R.cells ∧ slots + ms ≤ R.slots) (hst : st = As.reverse ++ .ref (B + o) :: rest) (hW : (rest.map fun v => v.category).sum ≤ 8) (hdg : decode cc pc = .ok (.invokevirtual 113, 3))
    (kk : ∀ (H1 : Heap) (locs1 : List Loc), JL E B s n1 f1 H1 locs1 → W p l e R s m args below meth c H1 locs1 (cells + mc) (slots + ms) Q (F0 m (pc + 3) ls (rv :: rest))) : W p l e R s m args below meth c H locs cells slots Q (F0 m pc ls st) :=
  rcallV X hJ hC (tw (i := 658) (by decide +kernel) (by decide)) ti_X6_fault te_X6_fault tn_6 tk_X6_fault ⟨by decide +kernel, by decide +kernel, by rw [hn]; decide +kernel⟩ rfl rfl ho hf hls hfr hcs hst hW hdg kk
theorem kL_116 (X : Cx p s m args c cc nL RL E B) (hJ : JL E B s n f H locs) (hC : Ct l yX7_fault cX7_fault 2 (some .int) fr lo mc ms E B (.ref (B + o) :: As) n f (some rv) n1 f1) (hn : As.length = 0) {fs : List Value} (ho : o < n) (hf : f o = .inr (7, fs)) (hls : ls.size = nL) (hfr : fr + 1 ≤ R.frames ∧ 8 + (2 + 11) + lo ≤ R.locals) (hcs : cells + mc ≤ R.cells ∧ slots + ms ≤ R.slots) (hst : st = As.reverse ++ .ref (B + o) :: rest) (hW : (rest.map fun v => v.category).sum ≤ 8) (hdg : decode cc pc = .ok (.invokevirtual 116, 3))
    (kk : ∀ (H1 : Heap) (locs1 : List Loc), JL E B s n1 f1 H1 locs1 → W p l e R s m args below meth c H1 locs1 (cells + mc) (slots + ms) Q (F0 m (pc + 3) ls (rv :: rest))) : W p l e R s m args below meth c H locs cells slots Q (F0 m pc ls st) :=
  rcallV X hJ hC (tw (i := 1045) (by decide +kernel) (by decide)) ti_X7_fault te_X7_fault tn_7 tk_X7_fault ⟨by decide +kernel, by decide +kernel, by rw [hn]; decide +kernel⟩ rfl rfl ho hf hls hfr hcs hst hW hdg kk
theorem kL_117 (X : Cx p s m args c cc nL RL E B) (hJ : JL E B s n f H locs) (hC : Ct l yX6_carryOut cX6_carryOut 2 (some .int) fr lo mc ms E B (.ref (B + o) :: As) n f (some rv) n1 f1) (hn : As.length = 0) {fs : List Value} (ho : o < n) (hf : f o = .inr (6, fs)) (hls : ls.size = nL) (hfr : fr + 1 ≤ R.frames ∧ 8 + (2 + 11) + lo ≤ R.locals) (hcs : cells + mc ≤ R.cells ∧ slots + ms ≤ R.slots) (hst : st = As.reverse ++ .ref (B + o) :: rest) (hW : (rest.map fun v => v.category).sum ≤ 8) (hdg : decode cc pc = .ok (.invokevirtual 117, 3))
    (kk : ∀ (H1 : Heap) (locs1 : List Loc), JL E B s n1 f1 H1 locs1 → W p l e R s m args below meth c H1 locs1 (cells + mc) (slots + ms) Q (F0 m (pc + 3) ls (rv :: rest))) : W p l e R s m args below meth c H locs cells slots Q (F0 m pc ls st) :=
  rcallV X hJ hC (tw (i := 706) (by decide +kernel) (by decide)) ti_X6_carryOut te_X6_carryOut tn_6 tk_X6_carryOut ⟨by decide +kernel, by decide +kernel, by rw [hn]; decide +kernel⟩ rfl rfl ho hf hls hfr hcs hst hW hdg kk
theorem kL_120 (X : Cx p s m args c cc nL RL E B) (hJ : JL E B s n f H locs) (hC : Ct l yX7_carryOut cX7_carryOut 5 (some .int) fr lo mc ms E B (.ref (B + o) :: As) n f (some rv) n1 f1) (hn : As.length = 0) {fs : List Value} (ho : o < n) (hf : f o = .inr (7, fs)) (hls : ls.size = nL) (hfr : fr + 1 ≤ R.frames ∧ 8 + (5 + 11) + lo ≤ R.locals) (hcs : cells + mc ≤ R.cells ∧ slots + ms ≤ R.slots) (hst : st = As.reverse ++ .ref (B + o) :: rest) (hW : (rest.map fun v => v.category).sum ≤ 8) (hdg : decode cc pc = .ok (.invokevirtual 120, 3))
    (kk : ∀ (H1 : Heap) (locs1 : List Loc), JL E B s n1 f1 H1 locs1 → W p l e R s m args below meth c H1 locs1 (cells + mc) (slots + ms) Q (F0 m (pc + 3) ls (rv :: rest))) : W p l e R s m args below meth c H locs cells slots Q (F0 m pc ls st) :=
  rcallV X hJ hC (tw (i := 1082) (by decide +kernel) (by decide)) ti_X7_carryOut te_X7_carryOut tn_7 tk_X7_carryOut ⟨by decide +kernel, by decide +kernel, by rw [hn]; decide +kernel⟩ rfl rfl ho hf hls hfr hcs hst hW hdg kk
theorem kL_121 (X : Cx p s m args c cc nL RL E B) (hJ : JL E B s n f H locs) (hC : Ct l yX6_undo cX6_undo 1 (some .int) fr lo mc ms E B (.ref (B + o) :: As) n f (some rv) n1 f1) (hn : As.length = 0) {fs : List Value} (ho : o < n) (hf : f o = .inr (6, fs)) (hls : ls.size = nL) (hfr : fr + 1 ≤ R.frames ∧ 8 + (1 + 11) + lo ≤ R.locals) (hcs : cells + mc ≤ R.cells ∧ slots + ms ≤ R.slots) (hst : st = As.reverse ++ .ref (B + o) :: rest) (hW : (rest.map fun v => v.category).sum ≤ 8) (hdg : decode cc pc = .ok (.invokevirtual 121, 3))
    (kk : ∀ (H1 : Heap) (locs1 : List Loc), JL E B s n1 f1 H1 locs1 → W p l e R s m args below meth c H1 locs1 (cells + mc) (slots + ms) Q (F0 m (pc + 3) ls (rv :: rest))) : W p l e R s m args below meth c H locs cells slots Q (F0 m pc ls st) :=
  rcallV X hJ hC (tw (i := 717) (by decide +kernel) (by decide)) ti_X6_undo te_X6_undo tn_6 tk_X6_undo ⟨by decide +kernel, by decide +kernel, by rw [hn]; decide +kernel⟩ rfl rfl ho hf hls hfr hcs hst hW hdg kk
theorem kL_124 (X : Cx p s m args c cc nL RL E B) (hJ : JL E B s n f H locs) (hC : Ct l yX7_undo cX7_undo 1 (some .int) fr lo mc ms E B (.ref (B + o) :: As) n f (some rv) n1 f1) (hn : As.length = 0) {fs : List Value} (ho : o < n) (hf : f o = .inr (7, fs)) (hls : ls.size = nL) (hfr : fr + 1 ≤ R.frames ∧ 8 + (1 + 11) + lo ≤ R.locals) (hcs : cells + mc ≤ R.cells ∧ slots + ms ≤ R.slots) (hst : st = As.reverse ++ .ref (B + o) :: rest) (hW : (rest.map fun v => v.category).sum ≤ 8) (hdg : decode cc pc = .ok (.invokevirtual 124, 3))
    (kk : ∀ (H1 : Heap) (locs1 : List Loc), JL E B s n1 f1 H1 locs1 → W p l e R s m args below meth c H1 locs1 (cells + mc) (slots + ms) Q (F0 m (pc + 3) ls (rv :: rest))) : W p l e R s m args below meth c H locs cells slots Q (F0 m pc ls st) :=
  rcallV X hJ hC (tw (i := 1095) (by decide +kernel) (by decide)) ti_X7_undo te_X7_undo tn_7 tk_X7_undo ⟨by decide +kernel, by decide +kernel, by rw [hn]; decide +kernel⟩ rfl rfl ho hf hls hfr hcs hst hW hdg kk
theorem kL_125 (X : Cx p s m args c cc nL RL E B) (hJ : JL E B s n f H locs) (hC : Ct l yX6_save cX6_save 2 (some .int) fr lo mc ms E B (.ref (B + o) :: As) n f (some rv) n1 f1) (hn : As.length = 1) {fs : List Value} (ho : o < n) (hf : f o = .inr (6, fs)) (hls : ls.size = nL) (hfr : fr + 1 ≤ R.frames ∧ 8 + (2 + 11) + lo ≤ R.locals) (hcs : cells + mc ≤ R.cells ∧ slots + ms ≤ R.slots) (hst : st = As.reverse ++ .ref (B + o) :: rest) (hW : (rest.map fun v => v.category).sum ≤ 8) (hdg : decode cc pc = .ok (.invokevirtual 125, 3))
    (kk : ∀ (H1 : Heap) (locs1 : List Loc), JL E B s n1 f1 H1 locs1 → W p l e R s m args below meth c H1 locs1 (cells + mc) (slots + ms) Q (F0 m (pc + 3) ls (rv :: rest))) : W p l e R s m args below meth c H locs cells slots Q (F0 m pc ls st) :=
  rcallV X hJ hC (tw (i := 725) (by decide +kernel) (by decide)) ti_X6_save te_X6_save tn_6 tk_X6_save ⟨by decide +kernel, by decide +kernel, by rw [hn]; decide +kernel⟩ rfl rfl ho hf hls hfr hcs hst hW hdg kk
theorem kL_128 (X : Cx p s m args c cc nL RL E B) (hJ : JL E B s n f H locs) (hC : Ct l yX7_save cX7_save 2 (some .int) fr lo mc ms E B (.ref (B + o) :: As) n f (some rv) n1 f1) (hn : As.length = 1) {fs : List Value} (ho : o < n) (hf : f o = .inr (7, fs)) (hls : ls.size = nL) (hfr : fr + 1 ≤ R.frames ∧ 8 + (2 + 11) + lo ≤ R.locals) (hcs : cells + mc ≤ R.cells ∧ slots + ms ≤ R.slots) (hst : st = As.reverse ++ .ref (B + o) :: rest) (hW : (rest.map fun v => v.category).sum ≤ 8) (hdg : decode cc pc = .ok (.invokevirtual 128, 3))
    (kk : ∀ (H1 : Heap) (locs1 : List Loc), JL E B s n1 f1 H1 locs1 → W p l e R s m args below meth c H1 locs1 (cells + mc) (slots + ms) Q (F0 m (pc + 3) ls (rv :: rest))) : W p l e R s m args below meth c H locs cells slots Q (F0 m pc ls st) :=
  rcallV X hJ hC (tw (i := 1099) (by decide +kernel) (by decide)) ti_X7_save te_X7_save tn_7 tk_X7_save ⟨by decide +kernel, by decide +kernel, by rw [hn]; decide +kernel⟩ rfl rfl ho hf hls hfr hcs hst hW hdg kk
theorem kL_129 (X : Cx p s m args c cc nL RL E B) (hJ : JL E B s n f H locs) (hC : Ct l yX6_restore cX6_restore 2 (some .int) fr lo mc ms E B (.ref (B + o) :: As) n f (some rv) n1 f1) (hn : As.length = 1) {fs : List Value} (ho : o < n) (hf : f o = .inr (6, fs)) (hls : ls.size = nL) (hfr : fr + 1 ≤ R.frames ∧ 8 + (2 + 11) + lo ≤ R.locals) (hcs : cells + mc ≤ R.cells ∧ slots + ms ≤ R.slots) (hst : st = As.reverse ++ .ref (B + o) :: rest) (hW : (rest.map fun v => v.category).sum ≤ 8) (hdg : decode cc pc = .ok (.invokevirtual 129, 3))
    (kk : ∀ (H1 : Heap) (locs1 : List Loc), JL E B s n1 f1 H1 locs1 → W p l e R s m args below meth c H1 locs1 (cells + mc) (slots + ms) Q (F0 m (pc + 3) ls (rv :: rest))) : W p l e R s m args below meth c H locs cells slots Q (F0 m pc ls st) :=
  rcallV X hJ hC (tw (i := 729) (by decide +kernel) (by decide)) ti_X6_restore te_X6_restore tn_6 tk_X6_restore ⟨by decide +kernel, by decide +kernel, by rw [hn]; decide +kernel⟩ rfl rfl ho hf hls hfr hcs hst hW hdg kk
theorem kL_132 (X : Cx p s m args c cc nL RL E B) (hJ : JL E B s n f H locs) (hC : Ct l yX7_restore cX7_restore 2 (some .int) fr lo mc ms E B (.ref (B + o) :: As) n f (some rv) n1 f1) (hn : As.length = 1) {fs : List Value} (ho : o < n) (hf : f o = .inr (7, fs)) (hls : ls.size = nL) (hfr : fr + 1 ≤ R.frames ∧ 8 + (2 + 11) + lo ≤ R.locals) (hcs : cells + mc ≤ R.cells ∧ slots + ms ≤ R.slots) (hst : st = As.reverse ++ .ref (B + o) :: rest) (hW : (rest.map fun v => v.category).sum ≤ 8) (hdg : decode cc pc = .ok (.invokevirtual 132, 3))
    (kk : ∀ (H1 : Heap) (locs1 : List Loc), JL E B s n1 f1 H1 locs1 → W p l e R s m args below meth c H1 locs1 (cells + mc) (slots + ms) Q (F0 m (pc + 3) ls (rv :: rest))) : W p l e R s m args below meth c H locs cells slots Q (F0 m pc ls st) :=
  rcallV X hJ hC (tw (i := 1106) (by decide +kernel) (by decide)) ti_X7_restore te_X7_restore tn_7 tk_X7_restore ⟨by decide +kernel, by decide +kernel, by rw [hn]; decide +kernel⟩ rfl rfl ho hf hls hfr hcs hst hW hdg kk
theorem kX7_1 (X : Cx p s m args c cc nL RX7 E B) (hls : ls.size = nL) (hfr : 1 ≤ R.frames ∧ (rest.map fun v => v.category).sum + 12 ≤ R.locals) (hcs : cells ≤ R.cells ∧ slots ≤ R.slots) (hdg : decode cc pc = .ok (.invokespecial 1, 3))
    (kk : W p l e R s m args below meth c H locs cells slots Q (F0 m (pc + 3) ls rest)) : W p l e R s m args below meth c H locs cells slots Q (F0 m pc ls (.ref b :: rest)) :=
  robj X (tw (i := 738) (by decide +kernel) (by decide)) tw_obj_i tw_obj_c hls hfr hcs hdg kk
theorem kX7_27 (X : Cx p s m args c cc nL RX7 E B) (hJ : JL E B s n f H locs) (hC : Ct l yX7_copies cX7_copies 4 none fr lo mc ms E B (.ref (B + o) :: As) n f none n1 f1) (hn : As.length = 2) {fs : List Value} (ho : o < n) (hf : f o = .inr (7, fs)) (hls : ls.size = nL) (hfr : fr + 1 ≤ R.frames ∧ 8 + (4 + 11) + lo ≤ R.locals) (hcs : cells + mc ≤ R.cells ∧ slots + ms ≤ R.slots) (hst : st = As.reverse ++ .ref (B + o) :: rest) (hW : (rest.map fun v => v.category).sum ≤ 8) (hdg : decode cc pc = .ok (.invokevirtual 27, 3))
    (kk : ∀ (H1 : Heap) (locs1 : List Loc), JL E B s n1 f1 H1 locs1 → W p l e R s m args below meth c H1 locs1 (cells + mc) (slots + ms) Q (F0 m (pc + 3) ls (rest))) : W p l e R s m args below meth c H locs cells slots Q (F0 m pc ls st) :=
  rcallV X hJ hC (tw (i := 789) (by decide +kernel) (by decide)) ti_X7_copies te_X7_copies tn_7 tk_X7_copies ⟨by decide +kernel, by decide +kernel, by rw [hn]; decide +kernel⟩ rfl rfl ho hf hls hfr hcs hst hW hdg kk
theorem kX7_31 (X : Cx p s m args c cc nL RX7 E B) (hJ : JL E B s n f H locs) (hC : Ct l yX7_bridgeAt cX7_bridgeAt 2 (some .int) fr lo mc ms E B As n f (some rv) n1 f1) (hn : As.length = 2) (hls : ls.size = nL) (hfr : fr + 1 ≤ R.frames ∧ 8 + (2 + 11) + lo ≤ R.locals) (hcs : cells + mc ≤ R.cells ∧ slots + ms ≤ R.slots) (hst : st = As.reverse ++ rest) (hW : (rest.map fun v => v.category).sum ≤ 8) (hdg : decode cc pc = .ok (.invokestatic 31, 3))
    (kk : ∀ (H1 : Heap) (locs1 : List Loc), JL E B s n1 f1 H1 locs1 → W p l e R s m args below meth c H1 locs1 (cells + mc) (slots + ms) Q (F0 m (pc + 3) ls (rv :: rest))) : W p l e R s m args below meth c H locs cells slots Q (F0 m pc ls st) :=
  rcallS X hJ hC rfl (tw (i := 811) (by decide +kernel) (by decide)) ts_X7_bridgeAt tn_7 tk_X7_bridgeAt ⟨by decide +kernel, by decide +kernel, by rw [hn]; decide +kernel⟩ hls hfr hcs hst hW hdg kk
theorem kX7_36 (X : Cx p s m args c cc nL RX7 E B) (hJ : JL E B s n f H locs) (hC : Ct l yX7_rangeAt cX7_rangeAt 3 (some .int) fr lo mc ms E B As n f (some rv) n1 f1) (hn : As.length = 3) (hls : ls.size = nL) (hfr : fr + 1 ≤ R.frames ∧ 8 + (3 + 11) + lo ≤ R.locals) (hcs : cells + mc ≤ R.cells ∧ slots + ms ≤ R.slots) (hst : st = As.reverse ++ rest) (hW : (rest.map fun v => v.category).sum ≤ 8) (hdg : decode cc pc = .ok (.invokestatic 36, 3))
    (kk : ∀ (H1 : Heap) (locs1 : List Loc), JL E B s n1 f1 H1 locs1 → W p l e R s m args below meth c H1 locs1 (cells + mc) (slots + ms) Q (F0 m (pc + 3) ls (rv :: rest))) : W p l e R s m args below meth c H locs cells slots Q (F0 m pc ls st) :=
  rcallS X hJ hC rfl (tw (i := 819) (by decide +kernel) (by decide)) ts_X7_rangeAt tn_7 tk_X7_rangeAt ⟨by decide +kernel, by decide +kernel, by rw [hn]; decide +kernel⟩ hls hfr hcs hst hW hdg kk
theorem kX7_40 (X : Cx p s m args c cc nL RX7 E B) (hJ : JL E B s n f H locs) (hC : Ct l yX7_cartAt cX7_cartAt 2 (some .int) fr lo mc ms E B As n f (some rv) n1 f1) (hn : As.length = 2) (hls : ls.size = nL) (hfr : fr + 1 ≤ R.frames ∧ 8 + (2 + 11) + lo ≤ R.locals) (hcs : cells + mc ≤ R.cells ∧ slots + ms ≤ R.slots) (hst : st = As.reverse ++ rest) (hW : (rest.map fun v => v.category).sum ≤ 8) (hdg : decode cc pc = .ok (.invokestatic 40, 3))
    (kk : ∀ (H1 : Heap) (locs1 : List Loc), JL E B s n1 f1 H1 locs1 → W p l e R s m args below meth c H1 locs1 (cells + mc) (slots + ms) Q (F0 m (pc + 3) ls (rv :: rest))) : W p l e R s m args below meth c H locs cells slots Q (F0 m pc ls st) :=
  rcallS X hJ hC rfl (tw (i := 835) (by decide +kernel) (by decide)) ts_X7_cartAt tn_7 tk_X7_cartAt ⟨by decide +kernel, by decide +kernel, by rw [hn]; decide +kernel⟩ hls hfr hcs hst hW hdg kk
theorem kX7_43 (X : Cx p s m args c cc nL RX7 E B) (hJ : JL E B s n f H locs) (hC : Ct l yX7_size cX7_size 1 (some .int) fr lo mc ms E B As n f (some rv) n1 f1) (hn : As.length = 1) (hls : ls.size = nL) (hfr : fr + 1 ≤ R.frames ∧ 8 + (1 + 11) + lo ≤ R.locals) (hcs : cells + mc ≤ R.cells ∧ slots + ms ≤ R.slots) (hst : st = As.reverse ++ rest) (hW : (rest.map fun v => v.category).sum ≤ 8) (hdg : decode cc pc = .ok (.invokestatic 43, 3))
    (kk : ∀ (H1 : Heap) (locs1 : List Loc), JL E B s n1 f1 H1 locs1 → W p l e R s m args below meth c H1 locs1 (cells + mc) (slots + ms) Q (F0 m (pc + 3) ls (rv :: rest))) : W p l e R s m args below meth c H locs cells slots Q (F0 m pc ls st) :=
  rcallS X hJ hC rfl (tw (i := 935) (by decide +kernel) (by decide)) ts_X7_size tn_7 tk_X7_size ⟨by decide +kernel, by decide +kernel, by rw [hn]; decide +kernel⟩ hls hfr hcs hst hW hdg kk
theorem kX7_47 (X : Cx p s m args c cc nL RX7 E B) (hJ : JL E B s n f H locs) (hC : Ct l yX7_many cX7_many 5 (some .int) fr lo mc ms E B (.ref (B + o) :: As) n f (some rv) n1 f1) (hn : As.length = 2) {fs : List Value} (ho : o < n) (hf : f o = .inr (7, fs)) (hls : ls.size = nL) (hfr : fr + 1 ≤ R.frames ∧ 8 + (5 + 11) + lo ≤ R.locals) (hcs : cells + mc ≤ R.cells ∧ slots + ms ≤ R.slots) (hst : st = As.reverse ++ .ref (B + o) :: rest) (hW : (rest.map fun v => v.category).sum ≤ 8) (hdg : decode cc pc = .ok (.invokevirtual 47, 3))
    (kk : ∀ (H1 : Heap) (locs1 : List Loc), JL E B s n1 f1 H1 locs1 → W p l e R s m args below meth c H1 locs1 (cells + mc) (slots + ms) Q (F0 m (pc + 3) ls (rv :: rest))) : W p l e R s m args below meth c H locs cells slots Q (F0 m pc ls st) :=
  rcallV X hJ hC (tw (i := 866) (by decide +kernel) (by decide)) ti_X7_many te_X7_many tn_7 tk_X7_many ⟨by decide +kernel, by decide +kernel, by rw [hn]; decide +kernel⟩ rfl rfl ho hf hls hfr hcs hst hW hdg kk
theorem kX7_50 (X : Cx p s m args c cc nL RX7 E B) (hJ : JL E B s n f H locs) (hC : Ct l yX7_waiter cX7_waiter 7 (some .int) fr lo mc ms E B (.ref (B + o) :: As) n f (some rv) n1 f1) (hn : As.length = 3) {fs : List Value} (ho : o < n) (hf : f o = .inr (7, fs)) (hls : ls.size = nL) (hfr : fr + 1 ≤ R.frames ∧ 8 + (7 + 11) + lo ≤ R.locals) (hcs : cells + mc ≤ R.cells ∧ slots + ms ≤ R.slots) (hst : st = As.reverse ++ .ref (B + o) :: rest) (hW : (rest.map fun v => v.category).sum ≤ 8) (hdg : decode cc pc = .ok (.invokevirtual 50, 3))
    (kk : ∀ (H1 : Heap) (locs1 : List Loc), JL E B s n1 f1 H1 locs1 → W p l e R s m args below meth c H1 locs1 (cells + mc) (slots + ms) Q (F0 m (pc + 3) ls (rv :: rest))) : W p l e R s m args below meth c H locs cells slots Q (F0 m pc ls st) :=
  rcallV X hJ hC (tw (i := 927) (by decide +kernel) (by decide)) ti_X7_waiter te_X7_waiter tn_7 tk_X7_waiter ⟨by decide +kernel, by decide +kernel, by rw [hn]; decide +kernel⟩ rfl rfl ho hf hls hfr hcs hst hW hdg kk
theorem kX7_53 (X : Cx p s m args c cc nL RX7 E B) (hJ : JL E B s n f H locs) (hC : Ct l yX7_far cX7_far 4 (some .int) fr lo mc ms E B (.ref (B + o) :: As) n f (some rv) n1 f1) (hn : As.length = 2) {fs : List Value} (ho : o < n) (hf : f o = .inr (7, fs)) (hls : ls.size = nL) (hfr : fr + 1 ≤ R.frames ∧ 8 + (4 + 11) + lo ≤ R.locals) (hcs : cells + mc ≤ R.cells ∧ slots + ms ≤ R.slots) (hst : st = As.reverse ++ .ref (B + o) :: rest) (hW : (rest.map fun v => v.category).sum ≤ 8) (hdg : decode cc pc = .ok (.invokevirtual 53, 3))
    (kk : ∀ (H1 : Heap) (locs1 : List Loc), JL E B s n1 f1 H1 locs1 → W p l e R s m args below meth c H1 locs1 (cells + mc) (slots + ms) Q (F0 m (pc + 3) ls (rv :: rest))) : W p l e R s m args below meth c H locs cells slots Q (F0 m pc ls st) :=
  rcallV X hJ hC (tw (i := 931) (by decide +kernel) (by decide)) ti_X7_far te_X7_far tn_7 tk_X7_far ⟨by decide +kernel, by decide +kernel, by rw [hn]; decide +kernel⟩ rfl rfl ho hf hls hfr hcs hst hW hdg kk
theorem kX7_56 (X : Cx p s m args c cc nL RX7 E B) (hJ : JL E B s n f H locs) (hC : Ct l yX7_areAsNear cX7_areAsNear 3 (some .boolean) fr lo mc ms E B (.ref (B + o) :: As) n f (some rv) n1 f1) (hn : As.length = 2) {fs : List Value} (ho : o < n) (hf : f o = .inr (7, fs)) (hls : ls.size = nL) (hfr : fr + 1 ≤ R.frames ∧ 8 + (3 + 11) + lo ≤ R.locals) (hcs : cells + mc ≤ R.cells ∧ slots + ms ≤ R.slots) (hst : st = As.reverse ++ .ref (B + o) :: rest) (hW : (rest.map fun v => v.category).sum ≤ 8) (hdg : decode cc pc = .ok (.invokevirtual 56, 3))
    (kk : ∀ (H1 : Heap) (locs1 : List Loc), JL E B s n1 f1 H1 locs1 → W p l e R s m args below meth c H1 locs1 (cells + mc) (slots + ms) Q (F0 m (pc + 3) ls (rv :: rest))) : W p l e R s m args below meth c H locs cells slots Q (F0 m pc ls st) :=
  rcallV X hJ hC (tw (i := 923) (by decide +kernel) (by decide)) ti_X7_areAsNear te_X7_areAsNear tn_7 tk_X7_areAsNear ⟨by decide +kernel, by decide +kernel, by rw [hn]; decide +kernel⟩ rfl rfl ho hf hls hfr hcs hst hW hdg kk
theorem kX7_60 (X : Cx p s m args c cc nL RX7 E B) (hJ : JL E B s n f H locs) (hC : Ct l yX7_comer cX7_comer 8 (some .int) fr lo mc ms E B (.ref (B + o) :: As) n f (some rv) n1 f1) (hn : As.length = 2) {fs : List Value} (ho : o < n) (hf : f o = .inr (7, fs)) (hls : ls.size = nL) (hfr : fr + 1 ≤ R.frames ∧ 8 + (8 + 11) + lo ≤ R.locals) (hcs : cells + mc ≤ R.cells ∧ slots + ms ≤ R.slots) (hst : st = As.reverse ++ .ref (B + o) :: rest) (hW : (rest.map fun v => v.category).sum ≤ 8) (hdg : decode cc pc = .ok (.invokevirtual 60, 3))
    (kk : ∀ (H1 : Heap) (locs1 : List Loc), JL E B s n1 f1 H1 locs1 → W p l e R s m args below meth c H1 locs1 (cells + mc) (slots + ms) Q (F0 m (pc + 3) ls (rv :: rest))) : W p l e R s m args below meth c H locs cells slots Q (F0 m pc ls st) :=
  rcallV X hJ hC (tw (i := 938) (by decide +kernel) (by decide)) ti_X7_comer te_X7_comer tn_7 tk_X7_comer ⟨by decide +kernel, by decide +kernel, by rw [hn]; decide +kernel⟩ rfl rfl ho hf hls hfr hcs hst hW hdg kk
theorem kX7_63 (X : Cx p s m args c cc nL RX7 E B) (hJ : JL E B s n f H locs) (hC : Ct l yX7_pays cX7_pays 5 none fr lo mc ms E B (.ref (B + o) :: As) n f none n1 f1) (hn : As.length = 4) {fs : List Value} (ho : o < n) (hf : f o = .inr (7, fs)) (hls : ls.size = nL) (hfr : fr + 1 ≤ R.frames ∧ 8 + (5 + 11) + lo ≤ R.locals) (hcs : cells + mc ≤ R.cells ∧ slots + ms ≤ R.slots) (hst : st = As.reverse ++ .ref (B + o) :: rest) (hW : (rest.map fun v => v.category).sum ≤ 8) (hdg : decode cc pc = .ok (.invokevirtual 63, 3))
    (kk : ∀ (H1 : Heap) (locs1 : List Loc), JL E B s n1 f1 H1 locs1 → W p l e R s m args below meth c H1 locs1 (cells + mc) (slots + ms) Q (F0 m (pc + 3) ls (rest))) : W p l e R s m args below meth c H locs cells slots Q (F0 m pc ls st) :=
  rcallV X hJ hC (tw (i := 898) (by decide +kernel) (by decide)) ti_X7_pays te_X7_pays tn_7 tk_X7_pays ⟨by decide +kernel, by decide +kernel, by rw [hn]; decide +kernel⟩ rfl rfl ho hf hls hfr hcs hst hW hdg kk
theorem kX7_67 (X : Cx p s m args c cc nL RX7 E B) (hJ : JL E B s n f H locs) (hC : Ct l yX7_stopsWaiting cX7_stopsWaiting 6 none fr lo mc ms E B (.ref (B + o) :: As) n f none n1 f1) (hn : As.length = 2) {fs : List Value} (ho : o < n) (hf : f o = .inr (7, fs)) (hls : ls.size = nL) (hfr : fr + 1 ≤ R.frames ∧ 8 + (6 + 11) + lo ≤ R.locals) (hcs : cells + mc ≤ R.cells ∧ slots + ms ≤ R.slots) (hst : st = As.reverse ++ .ref (B + o) :: rest) (hW : (rest.map fun v => v.category).sum ≤ 8) (hdg : decode cc pc = .ok (.invokevirtual 67, 3))
    (kk : ∀ (H1 : Heap) (locs1 : List Loc), JL E B s n1 f1 H1 locs1 → W p l e R s m args below meth c H1 locs1 (cells + mc) (slots + ms) Q (F0 m (pc + 3) ls (rest))) : W p l e R s m args below meth c H locs cells slots Q (F0 m pc ls st) :=
  rcallV X hJ hC (tw (i := 882) (by decide +kernel) (by decide)) ti_X7_stopsWaiting te_X7_stopsWaiting tn_7 tk_X7_stopsWaiting ⟨by decide +kernel, by decide +kernel, by rw [hn]; decide +kernel⟩ rfl rfl ho hf hls hfr hcs hst hW hdg kk
theorem kX7_70 (X : Cx p s m args c cc nL RX7 E B) (hJ : JL E B s n f H locs) (hC : Ct l yX7_draws cX7_draws 5 none fr lo mc ms E B (.ref (B + o) :: As) n f none n1 f1) (hn : As.length = 2) {fs : List Value} (ho : o < n) (hf : f o = .inr (7, fs)) (hls : ls.size = nL) (hfr : fr + 1 ≤ R.frames ∧ 8 + (5 + 11) + lo ≤ R.locals) (hcs : cells + mc ≤ R.cells ∧ slots + ms ≤ R.slots) (hst : st = As.reverse ++ .ref (B + o) :: rest) (hW : (rest.map fun v => v.category).sum ≤ 8) (hdg : decode cc pc = .ok (.invokevirtual 70, 3))
    (kk : ∀ (H1 : Heap) (locs1 : List Loc), JL E B s n1 f1 H1 locs1 → W p l e R s m args below meth c H1 locs1 (cells + mc) (slots + ms) Q (F0 m (pc + 3) ls (rest))) : W p l e R s m args below meth c H locs cells slots Q (F0 m pc ls st) :=
  rcallV X hJ hC (tw (i := 814) (by decide +kernel) (by decide)) ti_X7_draws te_X7_draws tn_7 tk_X7_draws ⟨by decide +kernel, by decide +kernel, by rw [hn]; decide +kernel⟩ rfl rfl ho hf hls hfr hcs hst hW hdg kk
theorem kX7_73 (X : Cx p s m args c cc nL RX7 E B) (hJ : JL E B s n f H locs) (hC : Ct l yX7_opens cX7_opens 10 (some .boolean) fr lo mc ms E B (.ref (B + o) :: As) n f (some rv) n1 f1) (hn : As.length = 2) {fs : List Value} (ho : o < n) (hf : f o = .inr (7, fs)) (hls : ls.size = nL) (hfr : fr + 1 ≤ R.frames ∧ 8 + (10 + 11) + lo ≤ R.locals) (hcs : cells + mc ≤ R.cells ∧ slots + ms ≤ R.slots) (hst : st = As.reverse ++ .ref (B + o) :: rest) (hW : (rest.map fun v => v.category).sum ≤ 8) (hdg : decode cc pc = .ok (.invokevirtual 73, 3))
    (kk : ∀ (H1 : Heap) (locs1 : List Loc), JL E B s n1 f1 H1 locs1 → W p l e R s m args below meth c H1 locs1 (cells + mc) (slots + ms) Q (F0 m (pc + 3) ls (rv :: rest))) : W p l e R s m args below meth c H locs cells slots Q (F0 m pc ls st) :=
  rcallV X hJ hC (tw (i := 919) (by decide +kernel) (by decide)) ti_X7_opens te_X7_opens tn_7 tk_X7_opens ⟨by decide +kernel, by decide +kernel, by rw [hn]; decide +kernel⟩ rfl rfl ho hf hls hfr hcs hst hW hdg kk
theorem kX7_76 (X : Cx p s m args c cc nL RX7 E B) (hJ : JL E B s n f H locs) (hC : Ct l yX7_hour cX7_hour 4 (some .int) fr lo mc ms E B (.ref (B + o) :: As) n f (some rv) n1 f1) (hn : As.length = 1) {fs : List Value} (ho : o < n) (hf : f o = .inr (7, fs)) (hls : ls.size = nL) (hfr : fr + 1 ≤ R.frames ∧ 8 + (4 + 11) + lo ≤ R.locals) (hcs : cells + mc ≤ R.cells ∧ slots + ms ≤ R.slots) (hst : st = As.reverse ++ .ref (B + o) :: rest) (hW : (rest.map fun v => v.category).sum ≤ 8) (hdg : decode cc pc = .ok (.invokevirtual 76, 3))
    (kk : ∀ (H1 : Heap) (locs1 : List Loc), JL E B s n1 f1 H1 locs1 → W p l e R s m args below meth c H1 locs1 (cells + mc) (slots + ms) Q (F0 m (pc + 3) ls (rv :: rest))) : W p l e R s m args below meth c H locs cells slots Q (F0 m pc ls st) :=
  rcallV X hJ hC (tw (i := 915) (by decide +kernel) (by decide)) ti_X7_hour te_X7_hour tn_7 tk_X7_hour ⟨by decide +kernel, by decide +kernel, by rw [hn]; decide +kernel⟩ rfl rfl ho hf hls hfr hcs hst hW hdg kk
theorem kX7_81 (X : Cx p s m args c cc nL RX7 E B) (hJ : JL E B s n f H locs) (hC : Ct l yX7_in cX7_in 6 (some .boolean) fr lo mc ms E B As n f (some rv) n1 f1) (hn : As.length = 3) (hls : ls.size = nL) (hfr : fr + 1 ≤ R.frames ∧ 8 + (6 + 11) + lo ≤ R.locals) (hcs : cells + mc ≤ R.cells ∧ slots + ms ≤ R.slots) (hst : st = As.reverse ++ rest) (hW : (rest.map fun v => v.category).sum ≤ 8) (hdg : decode cc pc = .ok (.invokestatic 81, 3))
    (kk : ∀ (H1 : Heap) (locs1 : List Loc), JL E B s n1 f1 H1 locs1 → W p l e R s m args below meth c H1 locs1 (cells + mc) (slots + ms) Q (F0 m (pc + 3) ls (rv :: rest))) : W p l e R s m args below meth c H locs cells slots Q (F0 m pc ls st) :=
  rcallS X hJ hC rfl (tw (i := 781) (by decide +kernel) (by decide)) ts_X7_in tn_7 tk_X7_in ⟨by decide +kernel, by decide +kernel, by rw [hn]; decide +kernel⟩ hls hfr hcs hst hW hdg kk
theorem kX7_85 (X : Cx p s m args c cc nL RX7 E B) (hJ : JL E B s n f H locs) (hC : Ct l yX7_isTown cX7_isTown 1 (some .boolean) fr lo mc ms E B As n f (some rv) n1 f1) (hn : As.length = 1) (hls : ls.size = nL) (hfr : fr + 1 ≤ R.frames ∧ 8 + (1 + 11) + lo ≤ R.locals) (hcs : cells + mc ≤ R.cells ∧ slots + ms ≤ R.slots) (hst : st = As.reverse ++ rest) (hW : (rest.map fun v => v.category).sum ≤ 8) (hdg : decode cc pc = .ok (.invokestatic 85, 3))
    (kk : ∀ (H1 : Heap) (locs1 : List Loc), JL E B s n1 f1 H1 locs1 → W p l e R s m args below meth c H1 locs1 (cells + mc) (slots + ms) Q (F0 m (pc + 3) ls (rv :: rest))) : W p l e R s m args below meth c H locs cells slots Q (F0 m pc ls st) :=
  rcallS X hJ hC rfl (tw (i := 801) (by decide +kernel) (by decide)) ts_X7_isTown tn_7 tk_X7_isTown ⟨by decide +kernel, by decide +kernel, by rw [hn]; decide +kernel⟩ hls hfr hcs hst hW hdg kk
theorem kX7_95 (X : Cx p s m args c cc nL RX7 E B) (hJ : JL E B s n f H locs) (hC : Ct l yX7_isCart cX7_isCart 2 (some .boolean) fr lo mc ms E B (.ref (B + o) :: As) n f (some rv) n1 f1) (hn : As.length = 1) {fs : List Value} (ho : o < n) (hf : f o = .inr (7, fs)) (hls : ls.size = nL) (hfr : fr + 1 ≤ R.frames ∧ 8 + (2 + 11) + lo ≤ R.locals) (hcs : cells + mc ≤ R.cells ∧ slots + ms ≤ R.slots) (hst : st = As.reverse ++ .ref (B + o) :: rest) (hW : (rest.map fun v => v.category).sum ≤ 8) (hdg : decode cc pc = .ok (.invokevirtual 95, 3))
    (kk : ∀ (H1 : Heap) (locs1 : List Loc), JL E B s n1 f1 H1 locs1 → W p l e R s m args below meth c H1 locs1 (cells + mc) (slots + ms) Q (F0 m (pc + 3) ls (rv :: rest))) : W p l e R s m args below meth c H locs cells slots Q (F0 m pc ls st) :=
  rcallV X hJ hC (tw (i := 846) (by decide +kernel) (by decide)) ti_X7_isCart te_X7_isCart tn_7 tk_X7_isCart ⟨by decide +kernel, by decide +kernel, by rw [hn]; decide +kernel⟩ rfl rfl ho hf hls hfr hcs hst hW hdg kk
theorem kX7_98 (X : Cx p s m args c cc nL RX7 E B) (hJ : JL E B s n f H locs) (hC : Ct l yX7_isBridge cX7_isBridge 2 (some .boolean) fr lo mc ms E B (.ref (B + o) :: As) n f (some rv) n1 f1) (hn : As.length = 1) {fs : List Value} (ho : o < n) (hf : f o = .inr (7, fs)) (hls : ls.size = nL) (hfr : fr + 1 ≤ R.frames ∧ 8 + (2 + 11) + lo ≤ R.locals) (hcs : cells + mc ≤ R.cells ∧ slots + ms ≤ R.slots) (hst : st = As.reverse ++ .ref (B + o) :: rest) (hW : (rest.map fun v => v.category).sum ≤ 8) (hdg : decode cc pc = .ok (.invokevirtual 98, 3))
    (kk : ∀ (H1 : Heap) (locs1 : List Loc), JL E B s n1 f1 H1 locs1 → W p l e R s m args below meth c H1 locs1 (cells + mc) (slots + ms) Q (F0 m (pc + 3) ls (rv :: rest))) : W p l e R s m args below meth c H locs cells slots Q (F0 m pc ls st) :=
  rcallV X hJ hC (tw (i := 850) (by decide +kernel) (by decide)) ti_X7_isBridge te_X7_isBridge tn_7 tk_X7_isBridge ⟨by decide +kernel, by decide +kernel, by rw [hn]; decide +kernel⟩ rfl rfl ho hf hls hfr hcs hst hW hdg kk
theorem kX7_101 (X : Cx p s m args c cc nL RX7 E B) (hJ : JL E B s n f H locs) (hC : Ct l yX7_isNumber cX7_isNumber 3 (some .boolean) fr lo mc ms E B (.ref (B + o) :: As) n f (some rv) n1 f1) (hn : As.length = 2) {fs : List Value} (ho : o < n) (hf : f o = .inr (7, fs)) (hls : ls.size = nL) (hfr : fr + 1 ≤ R.frames ∧ 8 + (3 + 11) + lo ≤ R.locals) (hcs : cells + mc ≤ R.cells ∧ slots + ms ≤ R.slots) (hst : st = As.reverse ++ .ref (B + o) :: rest) (hW : (rest.map fun v => v.category).sum ≤ 8) (hdg : decode cc pc = .ok (.invokevirtual 101, 3))
    (kk : ∀ (H1 : Heap) (locs1 : List Loc), JL E B s n1 f1 H1 locs1 → W p l e R s m args below meth c H1 locs1 (cells + mc) (slots + ms) Q (F0 m (pc + 3) ls (rv :: rest))) : W p l e R s m args below meth c H locs cells slots Q (F0 m pc ls st) :=
  rcallV X hJ hC (tw (i := 854) (by decide +kernel) (by decide)) ti_X7_isNumber te_X7_isNumber tn_7 tk_X7_isNumber ⟨by decide +kernel, by decide +kernel, by rw [hn]; decide +kernel⟩ rfl rfl ho hf hls hfr hcs hst hW hdg kk
theorem kX7_104 (X : Cx p s m args c cc nL RX7 E B) (hJ : JL E B s n f H locs) (hC : Ct l yX7_isAt cX7_isAt 4 (some .boolean) fr lo mc ms E B (.ref (B + o) :: As) n f (some rv) n1 f1) (hn : As.length = 3) {fs : List Value} (ho : o < n) (hf : f o = .inr (7, fs)) (hls : ls.size = nL) (hfr : fr + 1 ≤ R.frames ∧ 8 + (4 + 11) + lo ≤ R.locals) (hcs : cells + mc ≤ R.cells ∧ slots + ms ≤ R.slots) (hst : st = As.reverse ++ .ref (B + o) :: rest) (hW : (rest.map fun v => v.category).sum ≤ 8) (hdg : decode cc pc = .ok (.invokevirtual 104, 3))
    (kk : ∀ (H1 : Heap) (locs1 : List Loc), JL E B s n1 f1 H1 locs1 → W p l e R s m args below meth c H1 locs1 (cells + mc) (slots + ms) Q (F0 m (pc + 3) ls (rv :: rest))) : W p l e R s m args below meth c H locs cells slots Q (F0 m pc ls st) :=
  rcallV X hJ hC (tw (i := 858) (by decide +kernel) (by decide)) ti_X7_isAt te_X7_isAt tn_7 tk_X7_isAt ⟨by decide +kernel, by decide +kernel, by rw [hn]; decide +kernel⟩ rfl rfl ho hf hls hfr hcs hst hW hdg kk
theorem kX7_114 (X : Cx p s m args c cc nL RX7 E B) (hJ : JL E B s n f H locs) (hC : Ct l yX7_isValue cX7_isValue 2 (some .boolean) fr lo mc ms E B As n f (some rv) n1 f1) (hn : As.length = 2) (hls : ls.size = nL) (hfr : fr + 1 ≤ R.frames ∧ 8 + (2 + 11) + lo ≤ R.locals) (hcs : cells + mc ≤ R.cells ∧ slots + ms ≤ R.slots) (hst : st = As.reverse ++ rest) (hW : (rest.map fun v => v.category).sum ≤ 8) (hdg : decode cc pc = .ok (.invokestatic 114, 3))
    (kk : ∀ (H1 : Heap) (locs1 : List Loc), JL E B s n1 f1 H1 locs1 → W p l e R s m args below meth c H1 locs1 (cells + mc) (slots + ms) Q (F0 m (pc + 3) ls (rv :: rest))) : W p l e R s m args below meth c H locs cells slots Q (F0 m pc ls st) :=
  rcallS X hJ hC rfl (tw (i := 777) (by decide +kernel) (by decide)) ts_X7_isValue tn_7 tk_X7_isValue ⟨by decide +kernel, by decide +kernel, by rw [hn]; decide +kernel⟩ hls hfr hcs hst hW hdg kk
theorem kX7_117 (X : Cx p s m args c cc nL RX7 E B) (hJ : JL E B s n f H locs) (hC : Ct l yX7_changes cX7_changes 2 none fr lo mc ms E B (.ref (B + o) :: As) n f none n1 f1) (hn : As.length = 0) {fs : List Value} (ho : o < n) (hf : f o = .inr (7, fs)) (hls : ls.size = nL) (hfr : fr + 1 ≤ R.frames ∧ 8 + (2 + 11) + lo ≤ R.locals) (hcs : cells + mc ≤ R.cells ∧ slots + ms ≤ R.slots) (hst : st = As.reverse ++ .ref (B + o) :: rest) (hW : (rest.map fun v => v.category).sum ≤ 8) (hdg : decode cc pc = .ok (.invokevirtual 117, 3))
    (kk : ∀ (H1 : Heap) (locs1 : List Loc), JL E B s n1 f1 H1 locs1 → W p l e R s m args below meth c H1 locs1 (cells + mc) (slots + ms) Q (F0 m (pc + 3) ls (rest))) : W p l e R s m args below meth c H locs cells slots Q (F0 m pc ls st) :=
  rcallV X hJ hC (tw (i := 785) (by decide +kernel) (by decide)) ti_X7_changes te_X7_changes tn_7 tk_X7_changes ⟨by decide +kernel, by decide +kernel, by rw [hn]; decide +kernel⟩ rfl rfl ho hf hls hfr hcs hst hW hdg kk
theorem kX7_120 (X : Cx p s m args c cc nL RX7 E B) (hJ : JL E B s n f H locs) (hC : Ct l yX7_bridgeError cX7_bridgeError 4 (some .int) fr lo mc ms E B (.ref (B + o) :: As) n f (some rv) n1 f1) (hn : As.length = 3) {fs : List Value} (ho : o < n) (hf : f o = .inr (7, fs)) (hls : ls.size = nL) (hfr : fr + 1 ≤ R.frames ∧ 8 + (4 + 11) + lo ≤ R.locals) (hcs : cells + mc ≤ R.cells ∧ slots + ms ≤ R.slots) (hst : st = As.reverse ++ .ref (B + o) :: rest) (hW : (rest.map fun v => v.category).sum ≤ 8) (hdg : decode cc pc = .ok (.invokevirtual 120, 3))
    (kk : ∀ (H1 : Heap) (locs1 : List Loc), JL E B s n1 f1 H1 locs1 → W p l e R s m args below meth c H1 locs1 (cells + mc) (slots + ms) Q (F0 m (pc + 3) ls (rv :: rest))) : W p l e R s m args below meth c H locs cells slots Q (F0 m pc ls st) :=
  rcallV X hJ hC (tw (i := 797) (by decide +kernel) (by decide)) ti_X7_bridgeError te_X7_bridgeError tn_7 tk_X7_bridgeError ⟨by decide +kernel, by decide +kernel, by rw [hn]; decide +kernel⟩ rfl rfl ho hf hls hfr hcs hst hW hdg kk
theorem kX7_123 (X : Cx p s m args c cc nL RX7 E B) (hJ : JL E B s n f H locs) (hC : Ct l yX7_builds cX7_builds 7 (some .int) fr lo mc ms E B (.ref (B + o) :: As) n f (some rv) n1 f1) (hn : As.length = 3) {fs : List Value} (ho : o < n) (hf : f o = .inr (7, fs)) (hls : ls.size = nL) (hfr : fr + 1 ≤ R.frames ∧ 8 + (7 + 11) + lo ≤ R.locals) (hcs : cells + mc ≤ R.cells ∧ slots + ms ≤ R.slots) (hst : st = As.reverse ++ .ref (B + o) :: rest) (hW : (rest.map fun v => v.category).sum ≤ 8) (hdg : decode cc pc = .ok (.invokevirtual 123, 3))
    (kk : ∀ (H1 : Heap) (locs1 : List Loc), JL E B s n1 f1 H1 locs1 → W p l e R s m args below meth c H1 locs1 (cells + mc) (slots + ms) Q (F0 m (pc + 3) ls (rv :: rest))) : W p l e R s m args below meth c H locs cells slots Q (F0 m pc ls st) :=
  rcallV X hJ hC (tw (i := 807) (by decide +kernel) (by decide)) ti_X7_builds te_X7_builds tn_7 tk_X7_builds ⟨by decide +kernel, by decide +kernel, by rw [hn]; decide +kernel⟩ rfl rfl ho hf hls hfr hcs hst hW hdg kk
theorem kX7_126 (X : Cx p s m args c cc nL RX7 E B) (hJ : JL E B s n f H locs) (hC : Ct l yX7_cartError cX7_cartError 3 (some .int) fr lo mc ms E B (.ref (B + o) :: As) n f (some rv) n1 f1) (hn : As.length = 2) {fs : List Value} (ho : o < n) (hf : f o = .inr (7, fs)) (hls : ls.size = nL) (hfr : fr + 1 ≤ R.frames ∧ 8 + (3 + 11) + lo ≤ R.locals) (hcs : cells + mc ≤ R.cells ∧ slots + ms ≤ R.slots) (hst : st = As.reverse ++ .ref (B + o) :: rest) (hW : (rest.map fun v => v.category).sum ≤ 8) (hdg : decode cc pc = .ok (.invokevirtual 126, 3))
    (kk : ∀ (H1 : Heap) (locs1 : List Loc), JL E B s n1 f1 H1 locs1 → W p l e R s m args below meth c H1 locs1 (cells + mc) (slots + ms) Q (F0 m (pc + 3) ls (rv :: rest))) : W p l e R s m args below meth c H locs cells slots Q (F0 m pc ls st) :=
  rcallV X hJ hC (tw (i := 826) (by decide +kernel) (by decide)) ti_X7_cartError te_X7_cartError tn_7 tk_X7_cartError ⟨by decide +kernel, by decide +kernel, by rw [hn]; decide +kernel⟩ rfl rfl ho hf hls hfr hcs hst hW hdg kk
theorem kX7_129 (X : Cx p s m args c cc nL RX7 E B) (hJ : JL E B s n f H locs) (hC : Ct l yX7_comes cX7_comes 6 (some .int) fr lo mc ms E B (.ref (B + o) :: As) n f (some rv) n1 f1) (hn : As.length = 2) {fs : List Value} (ho : o < n) (hf : f o = .inr (7, fs)) (hls : ls.size = nL) (hfr : fr + 1 ≤ R.frames ∧ 8 + (6 + 11) + lo ≤ R.locals) (hcs : cells + mc ≤ R.cells ∧ slots + ms ≤ R.slots) (hst : st = As.reverse ++ .ref (B + o) :: rest) (hW : (rest.map fun v => v.category).sum ≤ 8) (hdg : decode cc pc = .ok (.invokevirtual 129, 3))
    (kk : ∀ (H1 : Heap) (locs1 : List Loc), JL E B s n1 f1 H1 locs1 → W p l e R s m args below meth c H1 locs1 (cells + mc) (slots + ms) Q (F0 m (pc + 3) ls (rv :: rest))) : W p l e R s m args below meth c H locs cells slots Q (F0 m pc ls st) :=
  rcallV X hJ hC (tw (i := 831) (by decide +kernel) (by decide)) ti_X7_comes te_X7_comes tn_7 tk_X7_comes ⟨by decide +kernel, by decide +kernel, by rw [hn]; decide +kernel⟩ rfl rfl ho hf hls hfr hcs hst hW hdg kk
theorem kX7_132 (X : Cx p s m args c cc nL RX7 E B) (hJ : JL E B s n f H locs) (hC : Ct l yX7_guessError cX7_guessError 4 (some .int) fr lo mc ms E B (.ref (B + o) :: As) n f (some rv) n1 f1) (hn : As.length = 3) {fs : List Value} (ho : o < n) (hf : f o = .inr (7, fs)) (hls : ls.size = nL) (hfr : fr + 1 ≤ R.frames ∧ 8 + (4 + 11) + lo ≤ R.locals) (hcs : cells + mc ≤ R.cells ∧ slots + ms ≤ R.slots) (hst : st = As.reverse ++ .ref (B + o) :: rest) (hW : (rest.map fun v => v.category).sum ≤ 8) (hdg : decode cc pc = .ok (.invokevirtual 132, 3))
    (kk : ∀ (H1 : Heap) (locs1 : List Loc), JL E B s n1 f1 H1 locs1 → W p l e R s m args below meth c H1 locs1 (cells + mc) (slots + ms) Q (F0 m (pc + 3) ls (rv :: rest))) : W p l e R s m args below meth c H locs cells slots Q (F0 m pc ls st) :=
  rcallV X hJ hC (tw (i := 842) (by decide +kernel) (by decide)) ti_X7_guessError te_X7_guessError tn_7 tk_X7_guessError ⟨by decide +kernel, by decide +kernel, by rw [hn]; decide +kernel⟩ rfl rfl ho hf hls hfr hcs hst hW hdg kk
theorem kX7_135 (X : Cx p s m args c cc nL RX7 E B) (hJ : JL E B s n f H locs) (hC : Ct l yX7_guesses cX7_guesses 5 (some .int) fr lo mc ms E B (.ref (B + o) :: As) n f (some rv) n1 f1) (hn : As.length = 3) {fs : List Value} (ho : o < n) (hf : f o = .inr (7, fs)) (hls : ls.size = nL) (hfr : fr + 1 ≤ R.frames ∧ 8 + (5 + 11) + lo ≤ R.locals) (hcs : cells + mc ≤ R.cells ∧ slots + ms ≤ R.slots) (hst : st = As.reverse ++ .ref (B + o) :: rest) (hW : (rest.map fun v => v.category).sum ≤ 8) (hdg : decode cc pc = .ok (.invokevirtual 135, 3))
    (kk : ∀ (H1 : Heap) (locs1 : List Loc), JL E B s n1 f1 H1 locs1 → W p l e R s m args below meth c H1 locs1 (cells + mc) (slots + ms) Q (F0 m (pc + 3) ls (rv :: rest))) : W p l e R s m args below meth c H locs cells slots Q (F0 m pc ls st) :=
  rcallV X hJ hC (tw (i := 862) (by decide +kernel) (by decide)) ti_X7_guesses te_X7_guesses tn_7 tk_X7_guesses ⟨by decide +kernel, by decide +kernel, by rw [hn]; decide +kernel⟩ rfl rfl ho hf hls hfr hcs hst hW hdg kk
theorem kX7_138 (X : Cx p s m args c cc nL RX7 E B) (hJ : JL E B s n f H locs) (hC : Ct l yX7_leaveError cX7_leaveError 2 (some .int) fr lo mc ms E B (.ref (B + o) :: As) n f (some rv) n1 f1) (hn : As.length = 1) {fs : List Value} (ho : o < n) (hf : f o = .inr (7, fs)) (hls : ls.size = nL) (hfr : fr + 1 ≤ R.frames ∧ 8 + (2 + 11) + lo ≤ R.locals) (hcs : cells + mc ≤ R.cells ∧ slots + ms ≤ R.slots) (hst : st = As.reverse ++ .ref (B + o) :: rest) (hW : (rest.map fun v => v.category).sum ≤ 8) (hdg : decode cc pc = .ok (.invokevirtual 138, 3))
    (kk : ∀ (H1 : Heap) (locs1 : List Loc), JL E B s n1 f1 H1 locs1 → W p l e R s m args below meth c H1 locs1 (cells + mc) (slots + ms) Q (F0 m (pc + 3) ls (rv :: rest))) : W p l e R s m args below meth c H locs cells slots Q (F0 m pc ls st) :=
  rcallV X hJ hC (tw (i := 874) (by decide +kernel) (by decide)) ti_X7_leaveError te_X7_leaveError tn_7 tk_X7_leaveError ⟨by decide +kernel, by decide +kernel, by rw [hn]; decide +kernel⟩ rfl rfl ho hf hls hfr hcs hst hW hdg kk
theorem kX7_141 (X : Cx p s m args c cc nL RX7 E B) (hJ : JL E B s n f H locs) (hC : Ct l yX7_leaves cX7_leaves 3 (some .int) fr lo mc ms E B (.ref (B + o) :: As) n f (some rv) n1 f1) (hn : As.length = 1) {fs : List Value} (ho : o < n) (hf : f o = .inr (7, fs)) (hls : ls.size = nL) (hfr : fr + 1 ≤ R.frames ∧ 8 + (3 + 11) + lo ≤ R.locals) (hcs : cells + mc ≤ R.cells ∧ slots + ms ≤ R.slots) (hst : st = As.reverse ++ .ref (B + o) :: rest) (hW : (rest.map fun v => v.category).sum ≤ 8) (hdg : decode cc pc = .ok (.invokevirtual 141, 3))
    (kk : ∀ (H1 : Heap) (locs1 : List Loc), JL E B s n1 f1 H1 locs1 → W p l e R s m args below meth c H1 locs1 (cells + mc) (slots + ms) Q (F0 m (pc + 3) ls (rv :: rest))) : W p l e R s m args below meth c H locs cells slots Q (F0 m pc ls st) :=
  rcallV X hJ hC (tw (i := 878) (by decide +kernel) (by decide)) ti_X7_leaves te_X7_leaves tn_7 tk_X7_leaves ⟨by decide +kernel, by decide +kernel, by rw [hn]; decide +kernel⟩ rfl rfl ho hf hls hfr hcs hst hW hdg kk
theorem kX7_144 (X : Cx p s m args c cc nL RX7 E B) (hJ : JL E B s n f H locs) (hC : Ct l yX7_hintError cX7_hintError 5 (some .int) fr lo mc ms E B (.ref (B + o) :: As) n f (some rv) n1 f1) (hn : As.length = 2) {fs : List Value} (ho : o < n) (hf : f o = .inr (7, fs)) (hls : ls.size = nL) (hfr : fr + 1 ≤ R.frames ∧ 8 + (5 + 11) + lo ≤ R.locals) (hcs : cells + mc ≤ R.cells ∧ slots + ms ≤ R.slots) (hst : st = As.reverse ++ .ref (B + o) :: rest) (hW : (rest.map fun v => v.category).sum ≤ 8) (hdg : decode cc pc = .ok (.invokevirtual 144, 3))
    (kk : ∀ (H1 : Heap) (locs1 : List Loc), JL E B s n1 f1 H1 locs1 → W p l e R s m args below meth c H1 locs1 (cells + mc) (slots + ms) Q (F0 m (pc + 3) ls (rv :: rest))) : W p l e R s m args below meth c H locs cells slots Q (F0 m pc ls st) :=
  rcallV X hJ hC (tw (i := 890) (by decide +kernel) (by decide)) ti_X7_hintError te_X7_hintError tn_7 tk_X7_hintError ⟨by decide +kernel, by decide +kernel, by rw [hn]; decide +kernel⟩ rfl rfl ho hf hls hfr hcs hst hW hdg kk
theorem kX7_147 (X : Cx p s m args c cc nL RX7 E B) (hJ : JL E B s n f H locs) (hC : Ct l yX7_hints cX7_hints 5 (some .int) fr lo mc ms E B (.ref (B + o) :: As) n f (some rv) n1 f1) (hn : As.length = 2) {fs : List Value} (ho : o < n) (hf : f o = .inr (7, fs)) (hls : ls.size = nL) (hfr : fr + 1 ≤ R.frames ∧ 8 + (5 + 11) + lo ≤ R.locals) (hcs : cells + mc ≤ R.cells ∧ slots + ms ≤ R.slots) (hst : st = As.reverse ++ .ref (B + o) :: rest) (hW : (rest.map fun v => v.category).sum ≤ 8) (hdg : decode cc pc = .ok (.invokevirtual 147, 3))
    (kk : ∀ (H1 : Heap) (locs1 : List Loc), JL E B s n1 f1 H1 locs1 → W p l e R s m args below meth c H1 locs1 (cells + mc) (slots + ms) Q (F0 m (pc + 3) ls (rv :: rest))) : W p l e R s m args below meth c H locs cells slots Q (F0 m pc ls st) :=
  rcallV X hJ hC (tw (i := 894) (by decide +kernel) (by decide)) ti_X7_hints te_X7_hints tn_7 tk_X7_hints ⟨by decide +kernel, by decide +kernel, by rw [hn]; decide +kernel⟩ rfl rfl ho hf hls hfr hcs hst hW hdg kk
theorem kX7_150 (X : Cx p s m args c cc nL RX7 E B) (hJ : JL E B s n f H locs) (hC : Ct l yX7_passError cX7_passError 2 (some .int) fr lo mc ms E B (.ref (B + o) :: As) n f (some rv) n1 f1) (hn : As.length = 1) {fs : List Value} (ho : o < n) (hf : f o = .inr (7, fs)) (hls : ls.size = nL) (hfr : fr + 1 ≤ R.frames ∧ 8 + (2 + 11) + lo ≤ R.locals) (hcs : cells + mc ≤ R.cells ∧ slots + ms ≤ R.slots) (hst : st = As.reverse ++ .ref (B + o) :: rest) (hW : (rest.map fun v => v.category).sum ≤ 8) (hdg : decode cc pc = .ok (.invokevirtual 150, 3))
    (kk : ∀ (H1 : Heap) (locs1 : List Loc), JL E B s n1 f1 H1 locs1 → W p l e R s m args below meth c H1 locs1 (cells + mc) (slots + ms) Q (F0 m (pc + 3) ls (rv :: rest))) : W p l e R s m args below meth c H locs cells slots Q (F0 m pc ls st) :=
  rcallV X hJ hC (tw (i := 906) (by decide +kernel) (by decide)) ti_X7_passError te_X7_passError tn_7 tk_X7_passError ⟨by decide +kernel, by decide +kernel, by rw [hn]; decide +kernel⟩ rfl rfl ho hf hls hfr hcs hst hW hdg kk
theorem kX7_153 (X : Cx p s m args c cc nL RX7 E B) (hJ : JL E B s n f H locs) (hC : Ct l yX7_hours cX7_hours 5 (some .int) fr lo mc ms E B (.ref (B + o) :: As) n f (some rv) n1 f1) (hn : As.length = 2) {fs : List Value} (ho : o < n) (hf : f o = .inr (7, fs)) (hls : ls.size = nL) (hfr : fr + 1 ≤ R.frames ∧ 8 + (5 + 11) + lo ≤ R.locals) (hcs : cells + mc ≤ R.cells ∧ slots + ms ≤ R.slots) (hst : st = As.reverse ++ .ref (B + o) :: rest) (hW : (rest.map fun v => v.category).sum ≤ 8) (hdg : decode cc pc = .ok (.invokevirtual 153, 3))
    (kk : ∀ (H1 : Heap) (locs1 : List Loc), JL E B s n1 f1 H1 locs1 → W p l e R s m args below meth c H1 locs1 (cells + mc) (slots + ms) Q (F0 m (pc + 3) ls (rv :: rest))) : W p l e R s m args below meth c H locs cells slots Q (F0 m pc ls st) :=
  rcallV X hJ hC (tw (i := 911) (by decide +kernel) (by decide)) ti_X7_hours te_X7_hours tn_7 tk_X7_hours ⟨by decide +kernel, by decide +kernel, by rw [hn]; decide +kernel⟩ rfl rfl ho hf hls hfr hcs hst hW hdg kk
theorem kX7_160 (X : Cx p s m args c cc nL RX7 E B) (hJ : JL E B s n f H locs) (hC : Ct l yX7_types cX7_types 2 none fr lo mc ms E B (.ref (B + o) :: As) n f none n1 f1) (hn : As.length = 1) {fs : List Value} (ho : o < n) (hf : f o = .inr (7, fs)) (hls : ls.size = nL) (hfr : fr + 1 ≤ R.frames ∧ 8 + (2 + 11) + lo ≤ R.locals) (hcs : cells + mc ≤ R.cells ∧ slots + ms ≤ R.slots) (hst : st = As.reverse ++ .ref (B + o) :: rest) (hW : (rest.map fun v => v.category).sum ≤ 8) (hdg : decode cc pc = .ok (.invokevirtual 160, 3))
    (kk : ∀ (H1 : Heap) (locs1 : List Loc), JL E B s n1 f1 H1 locs1 → W p l e R s m args below meth c H1 locs1 (cells + mc) (slots + ms) Q (F0 m (pc + 3) ls (rest))) : W p l e R s m args below meth c H locs cells slots Q (F0 m pc ls st) :=
  rcallV X hJ hC (tw (i := 946) (by decide +kernel) (by decide)) ti_X7_types te_X7_types tn_7 tk_X7_types ⟨by decide +kernel, by decide +kernel, by rw [hn]; decide +kernel⟩ rfl rfl ho hf hls hfr hcs hst hW hdg kk
theorem kX7_164 (X : Cx p s m args c cc nL RX7 E B) (hJ : JL E B s n f H locs) (hC : Ct l yX7_typesNumber cX7_typesNumber 3 none fr lo mc ms E B (.ref (B + o) :: As) n f none n1 f1) (hn : As.length = 1) {fs : List Value} (ho : o < n) (hf : f o = .inr (7, fs)) (hls : ls.size = nL) (hfr : fr + 1 ≤ R.frames ∧ 8 + (3 + 11) + lo ≤ R.locals) (hcs : cells + mc ≤ R.cells ∧ slots + ms ≤ R.slots) (hst : st = As.reverse ++ .ref (B + o) :: rest) (hW : (rest.map fun v => v.category).sum ≤ 8) (hdg : decode cc pc = .ok (.invokevirtual 164, 3))
    (kk : ∀ (H1 : Heap) (locs1 : List Loc), JL E B s n1 f1 H1 locs1 → W p l e R s m args below meth c H1 locs1 (cells + mc) (slots + ms) Q (F0 m (pc + 3) ls (rest))) : W p l e R s m args below meth c H locs cells slots Q (F0 m pc ls st) :=
  rcallV X hJ hC (tw (i := 950) (by decide +kernel) (by decide)) ti_X7_typesNumber te_X7_typesNumber tn_7 tk_X7_typesNumber ⟨by decide +kernel, by decide +kernel, by rw [hn]; decide +kernel⟩ rfl rfl ho hf hls hfr hcs hst hW hdg kk
theorem kX7_167 (X : Cx p s m args c cc nL RX7 E B) (hJ : JL E B s n f H locs) (hC : Ct l yX7_waitingSet cX7_waitingSet 4 (some .int) fr lo mc ms E B (.ref (B + o) :: As) n f (some rv) n1 f1) (hn : As.length = 1) {fs : List Value} (ho : o < n) (hf : f o = .inr (7, fs)) (hls : ls.size = nL) (hfr : fr + 1 ≤ R.frames ∧ 8 + (4 + 11) + lo ≤ R.locals) (hcs : cells + mc ≤ R.cells ∧ slots + ms ≤ R.slots) (hst : st = As.reverse ++ .ref (B + o) :: rest) (hW : (rest.map fun v => v.category).sum ≤ 8) (hdg : decode cc pc = .ok (.invokevirtual 167, 3))
    (kk : ∀ (H1 : Heap) (locs1 : List Loc), JL E B s n1 f1 H1 locs1 → W p l e R s m args below meth c H1 locs1 (cells + mc) (slots + ms) Q (F0 m (pc + 3) ls (rv :: rest))) : W p l e R s m args below meth c H locs cells slots Q (F0 m pc ls st) :=
  rcallV X hJ hC (tw (i := 979) (by decide +kernel) (by decide)) ti_X7_waitingSet te_X7_waitingSet tn_7 tk_X7_waitingSet ⟨by decide +kernel, by decide +kernel, by rw [hn]; decide +kernel⟩ rfl rfl ho hf hls hfr hcs hst hW hdg kk
theorem kX7_170 (X : Cx p s m args c cc nL RX7 E B) (hJ : JL E B s n f H locs) (hC : Ct l yX7_ofCarts cX7_ofCarts 5 (some .int) fr lo mc ms E B (.ref (B + o) :: As) n f (some rv) n1 f1) (hn : As.length = 2) {fs : List Value} (ho : o < n) (hf : f o = .inr (7, fs)) (hls : ls.size = nL) (hfr : fr + 1 ≤ R.frames ∧ 8 + (5 + 11) + lo ≤ R.locals) (hcs : cells + mc ≤ R.cells ∧ slots + ms ≤ R.slots) (hst : st = As.reverse ++ .ref (B + o) :: rest) (hW : (rest.map fun v => v.category).sum ≤ 8) (hdg : decode cc pc = .ok (.invokevirtual 170, 3))
    (kk : ∀ (H1 : Heap) (locs1 : List Loc), JL E B s n1 f1 H1 locs1 → W p l e R s m args below meth c H1 locs1 (cells + mc) (slots + ms) Q (F0 m (pc + 3) ls (rv :: rest))) : W p l e R s m args below meth c H locs cells slots Q (F0 m pc ls st) :=
  rcallV X hJ hC (tw (i := 983) (by decide +kernel) (by decide)) ti_X7_ofCarts te_X7_ofCarts tn_7 tk_X7_ofCarts ⟨by decide +kernel, by decide +kernel, by rw [hn]; decide +kernel⟩ rfl rfl ho hf hls hfr hcs hst hW hdg kk
theorem kX7_173 (X : Cx p s m args c cc nL RX7 E B) (hJ : JL E B s n f H locs) (hC : Ct l yX7_inTills cX7_inTills 3 (some .int) fr lo mc ms E B (.ref (B + o) :: As) n f (some rv) n1 f1) (hn : As.length = 0) {fs : List Value} (ho : o < n) (hf : f o = .inr (7, fs)) (hls : ls.size = nL) (hfr : fr + 1 ≤ R.frames ∧ 8 + (3 + 11) + lo ≤ R.locals) (hcs : cells + mc ≤ R.cells ∧ slots + ms ≤ R.slots) (hst : st = As.reverse ++ .ref (B + o) :: rest) (hW : (rest.map fun v => v.category).sum ≤ 8) (hdg : decode cc pc = .ok (.invokevirtual 173, 3))
    (kk : ∀ (H1 : Heap) (locs1 : List Loc), JL E B s n1 f1 H1 locs1 → W p l e R s m args below meth c H1 locs1 (cells + mc) (slots + ms) Q (F0 m (pc + 3) ls (rv :: rest))) : W p l e R s m args below meth c H locs cells slots Q (F0 m pc ls st) :=
  rcallV X hJ hC (tw (i := 987) (by decide +kernel) (by decide)) ti_X7_inTills te_X7_inTills tn_7 tk_X7_inTills ⟨by decide +kernel, by decide +kernel, by rw [hn]; decide +kernel⟩ rfl rfl ho hf hls hfr hcs hst hW hdg kk
theorem kX7_177 (X : Cx p s m args c cc nL RX7 E B) (hJ : JL E B s n f H locs) (hC : Ct l yX7_nearer cX7_nearer 6 (some .int) fr lo mc ms E B As n f (some rv) n1 f1) (hn : As.length = 4) (hls : ls.size = nL) (hfr : fr + 1 ≤ R.frames ∧ 8 + (6 + 11) + lo ≤ R.locals) (hcs : cells + mc ≤ R.cells ∧ slots + ms ≤ R.slots) (hst : st = As.reverse ++ rest) (hW : (rest.map fun v => v.category).sum ≤ 8) (hdg : decode cc pc = .ok (.invokestatic 177, 3))
    (kk : ∀ (H1 : Heap) (locs1 : List Loc), JL E B s n1 f1 H1 locs1 → W p l e R s m args below meth c H1 locs1 (cells + mc) (slots + ms) Q (F0 m (pc + 3) ls (rv :: rest))) : W p l e R s m args below meth c H locs cells slots Q (F0 m pc ls st) :=
  rcallS X hJ hC rfl (tw (i := 1007) (by decide +kernel) (by decide)) ts_X7_nearer tn_7 tk_X7_nearer ⟨by decide +kernel, by decide +kernel, by rw [hn]; decide +kernel⟩ hls hfr hcs hst hW hdg kk
theorem kX7_181 (X : Cx p s m args c cc nL RX7 E B) (hJ : JL E B s n f H locs) (hC : Ct l yX7_measures cX7_measures 6 none fr lo mc ms E B (.ref (B + o) :: As) n f none n1 f1) (hn : As.length = 1) {fs : List Value} (ho : o < n) (hf : f o = .inr (7, fs)) (hls : ls.size = nL) (hfr : fr + 1 ≤ R.frames ∧ 8 + (6 + 11) + lo ≤ R.locals) (hcs : cells + mc ≤ R.cells ∧ slots + ms ≤ R.slots) (hst : st = As.reverse ++ .ref (B + o) :: rest) (hW : (rest.map fun v => v.category).sum ≤ 8) (hdg : decode cc pc = .ok (.invokevirtual 181, 3))
    (kk : ∀ (H1 : Heap) (locs1 : List Loc), JL E B s n1 f1 H1 locs1 → W p l e R s m args below meth c H1 locs1 (cells + mc) (slots + ms) Q (F0 m (pc + 3) ls (rest))) : W p l e R s m args below meth c H locs cells slots Q (F0 m pc ls st) :=
  rcallV X hJ hC (tw (i := 1018) (by decide +kernel) (by decide)) ti_X7_measures te_X7_measures tn_7 tk_X7_measures ⟨by decide +kernel, by decide +kernel, by rw [hn]; decide +kernel⟩ rfl rfl ho hf hls hfr hcs hst hW hdg kk
theorem kX7_184 (X : Cx p s m args c cc nL RX7 E B) (hJ : JL E B s n f H locs) (hC : Ct l yX7_firstBridge cX7_firstBridge 7 (some .int) fr lo mc ms E B (.ref (B + o) :: As) n f (some rv) n1 f1) (hn : As.length = 1) {fs : List Value} (ho : o < n) (hf : f o = .inr (7, fs)) (hls : ls.size = nL) (hfr : fr + 1 ≤ R.frames ∧ 8 + (7 + 11) + lo ≤ R.locals) (hcs : cells + mc ≤ R.cells ∧ slots + ms ≤ R.slots) (hst : st = As.reverse ++ .ref (B + o) :: rest) (hW : (rest.map fun v => v.category).sum ≤ 8) (hdg : decode cc pc = .ok (.invokevirtual 184, 3))
    (kk : ∀ (H1 : Heap) (locs1 : List Loc), JL E B s n1 f1 H1 locs1 → W p l e R s m args below meth c H1 locs1 (cells + mc) (slots + ms) Q (F0 m (pc + 3) ls (rv :: rest))) : W p l e R s m args below meth c H locs cells slots Q (F0 m pc ls st) :=
  rcallV X hJ hC (tw (i := 1022) (by decide +kernel) (by decide)) ti_X7_firstBridge te_X7_firstBridge tn_7 tk_X7_firstBridge ⟨by decide +kernel, by decide +kernel, by rw [hn]; decide +kernel⟩ rfl rfl ho hf hls hfr hcs hst hW hdg kk
theorem kX7_195 (X : Cx p s m args c cc nL RX7 E B) (hJ : JL E B s n f H locs) (hC : Ct l yX7_charactersOf cX7_charactersOf 5 (some .int) fr lo mc ms E B As n f (some rv) n1 f1) (hn : As.length = 1) (hls : ls.size = nL) (hfr : fr + 1 ≤ R.frames ∧ 8 + (5 + 11) + lo ≤ R.locals) (hcs : cells + mc ≤ R.cells ∧ slots + ms ≤ R.slots) (hst : st = As.reverse ++ rest) (hW : (rest.map fun v => v.category).sum ≤ 8) (hdg : decode cc pc = .ok (.invokestatic 195, 3))
    (kk : ∀ (H1 : Heap) (locs1 : List Loc), JL E B s n1 f1 H1 locs1 → W p l e R s m args below meth c H1 locs1 (cells + mc) (slots + ms) Q (F0 m (pc + 3) ls (rv :: rest))) : W p l e R s m args below meth c H locs cells slots Q (F0 m pc ls st) :=
  rcallS X hJ hC rfl (tw (i := 1035) (by decide +kernel) (by decide)) ts_X7_charactersOf tn_7 tk_X7_charactersOf ⟨by decide +kernel, by decide +kernel, by rw [hn]; decide +kernel⟩ hls hfr hcs hst hW hdg kk
theorem kX7_202 (X : Cx p s m args c cc nL RX7 E B) (hJ : JL E B s n f H locs) (hC : Ct l yX7_isHere cX7_isHere 3 (some .boolean) fr lo mc ms E B (.ref (B + o) :: As) n f (some rv) n1 f1) (hn : As.length = 2) {fs : List Value} (ho : o < n) (hf : f o = .inr (7, fs)) (hls : ls.size = nL) (hfr : fr + 1 ≤ R.frames ∧ 8 + (3 + 11) + lo ≤ R.locals) (hcs : cells + mc ≤ R.cells ∧ slots + ms ≤ R.slots) (hst : st = As.reverse ++ .ref (B + o) :: rest) (hW : (rest.map fun v => v.category).sum ≤ 8) (hdg : decode cc pc = .ok (.invokevirtual 202, 3))
    (kk : ∀ (H1 : Heap) (locs1 : List Loc), JL E B s n1 f1 H1 locs1 → W p l e R s m args below meth c H1 locs1 (cells + mc) (slots + ms) Q (F0 m (pc + 3) ls (rv :: rest))) : W p l e R s m args below meth c H locs cells slots Q (F0 m pc ls st) :=
  rcallV X hJ hC (tw (i := 1061) (by decide +kernel) (by decide)) ti_X7_isHere te_X7_isHere tn_7 tk_X7_isHere ⟨by decide +kernel, by decide +kernel, by rw [hn]; decide +kernel⟩ rfl rfl ho hf hls hfr hcs hst hW hdg kk
theorem kX7_205 (X : Cx p s m args c cc nL RX7 E B) (hJ : JL E B s n f H locs) (hC : Ct l yX7_digit cX7_digit 2 (some .int) fr lo mc ms E B (.ref (B + o) :: As) n f (some rv) n1 f1) (hn : As.length = 0) {fs : List Value} (ho : o < n) (hf : f o = .inr (7, fs)) (hls : ls.size = nL) (hfr : fr + 1 ≤ R.frames ∧ 8 + (2 + 11) + lo ≤ R.locals) (hcs : cells + mc ≤ R.cells ∧ slots + ms ≤ R.slots) (hst : st = As.reverse ++ .ref (B + o) :: rest) (hW : (rest.map fun v => v.category).sum ≤ 8) (hdg : decode cc pc = .ok (.invokevirtual 205, 3))
    (kk : ∀ (H1 : Heap) (locs1 : List Loc), JL E B s n1 f1 H1 locs1 → W p l e R s m args below meth c H1 locs1 (cells + mc) (slots + ms) Q (F0 m (pc + 3) ls (rv :: rest))) : W p l e R s m args below meth c H locs cells slots Q (F0 m pc ls st) :=
  rcallV X hJ hC (tw (i := 1057) (by decide +kernel) (by decide)) ti_X7_digit te_X7_digit tn_7 tk_X7_digit ⟨by decide +kernel, by decide +kernel, by rw [hn]; decide +kernel⟩ rfl rfl ho hf hls hfr hcs hst hW hdg kk
theorem kX7_213 (X : Cx p s m args c cc nL RX7 E B) (hJ : JL E B s n f H locs) (hC : Ct l yX7_number cX7_number 2 (some .int) fr lo mc ms E B (.ref (B + o) :: As) n f (some rv) n1 f1) (hn : As.length = 0) {fs : List Value} (ho : o < n) (hf : f o = .inr (7, fs)) (hls : ls.size = nL) (hfr : fr + 1 ≤ R.frames ∧ 8 + (2 + 11) + lo ≤ R.locals) (hcs : cells + mc ≤ R.cells ∧ slots + ms ≤ R.slots) (hst : st = As.reverse ++ .ref (B + o) :: rest) (hW : (rest.map fun v => v.category).sum ≤ 8) (hdg : decode cc pc = .ok (.invokevirtual 213, 3))
    (kk : ∀ (H1 : Heap) (locs1 : List Loc), JL E B s n1 f1 H1 locs1 → W p l e R s m args below meth c H1 locs1 (cells + mc) (slots + ms) Q (F0 m (pc + 3) ls (rv :: rest))) : W p l e R s m args below meth c H locs cells slots Q (F0 m pc ls st) :=
  rcallV X hJ hC (tw (i := 1069) (by decide +kernel) (by decide)) ti_X7_number te_X7_number tn_7 tk_X7_number ⟨by decide +kernel, by decide +kernel, by rw [hn]; decide +kernel⟩ rfl rfl ho hf hls hfr hcs hst hW hdg kk
theorem kX7_226 (X : Cx p s m args c cc nL RX7 E B) (hJ : JL E B s n f H locs) (hC : Ct l yX7_readsOne cX7_readsOne 1 (some .boolean) fr lo mc ms E B (.ref (B + o) :: As) n f (some rv) n1 f1) (hn : As.length = 0) {fs : List Value} (ho : o < n) (hf : f o = .inr (7, fs)) (hls : ls.size = nL) (hfr : fr + 1 ≤ R.frames ∧ 8 + (1 + 11) + lo ≤ R.locals) (hcs : cells + mc ≤ R.cells ∧ slots + ms ≤ R.slots) (hst : st = As.reverse ++ .ref (B + o) :: rest) (hW : (rest.map fun v => v.category).sum ≤ 8) (hdg : decode cc pc = .ok (.invokevirtual 226, 3))
    (kk : ∀ (H1 : Heap) (locs1 : List Loc), JL E B s n1 f1 H1 locs1 → W p l e R s m args below meth c H1 locs1 (cells + mc) (slots + ms) Q (F0 m (pc + 3) ls (rv :: rest))) : W p l e R s m args below meth c H locs cells slots Q (F0 m pc ls st) :=
  rcallV X hJ hC (tw (i := 1053) (by decide +kernel) (by decide)) ti_X7_readsOne te_X7_readsOne tn_7 tk_X7_readsOne ⟨by decide +kernel, by decide +kernel, by rw [hn]; decide +kernel⟩ rfl rfl ho hf hls hfr hcs hst hW hdg kk
theorem kX7_230 (X : Cx p s m args c cc nL RX7 E B) (hJ : JL E B s n f H locs) (hC : Ct l yX7_readsTwo cX7_readsTwo 2 (some .boolean) fr lo mc ms E B (.ref (B + o) :: As) n f (some rv) n1 f1) (hn : As.length = 1) {fs : List Value} (ho : o < n) (hf : f o = .inr (7, fs)) (hls : ls.size = nL) (hfr : fr + 1 ≤ R.frames ∧ 8 + (2 + 11) + lo ≤ R.locals) (hcs : cells + mc ≤ R.cells ∧ slots + ms ≤ R.slots) (hst : st = As.reverse ++ .ref (B + o) :: rest) (hW : (rest.map fun v => v.category).sum ≤ 8) (hdg : decode cc pc = .ok (.invokevirtual 230, 3))
    (kk : ∀ (H1 : Heap) (locs1 : List Loc), JL E B s n1 f1 H1 locs1 → W p l e R s m args below meth c H1 locs1 (cells + mc) (slots + ms) Q (F0 m (pc + 3) ls (rv :: rest))) : W p l e R s m args below meth c H locs cells slots Q (F0 m pc ls st) :=
  rcallV X hJ hC (tw (i := 1065) (by decide +kernel) (by decide)) ti_X7_readsTwo te_X7_readsTwo tn_7 tk_X7_readsTwo ⟨by decide +kernel, by decide +kernel, by rw [hn]; decide +kernel⟩ rfl rfl ho hf hls hfr hcs hst hW hdg kk
theorem kX7_234 (X : Cx p s m args c cc nL RX7 E B) (hJ : JL E B s n f H locs) (hC : Ct l yX7_takes cX7_takes 3 (some .boolean) fr lo mc ms E B (.ref (B + o) :: As) n f (some rv) n1 f1) (hn : As.length = 1) {fs : List Value} (ho : o < n) (hf : f o = .inr (7, fs)) (hls : ls.size = nL) (hfr : fr + 1 ≤ R.frames ∧ 8 + (3 + 11) + lo ≤ R.locals) (hcs : cells + mc ≤ R.cells ∧ slots + ms ≤ R.slots) (hst : st = As.reverse ++ .ref (B + o) :: rest) (hW : (rest.map fun v => v.category).sum ≤ 8) (hdg : decode cc pc = .ok (.invokevirtual 234, 3))
    (kk : ∀ (H1 : Heap) (locs1 : List Loc), JL E B s n1 f1 H1 locs1 → W p l e R s m args below meth c H1 locs1 (cells + mc) (slots + ms) Q (F0 m (pc + 3) ls (rv :: rest))) : W p l e R s m args below meth c H locs cells slots Q (F0 m pc ls st) :=
  rcallV X hJ hC (tw (i := 1074) (by decide +kernel) (by decide)) ti_X7_takes te_X7_takes tn_7 tk_X7_takes ⟨by decide +kernel, by decide +kernel, by rw [hn]; decide +kernel⟩ rfl rfl ho hf hls hfr hcs hst hW hdg kk
theorem kX7_237 (X : Cx p s m args c cc nL RX7 E B) (hJ : JL E B s n f H locs) (hC : Ct l yX7_readsThree cX7_readsThree 1 (some .boolean) fr lo mc ms E B (.ref (B + o) :: As) n f (some rv) n1 f1) (hn : As.length = 0) {fs : List Value} (ho : o < n) (hf : f o = .inr (7, fs)) (hls : ls.size = nL) (hfr : fr + 1 ≤ R.frames ∧ 8 + (1 + 11) + lo ≤ R.locals) (hcs : cells + mc ≤ R.cells ∧ slots + ms ≤ R.slots) (hst : st = As.reverse ++ .ref (B + o) :: rest) (hW : (rest.map fun v => v.category).sum ≤ 8) (hdg : decode cc pc = .ok (.invokevirtual 237, 3))
    (kk : ∀ (H1 : Heap) (locs1 : List Loc), JL E B s n1 f1 H1 locs1 → W p l e R s m args below meth c H1 locs1 (cells + mc) (slots + ms) Q (F0 m (pc + 3) ls (rv :: rest))) : W p l e R s m args below meth c H locs cells slots Q (F0 m pc ls st) :=
  rcallV X hJ hC (tw (i := 1078) (by decide +kernel) (by decide)) ti_X7_readsThree te_X7_readsThree tn_7 tk_X7_readsThree ⟨by decide +kernel, by decide +kernel, by rw [hn]; decide +kernel⟩ rfl rfl ho hf hls hfr hcs hst hW hdg kk
theorem kX7_240 (X : Cx p s m args c cc nL RX7 E B) (hJ : JL E B s n f H locs) (hC : Ct l yX7_readsOrder cX7_readsOrder 1 (some .boolean) fr lo mc ms E B (.ref (B + o) :: As) n f (some rv) n1 f1) (hn : As.length = 0) {fs : List Value} (ho : o < n) (hf : f o = .inr (7, fs)) (hls : ls.size = nL) (hfr : fr + 1 ≤ R.frames ∧ 8 + (1 + 11) + lo ≤ R.locals) (hcs : cells + mc ≤ R.cells ∧ slots + ms ≤ R.slots) (hst : st = As.reverse ++ .ref (B + o) :: rest) (hW : (rest.map fun v => v.category).sum ≤ 8) (hdg : decode cc pc = .ok (.invokevirtual 240, 3))
    (kk : ∀ (H1 : Heap) (locs1 : List Loc), JL E B s n1 f1 H1 locs1 → W p l e R s m args below meth c H1 locs1 (cells + mc) (slots + ms) Q (F0 m (pc + 3) ls (rv :: rest))) : W p l e R s m args below meth c H locs cells slots Q (F0 m pc ls st) :=
  rcallV X hJ hC (tw (i := 1049) (by decide +kernel) (by decide)) ti_X7_readsOrder te_X7_readsOrder tn_7 tk_X7_readsOrder ⟨by decide +kernel, by decide +kernel, by rw [hn]; decide +kernel⟩ rfl rfl ho hf hls hfr hcs hst hW hdg kk
theorem kX7_243 (X : Cx p s m args c cc nL RX7 E B) (hJ : JL E B s n f H locs) (hC : Ct l yX7_fault cX7_fault 2 (some .int) fr lo mc ms E B (.ref (B + o) :: As) n f (some rv) n1 f1) (hn : As.length = 0) {fs : List Value} (ho : o < n) (hf : f o = .inr (7, fs)) (hls : ls.size = nL) (hfr : fr + 1 ≤ R.frames ∧ 8 + (2 + 11) + lo ≤ R.locals) (hcs : cells + mc ≤ R.cells ∧ slots + ms ≤ R.slots) (hst : st = As.reverse ++ .ref (B + o) :: rest) (hW : (rest.map fun v => v.category).sum ≤ 8) (hdg : decode cc pc = .ok (.invokevirtual 243, 3))
    (kk : ∀ (H1 : Heap) (locs1 : List Loc), JL E B s n1 f1 H1 locs1 → W p l e R s m args below meth c H1 locs1 (cells + mc) (slots + ms) Q (F0 m (pc + 3) ls (rv :: rest))) : W p l e R s m args below meth c H locs cells slots Q (F0 m pc ls st) :=
  rcallV X hJ hC (tw (i := 1086) (by decide +kernel) (by decide)) ti_X7_fault te_X7_fault tn_7 tk_X7_fault ⟨by decide +kernel, by decide +kernel, by rw [hn]; decide +kernel⟩ rfl rfl ho hf hls hfr hcs hst hW hdg kk
theorem kX7_246 (X : Cx p s m args c cc nL RX7 E B) (hJ : JL E B s n f H locs) (hC : Ct l yX7_orderError cX7_orderError 1 (some .int) fr lo mc ms E B (.ref (B + o) :: As) n f (some rv) n1 f1) (hn : As.length = 0) {fs : List Value} (ho : o < n) (hf : f o = .inr (7, fs)) (hls : ls.size = nL) (hfr : fr + 1 ≤ R.frames ∧ 8 + (1 + 11) + lo ≤ R.locals) (hcs : cells + mc ≤ R.cells ∧ slots + ms ≤ R.slots) (hst : st = As.reverse ++ .ref (B + o) :: rest) (hW : (rest.map fun v => v.category).sum ≤ 8) (hdg : decode cc pc = .ok (.invokevirtual 246, 3))
    (kk : ∀ (H1 : Heap) (locs1 : List Loc), JL E B s n1 f1 H1 locs1 → W p l e R s m args below meth c H1 locs1 (cells + mc) (slots + ms) Q (F0 m (pc + 3) ls (rv :: rest))) : W p l e R s m args below meth c H locs cells slots Q (F0 m pc ls st) :=
  rcallV X hJ hC (tw (i := 1087) (by decide +kernel) (by decide)) ti_X7_orderError te_X7_orderError tn_7 tk_X7_orderError ⟨by decide +kernel, by decide +kernel, by rw [hn]; decide +kernel⟩ rfl rfl ho hf hls hfr hcs hst hW hdg kk
theorem kX7_249 (X : Cx p s m args c cc nL RX7 E B) (hJ : JL E B s n f H locs) (hC : Ct l yX7_does cX7_does 1 (some .int) fr lo mc ms E B (.ref (B + o) :: As) n f (some rv) n1 f1) (hn : As.length = 0) {fs : List Value} (ho : o < n) (hf : f o = .inr (7, fs)) (hls : ls.size = nL) (hfr : fr + 1 ≤ R.frames ∧ 8 + (1 + 11) + lo ≤ R.locals) (hcs : cells + mc ≤ R.cells ∧ slots + ms ≤ R.slots) (hst : st = As.reverse ++ .ref (B + o) :: rest) (hW : (rest.map fun v => v.category).sum ≤ 8) (hdg : decode cc pc = .ok (.invokevirtual 249, 3))
    (kk : ∀ (H1 : Heap) (locs1 : List Loc), JL E B s n1 f1 H1 locs1 → W p l e R s m args below meth c H1 locs1 (cells + mc) (slots + ms) Q (F0 m (pc + 3) ls (rv :: rest))) : W p l e R s m args below meth c H locs cells slots Q (F0 m pc ls st) :=
  rcallV X hJ hC (tw (i := 1091) (by decide +kernel) (by decide)) ti_X7_does te_X7_does tn_7 tk_X7_does ⟨by decide +kernel, by decide +kernel, by rw [hn]; decide +kernel⟩ rfl rfl ho hf hls hfr hcs hst hW hdg kk
theorem kX7_252 (X : Cx p s m args c cc nL RX7 E B) (hJ : JL E B s n f H locs) (hC : Ct l yX7_isSlot cX7_isSlot 1 (some .boolean) fr lo mc ms E B As n f (some rv) n1 f1) (hn : As.length = 1) (hls : ls.size = nL) (hfr : fr + 1 ≤ R.frames ∧ 8 + (1 + 11) + lo ≤ R.locals) (hcs : cells + mc ≤ R.cells ∧ slots + ms ≤ R.slots) (hst : st = As.reverse ++ rest) (hW : (rest.map fun v => v.category).sum ≤ 8) (hdg : decode cc pc = .ok (.invokestatic 252, 3))
    (kk : ∀ (H1 : Heap) (locs1 : List Loc), JL E B s n1 f1 H1 locs1 → W p l e R s m args below meth c H1 locs1 (cells + mc) (slots + ms) Q (F0 m (pc + 3) ls (rv :: rest))) : W p l e R s m args below meth c H locs cells slots Q (F0 m pc ls st) :=
  rcallS X hJ hC rfl (tw (i := 1103) (by decide +kernel) (by decide)) ts_X7_isSlot tn_7 tk_X7_isSlot ⟨by decide +kernel, by decide +kernel, by rw [hn]; decide +kernel⟩ hls hfr hcs hst hW hdg kk
end LK
end
