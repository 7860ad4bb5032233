section
-- ===== PART A: goes FIRST, ahead of the names: the tables' words, and 'selects' of the private methods out of them =====
/-- a private method of a class that the tables say can be made, by its rows of tables_1 -/
def lw_okq (q : MethodName × Nat) : Prop := (q.1.cls ≠ "java/lang/invoke/MethodHandle" ∧ q.1.cls ≠ "java/lang/invoke/VarHandle") ∧ Cond.instantiable q.1.cls q.2 ∈ tables_1 ∧ Cond.privateMethod q.1 ∈ tables_1 ∧ Cond.instanceMethod q.1 ∈ tables_1
theorem lw_p0 : lw_okq (⟨"Threewayleaf$History", "lineOf", "(I)J"⟩, 5) := ⟨⟨by decide +kernel, by decide +kernel⟩, List.mem_of_getElem? (i := 96) (by decide +kernel), List.mem_of_getElem? (i := 272) (by decide +kernel), List.mem_of_getElem? (i := 273) (by decide +kernel)⟩
theorem lw_p1 : lw_okq (⟨"Threewayleaf$History", "isNumber", "(I)Z"⟩, 5) := ⟨⟨by decide +kernel, by decide +kernel⟩, List.mem_of_getElem? (i := 96) (by decide +kernel), List.mem_of_getElem? (i := 276) (by decide +kernel), List.mem_of_getElem? (i := 277) (by decide +kernel)⟩
theorem lw_p2 : lw_okq (⟨"java/util/ArrayList", "add", "(Ljava/lang/Object;[Ljava/lang/Object;I)V"⟩, 3) := ⟨⟨by decide +kernel, by decide +kernel⟩, List.mem_of_getElem? (i := 102) (by decide +kernel), List.mem_of_getElem? (i := 284) (by decide +kernel), List.mem_of_getElem? (i := 285) (by decide +kernel)⟩
theorem lw_p3 : lw_okq (⟨"java/util/ArrayList", "grow", "()[Ljava/lang/Object;"⟩, 3) := ⟨⟨by decide +kernel, by decide +kernel⟩, List.mem_of_getElem? (i := 102) (by decide +kernel), List.mem_of_getElem? (i := 288) (by decide +kernel), List.mem_of_getElem? (i := 289) (by decide +kernel)⟩
theorem lw_p4 : lw_okq (⟨"java/util/ArrayList", "grow", "(I)[Ljava/lang/Object;"⟩, 3) := ⟨⟨by decide +kernel, by decide +kernel⟩, List.mem_of_getElem? (i := 102) (by decide +kernel), List.mem_of_getElem? (i := 292) (by decide +kernel), List.mem_of_getElem? (i := 293) (by decide +kernel)⟩
theorem lw_p5 : lw_okq (⟨"Threewayleaf", "deskOf", "(I)LThreewayleaf$State;"⟩, 12) := ⟨⟨by decide +kernel, by decide +kernel⟩, List.mem_of_getElem? (i := 33) (by decide +kernel), List.mem_of_getElem? (i := 403) (by decide +kernel), List.mem_of_getElem? (i := 404) (by decide +kernel)⟩
theorem lw_p6 : lw_okq (⟨"Threewayleaf", "needBranch", "(I)V"⟩, 12) := ⟨⟨by decide +kernel, by decide +kernel⟩, List.mem_of_getElem? (i := 33) (by decide +kernel), List.mem_of_getElem? (i := 407) (by decide +kernel), List.mem_of_getElem? (i := 408) (by decide +kernel)⟩
theorem lw_p7 : lw_okq (⟨"java/lang/Throwable", "fillInStackTrace", "(I)Ljava/lang/Throwable;"⟩, 6) := ⟨⟨by decide +kernel, by decide +kernel⟩, List.mem_of_getElem? (i := 450) (by decide +kernel), List.mem_of_getElem? (i := 448) (by decide +kernel), List.mem_of_getElem? (i := 449) (by decide +kernel)⟩
theorem lw_p8 : lw_okq (⟨"Threewayleaf", "needThere", "(LThreewayleaf$State;I)V"⟩, 12) := ⟨⟨by decide +kernel, by decide +kernel⟩, List.mem_of_getElem? (i := 33) (by decide +kernel), List.mem_of_getElem? (i := 480) (by decide +kernel), List.mem_of_getElem? (i := 481) (by decide +kernel)⟩
theorem lw_p9 : lw_okq (⟨"Threewayleaf", "needRange", "(II)V"⟩, 12) := ⟨⟨by decide +kernel, by decide +kernel⟩, List.mem_of_getElem? (i := 33) (by decide +kernel), List.mem_of_getElem? (i := 505) (by decide +kernel), List.mem_of_getElem? (i := 506) (by decide +kernel)⟩
theorem lw_p10 : lw_okq (⟨"Threewayleaf", "needHolderKind", "(I)V"⟩, 12) := ⟨⟨by decide +kernel, by decide +kernel⟩, List.mem_of_getElem? (i := 33) (by decide +kernel), List.mem_of_getElem? (i := 525) (by decide +kernel), List.mem_of_getElem? (i := 526) (by decide +kernel)⟩
theorem lw_p11 : lw_okq (⟨"Threewayleaf", "spotAhead", "(LThreewayleaf$State;III)I"⟩, 12) := ⟨⟨by decide +kernel, by decide +kernel⟩, List.mem_of_getElem? (i := 33) (by decide +kernel), List.mem_of_getElem? (i := 554) (by decide +kernel), List.mem_of_getElem? (i := 555) (by decide +kernel)⟩
theorem lw_p12 : lw_okq (⟨"Threewayleaf", "planSpot", "(II)I"⟩, 12) := ⟨⟨by decide +kernel, by decide +kernel⟩, List.mem_of_getElem? (i := 33) (by decide +kernel), List.mem_of_getElem? (i := 592) (by decide +kernel), List.mem_of_getElem? (i := 593) (by decide +kernel)⟩
theorem lw_p13 : lw_okq (⟨"Threewayleaf", "acceptTrial", "(LThreewayleaf$State;)V"⟩, 12) := ⟨⟨by decide +kernel, by decide +kernel⟩, List.mem_of_getElem? (i := 33) (by decide +kernel), List.mem_of_getElem? (i := 605) (by decide +kernel), List.mem_of_getElem? (i := 606) (by decide +kernel)⟩
theorem lw_p14 : lw_okq (⟨"Threewayleaf$Look", "hasTwins", "(LThreewayleaf$State;)Z"⟩, 2) := ⟨⟨by decide +kernel, by decide +kernel⟩, List.mem_of_getElem? (i := 82) (by decide +kernel), List.mem_of_getElem? (i := 613) (by decide +kernel), List.mem_of_getElem? (i := 614) (by decide +kernel)⟩
theorem lw_p15 : lw_okq (⟨"Threewayleaf$Look", "hasLooseAim", "(LThreewayleaf$State;)Z"⟩, 2) := ⟨⟨by decide +kernel, by decide +kernel⟩, List.mem_of_getElem? (i := 82) (by decide +kernel), List.mem_of_getElem? (i := 622) (by decide +kernel), List.mem_of_getElem? (i := 623) (by decide +kernel)⟩
def lw_privs_1 : List (MethodName × Nat) := [(⟨"Threewayleaf$History", "lineOf", "(I)J"⟩, 5), (⟨"Threewayleaf$History", "isNumber", "(I)Z"⟩, 5), (⟨"java/util/ArrayList", "add", "(Ljava/lang/Object;[Ljava/lang/Object;I)V"⟩, 3), (⟨"java/util/ArrayList", "grow", "()[Ljava/lang/Object;"⟩, 3), (⟨"java/util/ArrayList", "grow", "(I)[Ljava/lang/Object;"⟩, 3), (⟨"Threewayleaf", "deskOf", "(I)LThreewayleaf$State;"⟩, 12), (⟨"Threewayleaf", "needBranch", "(I)V"⟩, 12), (⟨"java/lang/Throwable", "fillInStackTrace", "(I)Ljava/lang/Throwable;"⟩, 6), (⟨"Threewayleaf", "needThere", "(LThreewayleaf$State;I)V"⟩, 12), (⟨"Threewayleaf", "needRange", "(II)V"⟩, 12), (⟨"Threewayleaf", "needHolderKind", "(I)V"⟩, 12), (⟨"Threewayleaf", "spotAhead", "(LThreewayleaf$State;III)I"⟩, 12), (⟨"Threewayleaf", "planSpot", "(II)I"⟩, 12), (⟨"Threewayleaf", "acceptTrial", "(LThreewayleaf$State;)V"⟩, 12), (⟨"Threewayleaf$Look", "hasTwins", "(LThreewayleaf$State;)Z"⟩, 2), (⟨"Threewayleaf$Look", "hasLooseAim", "(LThreewayleaf$State;)Z"⟩, 2)]
theorem lw_r1 : ∀ q ∈ lw_privs_1, lw_okq q := List.forall_mem_cons.mpr ⟨lw_p0, List.forall_mem_cons.mpr ⟨lw_p1, List.forall_mem_cons.mpr ⟨lw_p2, List.forall_mem_cons.mpr ⟨lw_p3, List.forall_mem_cons.mpr ⟨lw_p4, List.forall_mem_cons.mpr ⟨lw_p5, List.forall_mem_cons.mpr ⟨lw_p6, List.forall_mem_cons.mpr ⟨lw_p7, List.forall_mem_cons.mpr ⟨lw_p8, List.forall_mem_cons.mpr ⟨lw_p9, List.forall_mem_cons.mpr ⟨lw_p10, List.forall_mem_cons.mpr ⟨lw_p11, List.forall_mem_cons.mpr ⟨lw_p12, List.forall_mem_cons.mpr ⟨lw_p13, List.forall_mem_cons.mpr ⟨lw_p14, List.forall_mem_cons.mpr ⟨lw_p15, fun _ h => absurd h List.not_mem_nil⟩⟩⟩⟩⟩⟩⟩⟩⟩⟩⟩⟩⟩⟩⟩⟩
theorem lw_p16 : lw_okq (⟨"Threewayleaf$Look", "isCrowded", "(LThreewayleaf$State;)Z"⟩, 2) := ⟨⟨by decide +kernel, by decide +kernel⟩, List.mem_of_getElem? (i := 82) (by decide +kernel), List.mem_of_getElem? (i := 631) (by decide +kernel), List.mem_of_getElem? (i := 632) (by decide +kernel)⟩
theorem lw_p17 : lw_okq (⟨"Threewayleaf$Look", "isTooDeep", "(LThreewayleaf$State;)Z"⟩, 2) := ⟨⟨by decide +kernel, by decide +kernel⟩, List.mem_of_getElem? (i := 82) (by decide +kernel), List.mem_of_getElem? (i := 635) (by decide +kernel), List.mem_of_getElem? (i := 636) (by decide +kernel)⟩
theorem lw_p18 : lw_okq (⟨"Threewayleaf", "needNoRoot", "(I)V"⟩, 12) := ⟨⟨by decide +kernel, by decide +kernel⟩, List.mem_of_getElem? (i := 33) (by decide +kernel), List.mem_of_getElem? (i := 666) (by decide +kernel), List.mem_of_getElem? (i := 667) (by decide +kernel)⟩
theorem lw_p19 : lw_okq (⟨"Threewayleaf", "takeOut", "(LThreewayleaf$State;I)I"⟩, 12) := ⟨⟨by decide +kernel, by decide +kernel⟩, List.mem_of_getElem? (i := 33) (by decide +kernel), List.mem_of_getElem? (i := 671) (by decide +kernel), List.mem_of_getElem? (i := 672) (by decide +kernel)⟩
theorem lw_p20 : lw_okq (⟨"Threewayleaf", "neededWord", "(LThreewayleaf$State;II)I"⟩, 12) := ⟨⟨by decide +kernel, by decide +kernel⟩, List.mem_of_getElem? (i := 33) (by decide +kernel), List.mem_of_getElem? (i := 770) (by decide +kernel), List.mem_of_getElem? (i := 771) (by decide +kernel)⟩
theorem lw_p21 : lw_okq (⟨"Threewayleaf", "neededConflict", "(LThreewayleaf$State;III)I"⟩, 12) := ⟨⟨by decide +kernel, by decide +kernel⟩, List.mem_of_getElem? (i := 33) (by decide +kernel), List.mem_of_getElem? (i := 787) (by decide +kernel), List.mem_of_getElem? (i := 788) (by decide +kernel)⟩
theorem lw_p22 : lw_okq (⟨"Threewayleaf", "isDeskClean", "(I)Z"⟩, 12) := ⟨⟨by decide +kernel, by decide +kernel⟩, List.mem_of_getElem? (i := 33) (by decide +kernel), List.mem_of_getElem? (i := 825) (by decide +kernel), List.mem_of_getElem? (i := 826) (by decide +kernel)⟩
theorem lw_p23 : lw_okq (⟨"Threewayleaf", "headState", "(I)LThreewayleaf$State;"⟩, 12) := ⟨⟨by decide +kernel, by decide +kernel⟩, List.mem_of_getElem? (i := 33) (by decide +kernel), List.mem_of_getElem? (i := 829) (by decide +kernel), List.mem_of_getElem? (i := 830) (by decide +kernel)⟩
theorem lw_p24 : lw_okq (⟨"Threewayleaf", "needVersion", "(I)V"⟩, 12) := ⟨⟨by decide +kernel, by decide +kernel⟩, List.mem_of_getElem? (i := 33) (by decide +kernel), List.mem_of_getElem? (i := 891) (by decide +kernel), List.mem_of_getElem? (i := 892) (by decide +kernel)⟩
theorem lw_p25 : lw_okq (⟨"Threewayleaf", "setHead", "(II)I"⟩, 12) := ⟨⟨by decide +kernel, by decide +kernel⟩, List.mem_of_getElem? (i := 33) (by decide +kernel), List.mem_of_getElem? (i := 897) (by decide +kernel), List.mem_of_getElem? (i := 898) (by decide +kernel)⟩
theorem lw_p26 : lw_okq (⟨"Threewayleaf", "needClean", "(I)V"⟩, 12) := ⟨⟨by decide +kernel, by decide +kernel⟩, List.mem_of_getElem? (i := 33) (by decide +kernel), List.mem_of_getElem? (i := 908) (by decide +kernel), List.mem_of_getElem? (i := 909) (by decide +kernel)⟩
theorem lw_p27 : lw_okq (⟨"Threewayleaf", "tryJoin", "(II)V"⟩, 12) := ⟨⟨by decide +kernel, by decide +kernel⟩, List.mem_of_getElem? (i := 33) (by decide +kernel), List.mem_of_getElem? (i := 917) (by decide +kernel), List.mem_of_getElem? (i := 918) (by decide +kernel)⟩
theorem lw_p28 : lw_okq (⟨"Threewayleaf$BaseFinder", "spare", "(I)LThreewayleaf$State;"⟩, 3) := ⟨⟨by decide +kernel, by decide +kernel⟩, List.mem_of_getElem? (i := 172) (by decide +kernel), List.mem_of_getElem? (i := 932) (by decide +kernel), List.mem_of_getElem? (i := 933) (by decide +kernel)⟩
theorem lw_p29 : lw_okq (⟨"Threewayleaf$Join", "joinNode", "(I)V"⟩, 6) := ⟨⟨by decide +kernel, by decide +kernel⟩, List.mem_of_getElem? (i := 941) (by decide +kernel), List.mem_of_getElem? (i := 972) (by decide +kernel), List.mem_of_getElem? (i := 973) (by decide +kernel)⟩
theorem lw_p30 : lw_okq (⟨"Threewayleaf$Join", "joinValue", "(II)V"⟩, 6) := ⟨⟨by decide +kernel, by decide +kernel⟩, List.mem_of_getElem? (i := 941) (by decide +kernel), List.mem_of_getElem? (i := 976) (by decide +kernel), List.mem_of_getElem? (i := 977) (by decide +kernel)⟩
theorem lw_p31 : lw_okq (⟨"Threewayleaf$Join", "joinConflict", "(II)V"⟩, 6) := ⟨⟨by decide +kernel, by decide +kernel⟩, List.mem_of_getElem? (i := 941) (by decide +kernel), List.mem_of_getElem? (i := 986) (by decide +kernel), List.mem_of_getElem? (i := 987) (by decide +kernel)⟩
def lw_privs_2 : List (MethodName × Nat) := [(⟨"Threewayleaf$Look", "isCrowded", "(LThreewayleaf$State;)Z"⟩, 2), (⟨"Threewayleaf$Look", "isTooDeep", "(LThreewayleaf$State;)Z"⟩, 2), (⟨"Threewayleaf", "needNoRoot", "(I)V"⟩, 12), (⟨"Threewayleaf", "takeOut", "(LThreewayleaf$State;I)I"⟩, 12), (⟨"Threewayleaf", "neededWord", "(LThreewayleaf$State;II)I"⟩, 12), (⟨"Threewayleaf", "neededConflict", "(LThreewayleaf$State;III)I"⟩, 12), (⟨"Threewayleaf", "isDeskClean", "(I)Z"⟩, 12), (⟨"Threewayleaf", "headState", "(I)LThreewayleaf$State;"⟩, 12), (⟨"Threewayleaf", "needVersion", "(I)V"⟩, 12), (⟨"Threewayleaf", "setHead", "(II)I"⟩, 12), (⟨"Threewayleaf", "needClean", "(I)V"⟩, 12), (⟨"Threewayleaf", "tryJoin", "(II)V"⟩, 12), (⟨"Threewayleaf$BaseFinder", "spare", "(I)LThreewayleaf$State;"⟩, 3), (⟨"Threewayleaf$Join", "joinNode", "(I)V"⟩, 6), (⟨"Threewayleaf$Join", "joinValue", "(II)V"⟩, 6), (⟨"Threewayleaf$Join", "joinConflict", "(II)V"⟩, 6)]
theorem lw_r2 : ∀ q ∈ lw_privs_2, lw_okq q := List.forall_mem_cons.mpr ⟨lw_p16, List.forall_mem_cons.mpr ⟨lw_p17, List.forall_mem_cons.mpr ⟨lw_p18, List.forall_mem_cons.mpr ⟨lw_p19, List.forall_mem_cons.mpr ⟨lw_p20, List.forall_mem_cons.mpr ⟨lw_p21, List.forall_mem_cons.mpr ⟨lw_p22, List.forall_mem_cons.mpr ⟨lw_p23, List.forall_mem_cons.mpr ⟨lw_p24, List.forall_mem_cons.mpr ⟨lw_p25, List.forall_mem_cons.mpr ⟨lw_p26, List.forall_mem_cons.mpr ⟨lw_p27, List.forall_mem_cons.mpr ⟨lw_p28, List.forall_mem_cons.mpr ⟨lw_p29, List.forall_mem_cons.mpr ⟨lw_p30, List.forall_mem_cons.mpr ⟨lw_p31, fun _ h => absurd h List.not_mem_nil⟩⟩⟩⟩⟩⟩⟩⟩⟩⟩⟩⟩⟩⟩⟩⟩
theorem lw_p32 : lw_okq (⟨"Threewayleaf$Join", "isAtOdds", "(II)Z"⟩, 6) := ⟨⟨by decide +kernel, by decide +kernel⟩, List.mem_of_getElem? (i := 941) (by decide +kernel), List.mem_of_getElem? (i := 991) (by decide +kernel), List.mem_of_getElem? (i := 992) (by decide +kernel)⟩
theorem lw_p33 : lw_okq (⟨"Threewayleaf$Join", "joinLone", "(ILThreewayleaf$State;)V"⟩, 6) := ⟨⟨by decide +kernel, by decide +kernel⟩, List.mem_of_getElem? (i := 941) (by decide +kernel), List.mem_of_getElem? (i := 1001) (by decide +kernel), List.mem_of_getElem? (i := 1002) (by decide +kernel)⟩
theorem lw_p34 : lw_okq (⟨"Threewayleaf$Join", "isTouched", "(ILThreewayleaf$State;)Z"⟩, 6) := ⟨⟨by decide +kernel, by decide +kernel⟩, List.mem_of_getElem? (i := 941) (by decide +kernel), List.mem_of_getElem? (i := 1011) (by decide +kernel), List.mem_of_getElem? (i := 1012) (by decide +kernel)⟩
theorem lw_p35 : lw_okq (⟨"Threewayleaf$Join", "isWordSaid", "(I)Z"⟩, 6) := ⟨⟨by decide +kernel, by decide +kernel⟩, List.mem_of_getElem? (i := 941) (by decide +kernel), List.mem_of_getElem? (i := 1021) (by decide +kernel), List.mem_of_getElem? (i := 1022) (by decide +kernel)⟩
theorem lw_p36 : lw_okq (⟨"Threewayleaf$Join", "untieRings", "()V"⟩, 6) := ⟨⟨by decide +kernel, by decide +kernel⟩, List.mem_of_getElem? (i := 941) (by decide +kernel), List.mem_of_getElem? (i := 1026) (by decide +kernel), List.mem_of_getElem? (i := 1027) (by decide +kernel)⟩
theorem lw_p37 : lw_okq (⟨"Threewayleaf$Join", "bringHolders", "()V"⟩, 6) := ⟨⟨by decide +kernel, by decide +kernel⟩, List.mem_of_getElem? (i := 941) (by decide +kernel), List.mem_of_getElem? (i := 1032) (by decide +kernel), List.mem_of_getElem? (i := 1033) (by decide +kernel)⟩
theorem lw_p38 : lw_okq (⟨"Threewayleaf$Join", "bringBack", "(ILThreewayleaf$State;)V"⟩, 6) := ⟨⟨by decide +kernel, by decide +kernel⟩, List.mem_of_getElem? (i := 941) (by decide +kernel), List.mem_of_getElem? (i := 1036) (by decide +kernel), List.mem_of_getElem? (i := 1037) (by decide +kernel)⟩
theorem lw_p39 : lw_okq (⟨"Threewayleaf", "landTrial", "(II)I"⟩, 12) := ⟨⟨by decide +kernel, by decide +kernel⟩, List.mem_of_getElem? (i := 33) (by decide +kernel), List.mem_of_getElem? (i := 1043) (by decide +kernel), List.mem_of_getElem? (i := 1044) (by decide +kernel)⟩
theorem lw_p40 : lw_okq (⟨"Threewayleaf", "firstParentState", "(I)LThreewayleaf$State;"⟩, 12) := ⟨⟨by decide +kernel, by decide +kernel⟩, List.mem_of_getElem? (i := 33) (by decide +kernel), List.mem_of_getElem? (i := 1054) (by decide +kernel), List.mem_of_getElem? (i := 1055) (by decide +kernel)⟩
theorem lw_p41 : lw_okq (⟨"Threewayleaf", "viewed", "(I)LThreewayleaf$State;"⟩, 12) := ⟨⟨by decide +kernel, by decide +kernel⟩, List.mem_of_getElem? (i := 33) (by decide +kernel), List.mem_of_getElem? (i := 1119) (by decide +kernel), List.mem_of_getElem? (i := 1120) (by decide +kernel)⟩
theorem lw_p42 : lw_okq (⟨"Threewayleaf", "needNode", "(I)V"⟩, 12) := ⟨⟨by decide +kernel, by decide +kernel⟩, List.mem_of_getElem? (i := 33) (by decide +kernel), List.mem_of_getElem? (i := 1123) (by decide +kernel), List.mem_of_getElem? (i := 1124) (by decide +kernel)⟩
theorem lw_p43 : lw_okq (⟨"Threewayleaf", "rootPrint", "(LThreewayleaf$State;)J"⟩, 12) := ⟨⟨by decide +kernel, by decide +kernel⟩, List.mem_of_getElem? (i := 33) (by decide +kernel), List.mem_of_getElem? (i := 1216) (by decide +kernel), List.mem_of_getElem? (i := 1217) (by decide +kernel)⟩
theorem lw_p44 : lw_okq (⟨"Threewayleaf$Printer", "printOf", "(LThreewayleaf$State;IZ[J)J"⟩, 3) := ⟨⟨by decide +kernel, by decide +kernel⟩, List.mem_of_getElem? (i := 206) (by decide +kernel), List.mem_of_getElem? (i := 1226) (by decide +kernel), List.mem_of_getElem? (i := 1227) (by decide +kernel)⟩
theorem lw_p45 : lw_okq (⟨"Threewayleaf$Printer", "withWords", "(JLThreewayleaf$State;I)J"⟩, 3) := ⟨⟨by decide +kernel, by decide +kernel⟩, List.mem_of_getElem? (i := 206) (by decide +kernel), List.mem_of_getElem? (i := 1235) (by decide +kernel), List.mem_of_getElem? (i := 1236) (by decide +kernel)⟩
theorem lw_p46 : lw_okq (⟨"Threewayleaf$Join", "playAdded", "(I)V"⟩, 6) := ⟨⟨by decide +kernel, by decide +kernel⟩, List.mem_of_getElem? (i := 941) (by decide +kernel), List.mem_of_getElem? (i := 1281) (by decide +kernel), List.mem_of_getElem? (i := 1282) (by decide +kernel)⟩
theorem lw_p47 : lw_okq (⟨"Threewayleaf$Join", "wake", "(I)V"⟩, 6) := ⟨⟨by decide +kernel, by decide +kernel⟩, List.mem_of_getElem? (i := 941) (by decide +kernel), List.mem_of_getElem? (i := 1285) (by decide +kernel), List.mem_of_getElem? (i := 1286) (by decide +kernel)⟩
def lw_privs_3 : List (MethodName × Nat) := [(⟨"Threewayleaf$Join", "isAtOdds", "(II)Z"⟩, 6), (⟨"Threewayleaf$Join", "joinLone", "(ILThreewayleaf$State;)V"⟩, 6), (⟨"Threewayleaf$Join", "isTouched", "(ILThreewayleaf$State;)Z"⟩, 6), (⟨"Threewayleaf$Join", "isWordSaid", "(I)Z"⟩, 6), (⟨"Threewayleaf$Join", "untieRings", "()V"⟩, 6), (⟨"Threewayleaf$Join", "bringHolders", "()V"⟩, 6), (⟨"Threewayleaf$Join", "bringBack", "(ILThreewayleaf$State;)V"⟩, 6), (⟨"Threewayleaf", "landTrial", "(II)I"⟩, 12), (⟨"Threewayleaf", "firstParentState", "(I)LThreewayleaf$State;"⟩, 12), (⟨"Threewayleaf", "viewed", "(I)LThreewayleaf$State;"⟩, 12), (⟨"Threewayleaf", "needNode", "(I)V"⟩, 12), (⟨"Threewayleaf", "rootPrint", "(LThreewayleaf$State;)J"⟩, 12), (⟨"Threewayleaf$Printer", "printOf", "(LThreewayleaf$State;IZ[J)J"⟩, 3), (⟨"Threewayleaf$Printer", "withWords", "(JLThreewayleaf$State;I)J"⟩, 3), (⟨"Threewayleaf$Join", "playAdded", "(I)V"⟩, 6), (⟨"Threewayleaf$Join", "wake", "(I)V"⟩, 6)]
theorem lw_r3 : ∀ q ∈ lw_privs_3, lw_okq q := List.forall_mem_cons.mpr ⟨lw_p32, List.forall_mem_cons.mpr ⟨lw_p33, List.forall_mem_cons.mpr ⟨lw_p34, List.forall_mem_cons.mpr ⟨lw_p35, List.forall_mem_cons.mpr ⟨lw_p36, List.forall_mem_cons.mpr ⟨lw_p37, List.forall_mem_cons.mpr ⟨lw_p38, List.forall_mem_cons.mpr ⟨lw_p39, List.forall_mem_cons.mpr ⟨lw_p40, List.forall_mem_cons.mpr ⟨lw_p41, List.forall_mem_cons.mpr ⟨lw_p42, List.forall_mem_cons.mpr ⟨lw_p43, List.forall_mem_cons.mpr ⟨lw_p44, List.forall_mem_cons.mpr ⟨lw_p45, List.forall_mem_cons.mpr ⟨lw_p46, List.forall_mem_cons.mpr ⟨lw_p47, fun _ h => absurd h List.not_mem_nil⟩⟩⟩⟩⟩⟩⟩⟩⟩⟩⟩⟩⟩⟩⟩⟩
theorem lw_p48 : lw_okq (⟨"Threewayleaf$Join", "playValue", "(II)V"⟩, 6) := ⟨⟨by decide +kernel, by decide +kernel⟩, List.mem_of_getElem? (i := 941) (by decide +kernel), List.mem_of_getElem? (i := 1289) (by decide +kernel), List.mem_of_getElem? (i := 1290) (by decide +kernel)⟩
theorem lw_p49 : lw_okq (⟨"Threewayleaf$Join", "playConflicts", "(I)V"⟩, 6) := ⟨⟨by decide +kernel, by decide +kernel⟩, List.mem_of_getElem? (i := 941) (by decide +kernel), List.mem_of_getElem? (i := 1293) (by decide +kernel), List.mem_of_getElem? (i := 1294) (by decide +kernel)⟩
theorem lw_p50 : lw_okq (⟨"Threewayleaf$Join", "playWord", "(IZ)V"⟩, 6) := ⟨⟨by decide +kernel, by decide +kernel⟩, List.mem_of_getElem? (i := 941) (by decide +kernel), List.mem_of_getElem? (i := 1297) (by decide +kernel), List.mem_of_getElem? (i := 1298) (by decide +kernel)⟩
theorem lw_p51 : lw_okq (⟨"Threewayleaf$Join", "playRemoved", "(I)V"⟩, 6) := ⟨⟨by decide +kernel, by decide +kernel⟩, List.mem_of_getElem? (i := 941) (by decide +kernel), List.mem_of_getElem? (i := 1301) (by decide +kernel), List.mem_of_getElem? (i := 1302) (by decide +kernel)⟩
theorem lw_p52 : lw_okq (⟨"Threewayleaf$Script", "editAt", "(II)C"⟩, 3) := ⟨⟨by decide +kernel, by decide +kernel⟩, List.mem_of_getElem? (i := 190) (by decide +kernel), List.mem_of_getElem? (i := 1332) (by decide +kernel), List.mem_of_getElem? (i := 1333) (by decide +kernel)⟩
theorem lw_p53 : lw_okq (⟨"Threewayleaf$Matcher", "pairByFace", "(LThreewayleaf$State;LThreewayleaf$State;)V"⟩, 8) := ⟨⟨by decide +kernel, by decide +kernel⟩, List.mem_of_getElem? (i := 222) (by decide +kernel), List.mem_of_getElem? (i := 1398) (by decide +kernel), List.mem_of_getElem? (i := 1399) (by decide +kernel)⟩
theorem lw_p54 : lw_okq (⟨"Threewayleaf$Matcher", "turnOf", "(LThreewayleaf$State;II)I"⟩, 8) := ⟨⟨by decide +kernel, by decide +kernel⟩, List.mem_of_getElem? (i := 222) (by decide +kernel), List.mem_of_getElem? (i := 1408) (by decide +kernel), List.mem_of_getElem? (i := 1409) (by decide +kernel)⟩
theorem lw_p55 : lw_okq (⟨"Threewayleaf$Matcher", "childInTurn", "(LThreewayleaf$State;IIII)I"⟩, 8) := ⟨⟨by decide +kernel, by decide +kernel⟩, List.mem_of_getElem? (i := 222) (by decide +kernel), List.mem_of_getElem? (i := 1420) (by decide +kernel), List.mem_of_getElem? (i := 1421) (by decide +kernel)⟩
theorem lw_p56 : lw_okq (⟨"ThreewayleafModel", "clear", "(I)V"⟩, 40) := ⟨⟨by decide +kernel, by decide +kernel⟩, List.mem_of_getElem? (i := 1436) (by decide +kernel), List.mem_of_getElem? (i := 1443) (by decide +kernel), List.mem_of_getElem? (i := 1444) (by decide +kernel)⟩
theorem lw_p57 : lw_okq (⟨"ThreewayleafModel", "copy", "(II)V"⟩, 40) := ⟨⟨by decide +kernel, by decide +kernel⟩, List.mem_of_getElem? (i := 1436) (by decide +kernel), List.mem_of_getElem? (i := 1447) (by decide +kernel), List.mem_of_getElem? (i := 1448) (by decide +kernel)⟩
theorem lw_p58 : lw_okq (⟨"ThreewayleafModel", "isAt", "(II)Z"⟩, 40) := ⟨⟨by decide +kernel, by decide +kernel⟩, List.mem_of_getElem? (i := 1436) (by decide +kernel), List.mem_of_getElem? (i := 1580) (by decide +kernel), List.mem_of_getElem? (i := 1581) (by decide +kernel)⟩
theorem lw_p59 : lw_okq (⟨"ThreewayleafModel", "isBranch", "(I)Z"⟩, 40) := ⟨⟨by decide +kernel, by decide +kernel⟩, List.mem_of_getElem? (i := 1436) (by decide +kernel), List.mem_of_getElem? (i := 1584) (by decide +kernel), List.mem_of_getElem? (i := 1585) (by decide +kernel)⟩
theorem lw_p60 : lw_okq (⟨"ThreewayleafModel", "has", "(II)Z"⟩, 40) := ⟨⟨by decide +kernel, by decide +kernel⟩, List.mem_of_getElem? (i := 1436) (by decide +kernel), List.mem_of_getElem? (i := 1594) (by decide +kernel), List.mem_of_getElem? (i := 1595) (by decide +kernel)⟩
theorem lw_p61 : lw_okq (⟨"ThreewayleafModel", "layKids", "(II)V"⟩, 40) := ⟨⟨by decide +kernel, by decide +kernel⟩, List.mem_of_getElem? (i := 1436) (by decide +kernel), List.mem_of_getElem? (i := 1598) (by decide +kernel), List.mem_of_getElem? (i := 1599) (by decide +kernel)⟩
theorem lw_p62 : lw_okq (⟨"ThreewayleafModel", "up", "(II)I"⟩, 40) := ⟨⟨by decide +kernel, by decide +kernel⟩, List.mem_of_getElem? (i := 1436) (by decide +kernel), List.mem_of_getElem? (i := 1602) (by decide +kernel), List.mem_of_getElem? (i := 1603) (by decide +kernel)⟩
theorem lw_p63 : lw_okq (⟨"ThreewayleafModel", "spotOf", "(II)I"⟩, 40) := ⟨⟨by decide +kernel, by decide +kernel⟩, List.mem_of_getElem? (i := 1436) (by decide +kernel), List.mem_of_getElem? (i := 1606) (by decide +kernel), List.mem_of_getElem? (i := 1607) (by decide +kernel)⟩
def lw_privs_4 : List (MethodName × Nat) := [(⟨"Threewayleaf$Join", "playValue", "(II)V"⟩, 6), (⟨"Threewayleaf$Join", "playConflicts", "(I)V"⟩, 6), (⟨"Threewayleaf$Join", "playWord", "(IZ)V"⟩, 6), (⟨"Threewayleaf$Join", "playRemoved", "(I)V"⟩, 6), (⟨"Threewayleaf$Script", "editAt", "(II)C"⟩, 3), (⟨"Threewayleaf$Matcher", "pairByFace", "(LThreewayleaf$State;LThreewayleaf$State;)V"⟩, 8), (⟨"Threewayleaf$Matcher", "turnOf", "(LThreewayleaf$State;II)I"⟩, 8), (⟨"Threewayleaf$Matcher", "childInTurn", "(LThreewayleaf$State;IIII)I"⟩, 8), (⟨"ThreewayleafModel", "clear", "(I)V"⟩, 40), (⟨"ThreewayleafModel", "copy", "(II)V"⟩, 40), (⟨"ThreewayleafModel", "isAt", "(II)Z"⟩, 40), (⟨"ThreewayleafModel", "isBranch", "(I)Z"⟩, 40), (⟨"ThreewayleafModel", "has", "(II)Z"⟩, 40), (⟨"ThreewayleafModel", "layKids", "(II)V"⟩, 40), (⟨"ThreewayleafModel", "up", "(II)I"⟩, 40), (⟨"ThreewayleafModel", "spotOf", "(II)I"⟩, 40)]
theorem lw_r4 : ∀ q ∈ lw_privs_4, lw_okq q := List.forall_mem_cons.mpr ⟨lw_p48, List.forall_mem_cons.mpr ⟨lw_p49, List.forall_mem_cons.mpr ⟨lw_p50, List.forall_mem_cons.mpr ⟨lw_p51, List.forall_mem_cons.mpr ⟨lw_p52, List.forall_mem_cons.mpr ⟨lw_p53, List.forall_mem_cons.mpr ⟨lw_p54, List.forall_mem_cons.mpr ⟨lw_p55, List.forall_mem_cons.mpr ⟨lw_p56, List.forall_mem_cons.mpr ⟨lw_p57, List.forall_mem_cons.mpr ⟨lw_p58, List.forall_mem_cons.mpr ⟨lw_p59, List.forall_mem_cons.mpr ⟨lw_p60, List.forall_mem_cons.mpr ⟨lw_p61, List.forall_mem_cons.mpr ⟨lw_p62, List.forall_mem_cons.mpr ⟨lw_p63, fun _ h => absurd h List.not_mem_nil⟩⟩⟩⟩⟩⟩⟩⟩⟩⟩⟩⟩⟩⟩⟩⟩
theorem lw_p64 : lw_okq (⟨"ThreewayleafModel", "addKid", "(I)V"⟩, 40) := ⟨⟨by decide +kernel, by decide +kernel⟩, List.mem_of_getElem? (i := 1436) (by decide +kernel), List.mem_of_getElem? (i := 1610) (by decide +kernel), List.mem_of_getElem? (i := 1611) (by decide +kernel)⟩
theorem lw_p65 : lw_okq (⟨"ThreewayleafModel", "laySpots", "(I)V"⟩, 40) := ⟨⟨by decide +kernel, by decide +kernel⟩, List.mem_of_getElem? (i := 1436) (by decide +kernel), List.mem_of_getElem? (i := 1614) (by decide +kernel), List.mem_of_getElem? (i := 1615) (by decide +kernel)⟩
theorem lw_p66 : lw_okq (⟨"ThreewayleafModel", "insert", "(II)V"⟩, 40) := ⟨⟨by decide +kernel, by decide +kernel⟩, List.mem_of_getElem? (i := 1436) (by decide +kernel), List.mem_of_getElem? (i := 1618) (by decide +kernel), List.mem_of_getElem? (i := 1619) (by decide +kernel)⟩
theorem lw_p67 : lw_okq (⟨"ThreewayleafModel", "nodeAt", "(II)I"⟩, 40) := ⟨⟨by decide +kernel, by decide +kernel⟩, List.mem_of_getElem? (i := 1436) (by decide +kernel), List.mem_of_getElem? (i := 1622) (by decide +kernel), List.mem_of_getElem? (i := 1623) (by decide +kernel)⟩
theorem lw_p68 : lw_okq (⟨"ThreewayleafModel", "holds", "(I)Z"⟩, 40) := ⟨⟨by decide +kernel, by decide +kernel⟩, List.mem_of_getElem? (i := 1436) (by decide +kernel), List.mem_of_getElem? (i := 1626) (by decide +kernel), List.mem_of_getElem? (i := 1627) (by decide +kernel)⟩
theorem lw_p69 : lw_okq (⟨"ThreewayleafModel", "openDesk", "(I)V"⟩, 40) := ⟨⟨by decide +kernel, by decide +kernel⟩, List.mem_of_getElem? (i := 1436) (by decide +kernel), List.mem_of_getElem? (i := 1630) (by decide +kernel), List.mem_of_getElem? (i := 1631) (by decide +kernel)⟩
theorem lw_p70 : lw_okq (⟨"ThreewayleafModel", "newSpot", "(III)I"⟩, 40) := ⟨⟨by decide +kernel, by decide +kernel⟩, List.mem_of_getElem? (i := 1436) (by decide +kernel), List.mem_of_getElem? (i := 1634) (by decide +kernel), List.mem_of_getElem? (i := 1635) (by decide +kernel)⟩
theorem lw_p71 : lw_okq (⟨"ThreewayleafModel", "lets", "(I)Z"⟩, 40) := ⟨⟨by decide +kernel, by decide +kernel⟩, List.mem_of_getElem? (i := 1436) (by decide +kernel), List.mem_of_getElem? (i := 1638) (by decide +kernel), List.mem_of_getElem? (i := 1639) (by decide +kernel)⟩
theorem lw_p72 : lw_okq (⟨"ThreewayleafModel", "broken", "(I)I"⟩, 40) := ⟨⟨by decide +kernel, by decide +kernel⟩, List.mem_of_getElem? (i := 1436) (by decide +kernel), List.mem_of_getElem? (i := 1642) (by decide +kernel), List.mem_of_getElem? (i := 1643) (by decide +kernel)⟩
theorem lw_p73 : lw_okq (⟨"ThreewayleafModel", "hasTwins", "(I)Z"⟩, 40) := ⟨⟨by decide +kernel, by decide +kernel⟩, List.mem_of_getElem? (i := 1436) (by decide +kernel), List.mem_of_getElem? (i := 1646) (by decide +kernel), List.mem_of_getElem? (i := 1647) (by decide +kernel)⟩
theorem lw_p74 : lw_okq (⟨"ThreewayleafModel", "isBelow", "(III)Z"⟩, 40) := ⟨⟨by decide +kernel, by decide +kernel⟩, List.mem_of_getElem? (i := 1436) (by decide +kernel), List.mem_of_getElem? (i := 1650) (by decide +kernel), List.mem_of_getElem? (i := 1651) (by decide +kernel)⟩
theorem lw_p75 : lw_okq (⟨"ThreewayleafModel", "kidsOf", "(II)I"⟩, 40) := ⟨⟨by decide +kernel, by decide +kernel⟩, List.mem_of_getElem? (i := 1436) (by decide +kernel), List.mem_of_getElem? (i := 1654) (by decide +kernel), List.mem_of_getElem? (i := 1655) (by decide +kernel)⟩
theorem lw_p76 : lw_okq (⟨"ThreewayleafModel", "depth", "(II)I"⟩, 40) := ⟨⟨by decide +kernel, by decide +kernel⟩, List.mem_of_getElem? (i := 1436) (by decide +kernel), List.mem_of_getElem? (i := 1658) (by decide +kernel), List.mem_of_getElem? (i := 1659) (by decide +kernel)⟩
theorem lw_p77 : lw_okq (⟨"ThreewayleafModel", "removeHere", "(I)I"⟩, 40) := ⟨⟨by decide +kernel, by decide +kernel⟩, List.mem_of_getElem? (i := 1436) (by decide +kernel), List.mem_of_getElem? (i := 1666) (by decide +kernel), List.mem_of_getElem? (i := 1667) (by decide +kernel)⟩
theorem lw_p78 : lw_okq (⟨"ThreewayleafModel", "drop", "(II)V"⟩, 40) := ⟨⟨by decide +kernel, by decide +kernel⟩, List.mem_of_getElem? (i := 1436) (by decide +kernel), List.mem_of_getElem? (i := 1670) (by decide +kernel), List.mem_of_getElem? (i := 1671) (by decide +kernel)⟩
theorem lw_p79 : lw_okq (⟨"ThreewayleafModel", "setConflict", "(IIII)V"⟩, 40) := ⟨⟨by decide +kernel, by decide +kernel⟩, List.mem_of_getElem? (i := 1436) (by decide +kernel), List.mem_of_getElem? (i := 1674) (by decide +kernel), List.mem_of_getElem? (i := 1675) (by decide +kernel)⟩
def lw_privs_5 : List (MethodName × Nat) := [(⟨"ThreewayleafModel", "addKid", "(I)V"⟩, 40), (⟨"ThreewayleafModel", "laySpots", "(I)V"⟩, 40), (⟨"ThreewayleafModel", "insert", "(II)V"⟩, 40), (⟨"ThreewayleafModel", "nodeAt", "(II)I"⟩, 40), (⟨"ThreewayleafModel", "holds", "(I)Z"⟩, 40), (⟨"ThreewayleafModel", "openDesk", "(I)V"⟩, 40), (⟨"ThreewayleafModel", "newSpot", "(III)I"⟩, 40), (⟨"ThreewayleafModel", "lets", "(I)Z"⟩, 40), (⟨"ThreewayleafModel", "broken", "(I)I"⟩, 40), (⟨"ThreewayleafModel", "hasTwins", "(I)Z"⟩, 40), (⟨"ThreewayleafModel", "isBelow", "(III)Z"⟩, 40), (⟨"ThreewayleafModel", "kidsOf", "(II)I"⟩, 40), (⟨"ThreewayleafModel", "depth", "(II)I"⟩, 40), (⟨"ThreewayleafModel", "removeHere", "(I)I"⟩, 40), (⟨"ThreewayleafModel", "drop", "(II)V"⟩, 40), (⟨"ThreewayleafModel", "setConflict", "(IIII)V"⟩, 40)]
theorem lw_r5 : ∀ q ∈ lw_privs_5, lw_okq q := List.forall_mem_cons.mpr ⟨lw_p64, List.forall_mem_cons.mpr ⟨lw_p65, List.forall_mem_cons.mpr ⟨lw_p66, List.forall_mem_cons.mpr ⟨lw_p67, List.forall_mem_cons.mpr ⟨lw_p68, List.forall_mem_cons.mpr ⟨lw_p69, List.forall_mem_cons.mpr ⟨lw_p70, List.forall_mem_cons.mpr ⟨lw_p71, List.forall_mem_cons.mpr ⟨lw_p72, List.forall_mem_cons.mpr ⟨lw_p73, List.forall_mem_cons.mpr ⟨lw_p74, List.forall_mem_cons.mpr ⟨lw_p75, List.forall_mem_cons.mpr ⟨lw_p76, List.forall_mem_cons.mpr ⟨lw_p77, List.forall_mem_cons.mpr ⟨lw_p78, List.forall_mem_cons.mpr ⟨lw_p79, fun _ h => absurd h List.not_mem_nil⟩⟩⟩⟩⟩⟩⟩⟩⟩⟩⟩⟩⟩⟩⟩⟩
theorem lw_p80 : lw_okq (⟨"ThreewayleafModel", "leaveOut", "(I)V"⟩, 40) := ⟨⟨by decide +kernel, by decide +kernel⟩, List.mem_of_getElem? (i := 1436) (by decide +kernel), List.mem_of_getElem? (i := 1682) (by decide +kernel), List.mem_of_getElem? (i := 1683) (by decide +kernel)⟩
theorem lw_p81 : lw_okq (⟨"ThreewayleafModel", "layWords", "(II)V"⟩, 40) := ⟨⟨by decide +kernel, by decide +kernel⟩, List.mem_of_getElem? (i := 1436) (by decide +kernel), List.mem_of_getElem? (i := 1698) (by decide +kernel), List.mem_of_getElem? (i := 1699) (by decide +kernel)⟩
theorem lw_p82 : lw_okq (⟨"ThreewayleafModel", "conflictOf", "(III)I"⟩, 40) := ⟨⟨by decide +kernel, by decide +kernel⟩, List.mem_of_getElem? (i := 1436) (by decide +kernel), List.mem_of_getElem? (i := 1710) (by decide +kernel), List.mem_of_getElem? (i := 1711) (by decide +kernel)⟩
theorem lw_p83 : lw_okq (⟨"ThreewayleafModel", "isAsHead", "(I)Z"⟩, 40) := ⟨⟨by decide +kernel, by decide +kernel⟩, List.mem_of_getElem? (i := 1436) (by decide +kernel), List.mem_of_getElem? (i := 1721) (by decide +kernel), List.mem_of_getElem? (i := 1722) (by decide +kernel)⟩
theorem lw_p84 : lw_okq (⟨"ThreewayleafModel", "areSame", "(II)Z"⟩, 40) := ⟨⟨by decide +kernel, by decide +kernel⟩, List.mem_of_getElem? (i := 1436) (by decide +kernel), List.mem_of_getElem? (i := 1725) (by decide +kernel), List.mem_of_getElem? (i := 1726) (by decide +kernel)⟩
theorem lw_p85 : lw_okq (⟨"ThreewayleafModel", "newVersion", "(III)I"⟩, 40) := ⟨⟨by decide +kernel, by decide +kernel⟩, List.mem_of_getElem? (i := 1436) (by decide +kernel), List.mem_of_getElem? (i := 1729) (by decide +kernel), List.mem_of_getElem? (i := 1730) (by decide +kernel)⟩
theorem lw_p86 : lw_okq (⟨"ThreewayleafModel", "layScript", "(II)V"⟩, 40) := ⟨⟨by decide +kernel, by decide +kernel⟩, List.mem_of_getElem? (i := 1436) (by decide +kernel), List.mem_of_getElem? (i := 1737) (by decide +kernel), List.mem_of_getElem? (i := 1738) (by decide +kernel)⟩
theorem lw_p87 : lw_okq (⟨"ThreewayleafModel", "addEdit", "(II)V"⟩, 40) := ⟨⟨by decide +kernel, by decide +kernel⟩, List.mem_of_getElem? (i := 1436) (by decide +kernel), List.mem_of_getElem? (i := 1741) (by decide +kernel), List.mem_of_getElem? (i := 1742) (by decide +kernel)⟩
theorem lw_p88 : lw_okq (⟨"ThreewayleafModel", "isOther", "(IIII)Z"⟩, 40) := ⟨⟨by decide +kernel, by decide +kernel⟩, List.mem_of_getElem? (i := 1436) (by decide +kernel), List.mem_of_getElem? (i := 1745) (by decide +kernel), List.mem_of_getElem? (i := 1746) (by decide +kernel)⟩
theorem lw_p89 : lw_okq (⟨"ThreewayleafModel", "isVersion", "(I)Z"⟩, 40) := ⟨⟨by decide +kernel, by decide +kernel⟩, List.mem_of_getElem? (i := 1436) (by decide +kernel), List.mem_of_getElem? (i := 1753) (by decide +kernel), List.mem_of_getElem? (i := 1754) (by decide +kernel)⟩
theorem lw_p90 : lw_okq (⟨"ThreewayleafModel", "isOlder", "(II)Z"⟩, 40) := ⟨⟨by decide +kernel, by decide +kernel⟩, List.mem_of_getElem? (i := 1436) (by decide +kernel), List.mem_of_getElem? (i := 1761) (by decide +kernel), List.mem_of_getElem? (i := 1762) (by decide +kernel)⟩
theorem lw_p91 : lw_okq (⟨"ThreewayleafModel", "baseOf", "(II)I"⟩, 40) := ⟨⟨by decide +kernel, by decide +kernel⟩, List.mem_of_getElem? (i := 1436) (by decide +kernel), List.mem_of_getElem? (i := 1765) (by decide +kernel), List.mem_of_getElem? (i := 1766) (by decide +kernel)⟩
theorem lw_p92 : lw_okq (⟨"ThreewayleafModel", "lastOnes", "(II)J"⟩, 40) := ⟨⟨by decide +kernel, by decide +kernel⟩, List.mem_of_getElem? (i := 1436) (by decide +kernel), List.mem_of_getElem? (i := 1769) (by decide +kernel), List.mem_of_getElem? (i := 1770) (by decide +kernel)⟩
theorem lw_p93 : lw_okq (⟨"ThreewayleafModel", "knownBase", "(J)I"⟩, 40) := ⟨⟨by decide +kernel, by decide +kernel⟩, List.mem_of_getElem? (i := 1436) (by decide +kernel), List.mem_of_getElem? (i := 1777) (by decide +kernel), List.mem_of_getElem? (i := 1778) (by decide +kernel)⟩
theorem lw_p94 : lw_okq (⟨"ThreewayleafModel", "lacking", "(J)J"⟩, 40) := ⟨⟨by decide +kernel, by decide +kernel⟩, List.mem_of_getElem? (i := 1436) (by decide +kernel), List.mem_of_getElem? (i := 1784) (by decide +kernel), List.mem_of_getElem? (i := 1785) (by decide +kernel)⟩
theorem lw_p95 : lw_okq (⟨"ThreewayleafModel", "keep", "(J)V"⟩, 40) := ⟨⟨by decide +kernel, by decide +kernel⟩, List.mem_of_getElem? (i := 1436) (by decide +kernel), List.mem_of_getElem? (i := 1788) (by decide +kernel), List.mem_of_getElem? (i := 1789) (by decide +kernel)⟩
def lw_privs_6 : List (MethodName × Nat) := [(⟨"ThreewayleafModel", "leaveOut", "(I)V"⟩, 40), (⟨"ThreewayleafModel", "layWords", "(II)V"⟩, 40), (⟨"ThreewayleafModel", "conflictOf", "(III)I"⟩, 40), (⟨"ThreewayleafModel", "isAsHead", "(I)Z"⟩, 40), (⟨"ThreewayleafModel", "areSame", "(II)Z"⟩, 40), (⟨"ThreewayleafModel", "newVersion", "(III)I"⟩, 40), (⟨"ThreewayleafModel", "layScript", "(II)V"⟩, 40), (⟨"ThreewayleafModel", "addEdit", "(II)V"⟩, 40), (⟨"ThreewayleafModel", "isOther", "(IIII)Z"⟩, 40), (⟨"ThreewayleafModel", "isVersion", "(I)Z"⟩, 40), (⟨"ThreewayleafModel", "isOlder", "(II)Z"⟩, 40), (⟨"ThreewayleafModel", "baseOf", "(II)I"⟩, 40), (⟨"ThreewayleafModel", "lastOnes", "(II)J"⟩, 40), (⟨"ThreewayleafModel", "knownBase", "(J)I"⟩, 40), (⟨"ThreewayleafModel", "lacking", "(J)J"⟩, 40), (⟨"ThreewayleafModel", "keep", "(J)V"⟩, 40)]
theorem lw_r6 : ∀ q ∈ lw_privs_6, lw_okq q := List.forall_mem_cons.mpr ⟨lw_p80, List.forall_mem_cons.mpr ⟨lw_p81, List.forall_mem_cons.mpr ⟨lw_p82, List.forall_mem_cons.mpr ⟨lw_p83, List.forall_mem_cons.mpr ⟨lw_p84, List.forall_mem_cons.mpr ⟨lw_p85, List.forall_mem_cons.mpr ⟨lw_p86, List.forall_mem_cons.mpr ⟨lw_p87, List.forall_mem_cons.mpr ⟨lw_p88, List.forall_mem_cons.mpr ⟨lw_p89, List.forall_mem_cons.mpr ⟨lw_p90, List.forall_mem_cons.mpr ⟨lw_p91, List.forall_mem_cons.mpr ⟨lw_p92, List.forall_mem_cons.mpr ⟨lw_p93, List.forall_mem_cons.mpr ⟨lw_p94, List.forall_mem_cons.mpr ⟨lw_p95, fun _ h => absurd h List.not_mem_nil⟩⟩⟩⟩⟩⟩⟩⟩⟩⟩⟩⟩⟩⟩⟩⟩
theorem lw_p96 : lw_okq (⟨"ThreewayleafModel", "join", "(IIII)V"⟩, 40) := ⟨⟨by decide +kernel, by decide +kernel⟩, List.mem_of_getElem? (i := 1436) (by decide +kernel), List.mem_of_getElem? (i := 1792) (by decide +kernel), List.mem_of_getElem? (i := 1793) (by decide +kernel)⟩
theorem lw_p97 : lw_okq (⟨"ThreewayleafModel", "joinBoth", "(IIIII)V"⟩, 40) := ⟨⟨by decide +kernel, by decide +kernel⟩, List.mem_of_getElem? (i := 1436) (by decide +kernel), List.mem_of_getElem? (i := 1796) (by decide +kernel), List.mem_of_getElem? (i := 1797) (by decide +kernel)⟩
theorem lw_p98 : lw_okq (⟨"ThreewayleafModel", "isTouched", "(III)Z"⟩, 40) := ⟨⟨by decide +kernel, by decide +kernel⟩, List.mem_of_getElem? (i := 1436) (by decide +kernel), List.mem_of_getElem? (i := 1812) (by decide +kernel), List.mem_of_getElem? (i := 1813) (by decide +kernel)⟩
theorem lw_p99 : lw_okq (⟨"ThreewayleafModel", "take", "(III)V"⟩, 40) := ⟨⟨by decide +kernel, by decide +kernel⟩, List.mem_of_getElem? (i := 1436) (by decide +kernel), List.mem_of_getElem? (i := 1816) (by decide +kernel), List.mem_of_getElem? (i := 1817) (by decide +kernel)⟩
theorem lw_p100 : lw_okq (⟨"ThreewayleafModel", "breakRings", "(IIII)V"⟩, 40) := ⟨⟨by decide +kernel, by decide +kernel⟩, List.mem_of_getElem? (i := 1436) (by decide +kernel), List.mem_of_getElem? (i := 1820) (by decide +kernel), List.mem_of_getElem? (i := 1821) (by decide +kernel)⟩
theorem lw_p101 : lw_okq (⟨"ThreewayleafModel", "isOnRing", "(II)Z"⟩, 40) := ⟨⟨by decide +kernel, by decide +kernel⟩, List.mem_of_getElem? (i := 1436) (by decide +kernel), List.mem_of_getElem? (i := 1824) (by decide +kernel), List.mem_of_getElem? (i := 1825) (by decide +kernel)⟩
theorem lw_p102 : lw_okq (⟨"ThreewayleafModel", "settleHead", "(II)I"⟩, 40) := ⟨⟨by decide +kernel, by decide +kernel⟩, List.mem_of_getElem? (i := 1436) (by decide +kernel), List.mem_of_getElem? (i := 1828) (by decide +kernel), List.mem_of_getElem? (i := 1829) (by decide +kernel)⟩
theorem lw_p103 : lw_okq (⟨"ThreewayleafModel", "canPick", "(II)Z"⟩, 40) := ⟨⟨by decide +kernel, by decide +kernel⟩, List.mem_of_getElem? (i := 1436) (by decide +kernel), List.mem_of_getElem? (i := 1836) (by decide +kernel), List.mem_of_getElem? (i := 1837) (by decide +kernel)⟩
theorem lw_p104 : lw_okq (⟨"ThreewayleafModel", "areVersions", "(II)Z"⟩, 40) := ⟨⟨by decide +kernel, by decide +kernel⟩, List.mem_of_getElem? (i := 1436) (by decide +kernel), List.mem_of_getElem? (i := 1848) (by decide +kernel), List.mem_of_getElem? (i := 1849) (by decide +kernel)⟩
theorem lw_p105 : lw_okq (⟨"ThreewayleafModel", "joinHere", "(II)V"⟩, 40) := ⟨⟨by decide +kernel, by decide +kernel⟩, List.mem_of_getElem? (i := 1436) (by decide +kernel), List.mem_of_getElem? (i := 1852) (by decide +kernel), List.mem_of_getElem? (i := 1853) (by decide +kernel)⟩
theorem lw_p106 : lw_okq (⟨"ThreewayleafModel", "isView", "(I)Z"⟩, 40) := ⟨⟨by decide +kernel, by decide +kernel⟩, List.mem_of_getElem? (i := 1436) (by decide +kernel), List.mem_of_getElem? (i := 1880) (by decide +kernel), List.mem_of_getElem? (i := 1881) (by decide +kernel)⟩
theorem lw_p107 : lw_okq (⟨"ThreewayleafModel", "viewOf", "(I)I"⟩, 40) := ⟨⟨by decide +kernel, by decide +kernel⟩, List.mem_of_getElem? (i := 1436) (by decide +kernel), List.mem_of_getElem? (i := 1884) (by decide +kernel), List.mem_of_getElem? (i := 1885) (by decide +kernel)⟩
theorem lw_p108 : lw_okq (⟨"ThreewayleafModel", "seesNode", "(II)Z"⟩, 40) := ⟨⟨by decide +kernel, by decide +kernel⟩, List.mem_of_getElem? (i := 1436) (by decide +kernel), List.mem_of_getElem? (i := 1896) (by decide +kernel), List.mem_of_getElem? (i := 1897) (by decide +kernel)⟩
theorem lw_p109 : lw_okq (⟨"ThreewayleafModel", "sees", "(I)Z"⟩, 40) := ⟨⟨by decide +kernel, by decide +kernel⟩, List.mem_of_getElem? (i := 1436) (by decide +kernel), List.mem_of_getElem? (i := 1928) (by decide +kernel), List.mem_of_getElem? (i := 1929) (by decide +kernel)⟩
theorem lw_p110 : lw_okq (⟨"ThreewayleafModel", "layPrints", "(IZ)V"⟩, 40) := ⟨⟨by decide +kernel, by decide +kernel⟩, List.mem_of_getElem? (i := 1436) (by decide +kernel), List.mem_of_getElem? (i := 1940) (by decide +kernel), List.mem_of_getElem? (i := 1941) (by decide +kernel)⟩
theorem lw_p111 : lw_okq (⟨"ThreewayleafModel", "areKidsDone", "(II)Z"⟩, 40) := ⟨⟨by decide +kernel, by decide +kernel⟩, List.mem_of_getElem? (i := 1436) (by decide +kernel), List.mem_of_getElem? (i := 1944) (by decide +kernel), List.mem_of_getElem? (i := 1945) (by decide +kernel)⟩
def lw_privs_7 : List (MethodName × Nat) := [(⟨"ThreewayleafModel", "join", "(IIII)V"⟩, 40), (⟨"ThreewayleafModel", "joinBoth", "(IIIII)V"⟩, 40), (⟨"ThreewayleafModel", "isTouched", "(III)Z"⟩, 40), (⟨"ThreewayleafModel", "take", "(III)V"⟩, 40), (⟨"ThreewayleafModel", "breakRings", "(IIII)V"⟩, 40), (⟨"ThreewayleafModel", "isOnRing", "(II)Z"⟩, 40), (⟨"ThreewayleafModel", "settleHead", "(II)I"⟩, 40), (⟨"ThreewayleafModel", "canPick", "(II)Z"⟩, 40), (⟨"ThreewayleafModel", "areVersions", "(II)Z"⟩, 40), (⟨"ThreewayleafModel", "joinHere", "(II)V"⟩, 40), (⟨"ThreewayleafModel", "isView", "(I)Z"⟩, 40), (⟨"ThreewayleafModel", "viewOf", "(I)I"⟩, 40), (⟨"ThreewayleafModel", "seesNode", "(II)Z"⟩, 40), (⟨"ThreewayleafModel", "sees", "(I)Z"⟩, 40), (⟨"ThreewayleafModel", "layPrints", "(IZ)V"⟩, 40), (⟨"ThreewayleafModel", "areKidsDone", "(II)Z"⟩, 40)]
theorem lw_r7 : ∀ q ∈ lw_privs_7, lw_okq q := List.forall_mem_cons.mpr ⟨lw_p96, List.forall_mem_cons.mpr ⟨lw_p97, List.forall_mem_cons.mpr ⟨lw_p98, List.forall_mem_cons.mpr ⟨lw_p99, List.forall_mem_cons.mpr ⟨lw_p100, List.forall_mem_cons.mpr ⟨lw_p101, List.forall_mem_cons.mpr ⟨lw_p102, List.forall_mem_cons.mpr ⟨lw_p103, List.forall_mem_cons.mpr ⟨lw_p104, List.forall_mem_cons.mpr ⟨lw_p105, List.forall_mem_cons.mpr ⟨lw_p106, List.forall_mem_cons.mpr ⟨lw_p107, List.forall_mem_cons.mpr ⟨lw_p108, List.forall_mem_cons.mpr ⟨lw_p109, List.forall_mem_cons.mpr ⟨lw_p110, List.forall_mem_cons.mpr ⟨lw_p111, fun _ h => absurd h List.not_mem_nil⟩⟩⟩⟩⟩⟩⟩⟩⟩⟩⟩⟩⟩⟩⟩⟩
theorem lw_p112 : lw_okq (⟨"ThreewayleafModel", "printOf", "(IIZ)J"⟩, 40) := ⟨⟨by decide +kernel, by decide +kernel⟩, List.mem_of_getElem? (i := 1436) (by decide +kernel), List.mem_of_getElem? (i := 1948) (by decide +kernel), List.mem_of_getElem? (i := 1949) (by decide +kernel)⟩
theorem lw_p113 : lw_okq (⟨"ThreewayleafModel", "isRinged", "(I)Z"⟩, 40) := ⟨⟨by decide +kernel, by decide +kernel⟩, List.mem_of_getElem? (i := 1436) (by decide +kernel), List.mem_of_getElem? (i := 1960) (by decide +kernel), List.mem_of_getElem? (i := 1961) (by decide +kernel)⟩
theorem lw_p114 : lw_okq (⟨"ThreewayleafModel", "areViews", "(II)Z"⟩, 40) := ⟨⟨by decide +kernel, by decide +kernel⟩, List.mem_of_getElem? (i := 1436) (by decide +kernel), List.mem_of_getElem? (i := 1973) (by decide +kernel), List.mem_of_getElem? (i := 1974) (by decide +kernel)⟩
theorem lw_p115 : lw_okq (⟨"ThreewayleafModel", "lay", "(I)V"⟩, 40) := ⟨⟨by decide +kernel, by decide +kernel⟩, List.mem_of_getElem? (i := 1436) (by decide +kernel), List.mem_of_getElem? (i := 1981) (by decide +kernel), List.mem_of_getElem? (i := 1982) (by decide +kernel)⟩
theorem lw_p116 : lw_okq (⟨"ThreewayleafModel", "layMatches", "(II)V"⟩, 40) := ⟨⟨by decide +kernel, by decide +kernel⟩, List.mem_of_getElem? (i := 1436) (by decide +kernel), List.mem_of_getElem? (i := 1989) (by decide +kernel), List.mem_of_getElem? (i := 1990) (by decide +kernel)⟩
theorem lw_p117 : lw_okq (⟨"ThreewayleafModel", "layFaceMatches", "(II)V"⟩, 40) := ⟨⟨by decide +kernel, by decide +kernel⟩, List.mem_of_getElem? (i := 1436) (by decide +kernel), List.mem_of_getElem? (i := 1993) (by decide +kernel), List.mem_of_getElem? (i := 1994) (by decide +kernel)⟩
theorem lw_p118 : lw_okq (⟨"ThreewayleafModel", "faced", "(I[JJ)I"⟩, 40) := ⟨⟨by decide +kernel, by decide +kernel⟩, List.mem_of_getElem? (i := 1436) (by decide +kernel), List.mem_of_getElem? (i := 1997) (by decide +kernel), List.mem_of_getElem? (i := 1998) (by decide +kernel)⟩
theorem lw_p119 : lw_okq (⟨"ThreewayleafModel", "rankOf", "(II)I"⟩, 40) := ⟨⟨by decide +kernel, by decide +kernel⟩, List.mem_of_getElem? (i := 1436) (by decide +kernel), List.mem_of_getElem? (i := 2001) (by decide +kernel), List.mem_of_getElem? (i := 2002) (by decide +kernel)⟩
theorem lw_p120 : lw_okq (⟨"ThreewayleafModel", "ranked", "(IIII)I"⟩, 40) := ⟨⟨by decide +kernel, by decide +kernel⟩, List.mem_of_getElem? (i := 1436) (by decide +kernel), List.mem_of_getElem? (i := 2005) (by decide +kernel), List.mem_of_getElem? (i := 2006) (by decide +kernel)⟩
def lw_privs_8 : List (MethodName × Nat) := [(⟨"ThreewayleafModel", "printOf", "(IIZ)J"⟩, 40), (⟨"ThreewayleafModel", "isRinged", "(I)Z"⟩, 40), (⟨"ThreewayleafModel", "areViews", "(II)Z"⟩, 40), (⟨"ThreewayleafModel", "lay", "(I)V"⟩, 40), (⟨"ThreewayleafModel", "layMatches", "(II)V"⟩, 40), (⟨"ThreewayleafModel", "layFaceMatches", "(II)V"⟩, 40), (⟨"ThreewayleafModel", "faced", "(I[JJ)I"⟩, 40), (⟨"ThreewayleafModel", "rankOf", "(II)I"⟩, 40), (⟨"ThreewayleafModel", "ranked", "(IIII)I"⟩, 40)]
theorem lw_r8 : ∀ q ∈ lw_privs_8, lw_okq q := List.forall_mem_cons.mpr ⟨lw_p112, List.forall_mem_cons.mpr ⟨lw_p113, List.forall_mem_cons.mpr ⟨lw_p114, List.forall_mem_cons.mpr ⟨lw_p115, List.forall_mem_cons.mpr ⟨lw_p116, List.forall_mem_cons.mpr ⟨lw_p117, List.forall_mem_cons.mpr ⟨lw_p118, List.forall_mem_cons.mpr ⟨lw_p119, List.forall_mem_cons.mpr ⟨lw_p120, fun _ h => absurd h List.not_mem_nil⟩⟩⟩⟩⟩⟩⟩⟩⟩
def lw_privs : List (MethodName × Nat) := lw_privs_1 ++ (lw_privs_2 ++ (lw_privs_3 ++ (lw_privs_4 ++ (lw_privs_5 ++ (lw_privs_6 ++ (lw_privs_7 ++ (lw_privs_8)))))))
def lw_tbl : List Cond := k2_sels lw_privs ++ tables_1
theorem lw_privs_ok : ∀ q ∈ lw_privs, lw_okq q := by
  show ∀ q ∈ lw_privs_1 ++ (lw_privs_2 ++ (lw_privs_3 ++ (lw_privs_4 ++ (lw_privs_5 ++ (lw_privs_6 ++ (lw_privs_7 ++ (lw_privs_8))))))), lw_okq q
  exact List.forall_mem_append.mpr ⟨lw_r1, List.forall_mem_append.mpr ⟨lw_r2, List.forall_mem_append.mpr ⟨lw_r3, List.forall_mem_append.mpr ⟨lw_r4, List.forall_mem_append.mpr ⟨lw_r5, List.forall_mem_append.mpr ⟨lw_r6, List.forall_mem_append.mpr ⟨lw_r7, lw_r8⟩⟩⟩⟩⟩⟩⟩
end
section
/-! ===== BEGIN words of one list among another's, by their places ===== -/
theorem goodIn_r {big : List Cond} (ws : List Cond) (ps : List Nat) (hp : ws = ps.filterMap (fun i => big[i]?)) (h : ws.all goodWord = true) : GoodIn big ws := by
  intro w hw
  have h1 := List.all_eq_true.mp h w hw
  rw [hp] at hw
  obtain ⟨i, -, hi⟩ := List.mem_filterMap.mp hw
  have hm : w ∈ big := by first | exact List.mem_of_getElem? hi | exact List.getElem?_mem hi
  exact ⟨hm, good_of_word h1⟩
theorem goodIn_app {big a b : List Cond} (ha : GoodIn big a) (hb : GoodIn big b) : GoodIn big (a ++ b) := fun w h => (List.mem_append.mp h).elim (ha w) (hb w)
theorem goodIn_ca {big a b : List Cond} {c : Cond} (ha : GoodIn big (c :: a)) (hb : GoodIn big b) : GoodIn big (c :: (a ++ b)) := fun w h => (List.mem_cons.mp h).elim (fun e => ha w (List.mem_cons.mpr (Or.inl e))) (fun h => (List.mem_append.mp h).elim (fun h => ha w (List.mem_cons.mpr (Or.inr h))) (hb w))
theorem goodIn_sub {big ws : List Cond} (hm : ∀ w ∈ ws, w ∈ big) (h : ws.all goodWord = true) : GoodIn big ws := fun w hw => ⟨hm w hw, good_of_word (List.all_eq_true.mp h w hw)⟩
/-! ===== END ===== -/
/-! ===== BEGIN exceptions that leave a method, and their catching by the caller (launches without stack traces) ===== -/
section VXA
/-! The laws vx_back, vx_callV, vx_callS, vx_callSW, vx_throw0, vx_throwS follow proofs of the library, with one case more: JvmDerived/Free/Laws.lean (Back.of_free), Shelf42/LK1.lean (callV, callS), Shelf/KitTraced.lean (throwNew0V, throwNewS). -/
/-- where a method has thrown q: the class by its name, the cell, what was written, the world -/
def vx_T (XC : String → State → State → Prop) (st : State) (q : Addr) (t : State) (mc ms : Nat) (free : Addr → Prop) : Prop :=
  ∃ (E : String) (ce : Cell) (L : List Loc), XC E st t ∧ t.heap[q]? = some ce ∧ ce.vm = .none ∧ st.vm.findClass E = some ce.cls ∧ st.WarmedH t.vm ∧ st.sameButNew ({ t with vm := st.vm } : State) L mc ms ∧ ∀ z ∈ L, free z.base
def vx_Q (Qc : Array Value → State → Outcome → State → Prop) (XC : String → State → State → Prop) (mc ms : Nat) (free : Addr → Prop) : Array Value → State → Outcome → State → Prop := fun a st o t =>
  (Qc a st o t ∧ ∃ L, FrameEnd st o t L mc ms ∧ ∀ q ∈ L, free q.base) ∨ ∃ q, o = .threw q ∧ vx_T XC st q t mc ms free
/-- a callee that returns or throws -/
def vx_Met (l : Launch) (y : MethodName) (ws : List Cond) (rm : Room) (Pc : Array Value → State → Prop) (Qc : Array Value → State → Outcome → State → Prop) (XC : String → State → State → Prop) (mc ms : Nat) (free : Addr → Prop) : Prop :=
  MetFree l y (headSpec ws rm) Pc (fun _ _ _ _ _ => True) (vx_Q Qc XC mc ms free)
def vx_Post (XC : String → State → State → Prop) (mc ms : Nat) (free : Addr → Prop) : Pt → Array Value → Addr → Pt → Prop := fun A a q B =>
  ∃ (g : JFrame) (mk : MethodId) (t : State) (L : List Loc) (E : String) (ce : Cell), B.U.heap = t.heap ∧ B.U.vm = t.vm ∧ XC E (A.U.calling g mk a) t ∧ t.heap[q]? = some ce ∧ ce.vm = .none ∧ A.U.vm.findClass E = some ce.cls ∧ B.locs = A.locs ++ L ∧ (∀ z ∈ L, free z.base) ∧ B.cells = A.cells + mc ∧ B.slots = A.slots + ms
def vx_Back (l : Launch) (R : Room) (p : Program) (e : Env) (below : List Frame) (s : State) (sargs : Array Value) (y : MethodName) (len W9 : Nat)
    (Pre : Pt → Array Value → Prop) (Post : Pt → Array Value → Option Value → Pt → Prop) (PostX : Pt → Array Value → Addr → Pt → Prop) : Prop :=
  ∀ (m : MethodId) (meth : Method) (c : Code) (A : Pt) (g : JFrame) (ig : Instr) (mk : MethodId) (a : Array Value),
    Stand p l e R s m sargs below meth c A.U A.locs A.cells A.slots → g.method = m → g.locals.size = c.maxLocals → decode c.code g.pc = .ok (ig, len) →
    2 * g.monitorRoom + (g.stack.map fun v => v.category).sum ≤ W9 → A.U.methodNamed? y = some mk → Pre A a →
    (∃ (v : Option Value) (B : Pt), Stand p l e R s m sargs below meth c B.U B.locs B.cells B.slots ∧ Post A a v B ∧
      Steps p.tables e below (doInvoke e (A.U.setTop g) [] mk a).1 (B.U.setTop { g with pc := g.pc + len, stack := v.toList ++ g.stack })) ∨
    (∃ (q : Addr) (B : Pt), Stand p l e R s m sargs below meth c B.U B.locs B.cells B.slots ∧ PostX A a q B ∧
      Steps p.tables e below (doInvoke e (A.U.setTop g) [] mk a).1 ((B.U.setTop g).pushFrame (.throwing q)))
section Payer
variable {l : Launch} {R : Room} {p : Program} {e : Env} {below : List Frame} {s : State} {sargs : Array Value} {y : MethodName} {len W9 : Nat}
theorem vx_back {ws : List Cond} {rm : Room} {Pc : Array Value → State → Prop} {Qc : Array Value → State → Outcome → State → Prop} {XC : String → State → State → Prop} {mc ms : Nat} {free : Addr → Prop} {bytes : ByteArray} {maxL : Nat} {ret : Option FieldType}
    (hM : vx_Met l y ws rm Pc Qc XC mc ms free) (hblind : FrameBlind Pc) (hrc : rm.cells = mc) (hrs : rm.slots = ms)
    (hframes : rm.frames + 1 ≤ R.frames) (hlocals : W9 + (maxL + 11) + rm.locals ≤ R.locals)
    (hws : ∀ w ∈ ws, ∀ a' U, s.WarmedH U.vm → w.before a' U = true) (hcode : Cond.code y bytes maxL ret ∈ ws) (hinit : ∀ a' U, s.WarmedH U.vm → (Cond.initialized y.cls).before a' U = true) :
    vx_Back l R p e below s sargs y len W9 (PreOf R mc ms Pc) (PostOf Qc mc ms free) (vx_Post XC mc ms free) := by
  intro m meth c A g ig mk a X hg hsize hdg hW hn hp
  have h1 : (headSpec ws rm).pre.before a A.U = true := atoms_intro fun w hw => hws w hw _ _ X.warmed
  have h2 : (Cond.code y bytes maxL ret).before a A.U = true := hws _ hcode _ _ X.warmed
  have h3 : (Cond.initialized y.cls).before a A.U = true := hinit _ _ X.warmed
  have h4 : A.cells + (headSpec ws rm).room.cells ≤ R.cells := by rw [show (headSpec ws rm).room.cells = mc from hrc]; exact hp.1
  have h5 : A.slots + (headSpec ws rm).room.slots ≤ R.slots := by rw [show (headSpec ws rm).room.slots = ms from hrs]; exact hp.2.1
  have hPc : Pc a (A.U.calling g mk a) := hblind _ _ _ _ hp.2.2
  obtain ⟨U, Ls, c0, s0⟩ := A
  dsimp only [Pt.U, Pt.locs, Pt.cells, Pt.slots] at h1 h2 h3 h4 h5 X hn hPc ⊢
  obtain ⟨methY, cY, hmY, hcY, -, hlY, -, -, -, -⟩ := Cond.code_spec hn h2
  obtain ⟨kY, hkY, -⟩ := className_of_methodNamed hn
  have hinitY : kY.init = .initialized := Cond.initialized_spec (findClass_of_methodNamed hn) hkY h3
  have h : At U g.method c below := by rw [hg]; exact X.here
  have hlocals9 : W9 + (maxL + 11) + (headSpec ws rm).room.locals ≤ R.locals := hlocals
  have happ : (headSpec ws rm).appliesLoose y e.platform (U.calling g mk a) = true :=
    Spec.appliesLoose_calling (g := g) h hdg hn hkY hinitY
      (X.room_calling (g := g) (R' := (headSpec ws rm).room) hsize hmY hcY hframes (by rw [hlY]; omega) h4 h5) h1
  obtain ⟨mid, hmid⟩ := h.above
  have hfr : (U.setTop g).frames = (.java g :: mid) ++ below := by rw [State.frames_setTop' g h.top, hmid]; rfl
  obtain ⟨o, s₂, hsteps, -, hend, hq⟩ := Steps.callFree hM p X.admits X.cas X.clock (acts := []) hfr happ hPc trivial
  have hq' : vx_Q Qc XC mc ms free a (U.calling g mk a) o s₂ := hq
  rw [State.frames_setTop' g h.top] at hend
  obtain ⟨g₀, hg0⟩ := Option.isSome_iff_exists.mp h.top
  obtain ⟨r, hr⟩ := State.topJava?_eq_some.mp hg0
  have hr' : (({ U with heap := s₂.heap, slotsUsed := s₂.slotsUsed } : State).setVm s₂.vm).frames = .java g₀ :: r := hr
  rcases hq' with ⟨hqc, L, hfe, hL⟩ | ⟨q, rfl, E, ce, L, hx, hce, hcv, hcl, hW₂, hsm, hL⟩
  · obtain ⟨⟨v, rfl⟩, hW₂, e2, q2, q3, q4, q5, q6⟩ := id hfe
    have e3 : s₂ = ({ (U.calling g mk a).setFrames s₂.frames with heap := s₂.heap, slotsUsed := s₂.slotsUsed } : State).setVm s₂.vm := by
      have : s₂ = ({ s₂ with vm := (U.calling g mk a).vm } : State).setVm s₂.vm := rfl
      rw [e2] at this
      exact this
    obtain ⟨c₂, i₂, len₂, hc₂, hd₂, hf₂⟩ := hend
    have hW' : U.WarmedH s₂.vm := hW₂
    have hcc : c₂ = c := by
      have h1 : s₂.code? g.method = U.code? g.method := by
        rw [State.code?_eq, State.code?_eq, hW'.alike.method?]
      exact Option.some.inj (hc₂.symm.trans (h1.trans h.code))
    subst hcc
    have hlen : len₂ = len := by rw [hdg] at hd₂; cases hd₂; rfl
    subst hlen
    have hs₂ : s₂ = (({ U with heap := s₂.heap, slotsUsed := s₂.slotsUsed } : State).setVm s₂.vm).setTop { g with pc := g.pc + len₂, stack := v.toList ++ g.stack } := by
      refine e3.trans ?_
      rw [hf₂, State.calling_eq h.top, State.setFrames_setFrames, State.setTop_of_frames _ hr', hr]
      rfl
    have hsame : U.sameButNew ({ U with heap := s₂.heap, slotsUsed := s₂.slotsUsed } : State) L mc ms := by
      refine ⟨?_, q2, q3, q4, q5, q6⟩
      obtain ⟨t, ht, -⟩ := State.frames_cons hr
      show ({ U with heap := s₂.heap, slotsUsed := s₂.slotsUsed } : State) = { U.setFrames U.frames with heap := s₂.heap, slotsUsed := s₂.slotsUsed }
      rw [State.setFrames_self ht]
    subst hg
    refine Or.inl ⟨v, ⟨(({ U with heap := s₂.heap, slotsUsed := s₂.slotsUsed } : State).setVm s₂.vm), Ls ++ L, c0 + mc, s0 + ms⟩,
      ⟨X.admits, X.cas, X.clock, X.frames, X.room, X.hears, X.method, X.code, (X.here.setHeapUsed s₂.heap s₂.slotsUsed).setVm hW'.alike, X.tail, State.WarmedH.trans X.warmed hW', X.limits, X.bytes, X.same.trans (hsame.setVm s.vm)⟩,
      ⟨g, mk, s₂, L, rfl, rfl, hqc, rfl, hL, rfl, rfl⟩, ?_⟩
    show Steps p.tables e below _ ((({ U with heap := s₂.heap, slotsUsed := s₂.slotsUsed } : State).setVm s₂.vm).setTop { g with pc := g.pc + len₂, stack := v.toList ++ g.stack })
    rw [← hs₂]
    exact hsteps
  · obtain ⟨e2, q2, q3, q4, q5, q6⟩ := id hsm
    have e3 : s₂ = ({ (U.calling g mk a).setFrames s₂.frames with heap := s₂.heap, slotsUsed := s₂.slotsUsed } : State).setVm s₂.vm := by
      have : s₂ = ({ s₂ with vm := (U.calling g mk a).vm } : State).setVm s₂.vm := rfl
      rw [e2] at this
      exact this
    have hf₂ : s₂.frames = .throwing q :: .java g :: U.frames.tail := hend
    have hW' : U.WarmedH s₂.vm := hW₂
    have hs₂ : s₂ = ((({ U with heap := s₂.heap, slotsUsed := s₂.slotsUsed } : State).setVm s₂.vm).setTop g).pushFrame (.throwing q) := by
      refine e3.trans ?_
      rw [hf₂, State.calling_eq h.top, State.setFrames_setFrames, State.pushFrame, State.frames_setTop _ hr', State.setTop_of_frames _ hr', State.setFrames_setFrames, hr]
      rfl
    have hsame : U.sameButNew ({ U with heap := s₂.heap, slotsUsed := s₂.slotsUsed } : State) L mc ms := by
      refine ⟨?_, q2, q3, q4, q5, q6⟩
      obtain ⟨t, ht, -⟩ := State.frames_cons hr
      show ({ U with heap := s₂.heap, slotsUsed := s₂.slotsUsed } : State) = { U.setFrames U.frames with heap := s₂.heap, slotsUsed := s₂.slotsUsed }
      rw [State.setFrames_self ht]
    subst hg
    refine Or.inr ⟨q, ⟨(({ U with heap := s₂.heap, slotsUsed := s₂.slotsUsed } : State).setVm s₂.vm), Ls ++ L, c0 + mc, s0 + ms⟩,
      ⟨X.admits, X.cas, X.clock, X.frames, X.room, X.hears, X.method, X.code, (X.here.setHeapUsed s₂.heap s₂.slotsUsed).setVm hW'.alike, X.tail, State.WarmedH.trans X.warmed hW', X.limits, X.bytes, X.same.trans (hsame.setVm s.vm)⟩,
      ⟨g, mk, s₂, L, E, ce, rfl, rfl, hx, hce, hcv, hcl, rfl, hL, rfl, rfl⟩, ?_⟩
    show Steps p.tables e below _ (((({ U with heap := s₂.heap, slotsUsed := s₂.slotsUsed } : State).setVm s₂.vm).setTop g).pushFrame (.throwing q))
    rw [← hs₂]
    exact hsteps
end Payer
section Calls
variable {p : Program} {l : Launch} {e : Env} {R : Room} {s : State} {m : MethodId} {args : Array Value} {below : List Frame} {meth : Method} {c : Code} {T : State} {locs : List Loc} {cells slots : Nat}
theorem vx_callV (X : Stand p l e R s m args below meth c T locs cells slots) (hexec : p.tables.exec = Jvm.exec) {own C : String} {index : Nat} {y : MethodName} {bytes : ByteArray} {maxL : Nat} {ret : Option FieldType}
    (hown : s.vm.findClass own = some m.cls) (hlink : (Cond.methodLink own index y).before args s = true) (hinst : (Cond.instanceMethod y).before args s = true) (hsel : (Cond.selects C y y).before args s = true)
    (hcode : (Cond.code y bytes maxL ret).before args s = true) (hy : y.cls ≠ "java/lang/invoke/MethodHandle" ∧ y.cls ≠ "java/lang/invoke/VarHandle")
    {W9 : Nat} {Pre : Pt → Array Value → Prop} {Post : Pt → Array Value → Option Value → Pt → Prop} {PostX : Pt → Array Value → Addr → Pt → Prop} (hK : vx_Back l R p e below s args y 3 W9 Pre Post PostX)
    {b : Addr} {cellB : Cell} (hcell : T.heap[b]? = some cellB) (hobj : cellB.vm.isStatics = false) (hcls : s.vm.findClass C = some cellB.cls)
    {g : JFrame} (hg : g.method = m) (hsize : g.locals.size = c.maxLocals) {argsL rest : List Value} (hlen : ∀ sig, parseMethodDescriptor y.desc = some sig → argsL.length = sig.parameters.length)
    (hstack : g.stack = argsL.reverse ++ .ref b :: rest) (hW : 2 * g.monitorRoom + (rest.map fun v => v.category).sum ≤ W9) (hdg : decode c.code g.pc = .ok (.invokevirtual index, 3))
    (hpre : ∀ vm₁, s.WarmedH vm₁ → Pre ⟨T.setVm vm₁, locs, cells, slots⟩ (Value.ref b :: argsL).toArray) :
    (∃ (v : Option Value) (vm₁ : Vm) (B : Pt), s.WarmedH vm₁ ∧ Stand p l e R s m args below meth c B.U B.locs B.cells B.slots ∧ Post ⟨T.setVm vm₁, locs, cells, slots⟩ (Value.ref b :: argsL).toArray v B ∧
      ∀ target, Steps p.tables e below (B.U.setTop { g with pc := g.pc + 3, stack := v.toList ++ rest }) target → Steps p.tables e below (T.setTop g) target) ∨
    (∃ (q : Addr) (vm₁ : Vm) (B : Pt), s.WarmedH vm₁ ∧ Stand p l e R s m args below meth c B.U B.locs B.cells B.slots ∧ PostX ⟨T.setVm vm₁, locs, cells, slots⟩ (Value.ref b :: argsL).toArray q B ∧
      Steps p.tables e below (T.setTop g) ((B.U.setTop { g with stack := rest }).pushFrame (.throwing q))) := by
  obtain ⟨mk, methM, hnamed, hmethM, hstM, habM⟩ := Cond.instanceMethod_spec hinst
  obtain ⟨methM', cM, hmethM', -, -, -, -, -, -, hsigM⟩ := Cond.code_spec hnamed hcode
  cases hmethM.symm.trans hmethM'
  obtain ⟨c2, r2, m2, q1, q2, q3, q4, kP, hkP, hkPi⟩ := Cond.selects_spec hsel
  cases hcls.symm.trans q1
  cases (State.methodFound?_of_named hnamed hy).symm.trans q2
  cases hnamed.symm.trans q3
  have hselP : selectMethod e.platform s.vm cellB.cls mk = .method mk := by rw [Launch.admits_selectMethod X.admits]; exact q4
  obtain ⟨vm₁, X₁, hstep₁⟩ := X.invokevirtual hexec hown hlink hnamed hmethM hstM hkP hkPi hy (a := b) (cell := cellB) hcell
    (fun z h => by rw [h] at hobj; cases hobj) hselP hmethM habM hkP hkPi (g := g) hg (argsL := argsL) (rest := rest) (hlen _ hsigM) hstack hdg
  rcases hK m meth c ⟨T.setVm vm₁, locs, cells, slots⟩ { g with stack := rest } (.invokevirtual index) mk (Value.ref b :: argsL).toArray X₁ hg hsize hdg hW (X₁.named hnamed) (hpre vm₁ X₁.warmed) with ⟨v, B, X', hpost, hsteps⟩ | ⟨q, B, X', hpost, hsteps⟩
  · exact Or.inl ⟨v, vm₁, B, X₁.warmed, X', hpost, fun target h => hstep₁ _ fun acts => by rw [doInvoke_state]; exact hsteps.trans h⟩
  · exact Or.inr ⟨q, vm₁, B, X₁.warmed, X', hpost, hstep₁ _ fun acts => by rw [doInvoke_state]; exact hsteps⟩
theorem vx_callS (X : Stand p l e R s m args below meth c T locs cells slots) (hexec : p.tables.exec = Jvm.exec) {own : String} {index : Nat} {y : MethodName} {bytes : ByteArray} {maxL : Nat} {ret : Option FieldType}
    (hown : s.vm.findClass own = some m.cls) (hlink : (Cond.methodLink own index y).before args s = true) (hstat : (Cond.static y).before args s = true) (hinit : (Cond.initialized y.cls).before args s = true)
    (hcode : (Cond.code y bytes maxL ret).before args s = true) (hy : y.cls ≠ "java/lang/invoke/MethodHandle" ∧ y.cls ≠ "java/lang/invoke/VarHandle")
    {W9 : Nat} {Pre : Pt → Array Value → Prop} {Post : Pt → Array Value → Option Value → Pt → Prop} {PostX : Pt → Array Value → Addr → Pt → Prop} (hK : vx_Back l R p e below s args y 3 W9 Pre Post PostX)
    {g : JFrame} (hg : g.method = m) (hsize : g.locals.size = c.maxLocals) {argsL rest : List Value} (hlen : ∀ sig, parseMethodDescriptor y.desc = some sig → argsL.length = sig.parameters.length)
    (hstack : g.stack = argsL.reverse ++ rest) (hW : 2 * g.monitorRoom + (rest.map fun v => v.category).sum ≤ W9) (hdg : decode c.code g.pc = .ok (.invokestatic index, 3))
    (hpre : ∀ vm₁, s.WarmedH vm₁ → Pre ⟨T.setVm vm₁, locs, cells, slots⟩ argsL.toArray) :
    (∃ (v : Option Value) (vm₁ : Vm) (B : Pt), s.WarmedH vm₁ ∧ Stand p l e R s m args below meth c B.U B.locs B.cells B.slots ∧ Post ⟨T.setVm vm₁, locs, cells, slots⟩ argsL.toArray v B ∧
      ∀ target, Steps p.tables e below (B.U.setTop { g with pc := g.pc + 3, stack := v.toList ++ rest }) target → Steps p.tables e below (T.setTop g) target) ∨
    (∃ (q : Addr) (vm₁ : Vm) (B : Pt), s.WarmedH vm₁ ∧ Stand p l e R s m args below meth c B.U B.locs B.cells B.slots ∧ PostX ⟨T.setVm vm₁, locs, cells, slots⟩ argsL.toArray q B ∧
      Steps p.tables e below (T.setTop g) ((B.U.setTop { g with stack := rest }).pushFrame (.throwing q))) := by
  obtain ⟨mk, hnamed⟩ := Cond.code_named hcode
  obtain ⟨methM, cM, hmethM, -, -, -, -, -, -, hsigM⟩ := Cond.code_spec hnamed hcode
  have hstatic : methM.isStatic = true := Cond.static_spec hnamed hmethM hstat
  obtain ⟨kP, hkP, -⟩ := className_of_methodNamed hnamed
  have hinitP : kP.init = .initialized := Cond.initialized_spec (findClass_of_methodNamed hnamed) hkP hinit
  obtain ⟨vm₁, X₁, hstep₁⟩ := X.invokestatic hexec hown hlink hnamed hmethM hstatic hkP hinitP hy (g := g) hg (argsL := argsL) (rest := rest) (hlen _ hsigM) hstack hdg
  rcases hK m meth c ⟨T.setVm vm₁, locs, cells, slots⟩ { g with stack := rest } (.invokestatic index) mk argsL.toArray X₁ hg hsize hdg hW (X₁.named hnamed) (hpre vm₁ X₁.warmed) with ⟨v, B, X', hpost, hsteps⟩ | ⟨q, B, X', hpost, hsteps⟩
  · exact Or.inl ⟨v, vm₁, B, X₁.warmed, X', hpost, fun target h => hstep₁ _ fun acts => by rw [doInvoke_state]; exact hsteps.trans h⟩
  · exact Or.inr ⟨q, vm₁, B, X₁.warmed, X', hpost, hstep₁ _ fun acts => by rw [doInvoke_state]; exact hsteps⟩
end Calls
theorem vx_cls {s : State} {T : State} {vm₁ : Vm} {E : String} {k : ClassId} (hW : s.WarmedH vm₁) (h : (T.setVm vm₁).vm.findClass E = some k) : s.vm.findClass E = some k := by
  have h1 : vm₁.findClass E = some k := h
  rw [hW.alike.findClass] at h1
  exact h1
/-- the method's frame g, with q thrown over it -/
def vx_W (p : Program) (l : Launch) (e : Env) (R : Room) (s : State) (m : MethodId) (args : Array Value) (below : List Frame) (meth : Method) (c : Code) (H : Heap) (locs : List Loc) (cells slots : Nat) (Q : State → Prop) (g : JFrame) (q : Addr) : Prop :=
  ∀ T : State, T.heap = H → Stand p l e R s m args below meth c T locs cells slots → ∃ t, Steps p.tables e below ((T.setTop g).pushFrame (.throwing q)) t ∧ Q t
def vx_Run (p : Program) (l : Launch) (e : Env) (R : Room) (s : State) (m : MethodId) (args : Array Value) (below : List Frame) (meth : Method) (c : Code) (H : Heap) (locs : List Loc) (cells slots mc ms : Nat) (g : JFrame) (rest : List Value) (Qa : State → Outcome → State → Prop) (XC : String → State → State → Prop) (free : Addr → Prop) : Prop :=
  ∀ T : State, T.heap = H → Stand p l e R s m args below meth c T locs cells slots →
    (∃ (v : Option Value) (st₀ t T' : State) (L : List Loc), st₀.heap = H ∧ Stand p l e R s m args below meth c T' (locs ++ L) (cells + mc) (slots + ms) ∧ (∀ q ∈ L, free q.base) ∧ T'.heap = t.heap ∧ T'.vm = t.vm ∧ Qa st₀ (.returned v) t ∧
      Goes p e below T g T' { g with pc := g.pc + 3, stack := v.toList ++ rest }) ∨
    (∃ (q : Addr) (st₀ t T' : State) (L : List Loc) (E : String) (ce : Cell), st₀.heap = H ∧ Stand p l e R s m args below meth c T' (locs ++ L) (cells + mc) (slots + ms) ∧ (∀ z ∈ L, free z.base) ∧ T'.heap = t.heap ∧ T'.vm = t.vm ∧ XC E st₀ t ∧ t.heap[q]? = some ce ∧ ce.vm = .none ∧ s.vm.findClass E = some ce.cls ∧
      Steps p.tables e below (T.setTop g) ((T'.setTop { g with stack := rest }).pushFrame (.throwing q)))
def vx_X {S : Type} (px : S → Prop) (B : String → S → State → Prop) (A : Nat → Prop) : String → State → State → Prop := fun E st t => ∃ u : S, px u ∧ B E u t ∧ va_F A st t
section Runs
variable {p : Program} {l : Launch} {e : Env} {R : Room} {s : State} {m : MethodId} {args : Array Value} {below : List Frame} {meth : Method} {c : Code} {H : Heap} {locs : List Loc} {cells slots : Nat}
variable {y : MethodName} {bytes cc : ByteArray} {maxL nL mc ms n index : Nat} {ret : Option FieldType} {ws : List Cond} {rm : Room} {Pc : Array Value → State → Prop} {Qc : Array Value → State → Outcome → State → Prop} {XC : String → State → State → Prop} {free : Addr → Prop} {Ts : List Cond} {own C : String} {b : Addr} {As rest : List Value} {g : JFrame}
theorem vx_callBack (cb : CallB R s args own index y bytes maxL ret ws rm mc ms n) (hM : vx_Met l y ws rm Pc Qc XC mc ms free) (hbl : FrameBlind Pc) : vx_Back l R p e below s args y 3 8 (PreOf R mc ms Pc) (PostOf Qc mc ms free) (vx_Post XC mc ms free) := by
  obtain ⟨hrc, hrs, hfr, hlo, hws, hcw, -, hini, -⟩ := cb
  exact vx_back (bytes := bytes) (maxL := maxL) (ret := ret) hM hbl hrc hrs hfr hlo hws hcw (fun a' U hW => word_at hW (Or.inl (by first | rfl | simp [Cond.onTables, Cond.keeps, Cond.steady])) hini)
theorem vx_runV (S : CallFix p m c cc nL s args Ts own) (hM : vx_Met l y ws rm Pc Qc XC mc ms free) (cw : CallW R s args own C index y bytes maxL ret ws rm mc ms n) (hp : PreV s H C b Pc As)
    (hg : g.method = m) (hn : As.length = n) (hsize : g.locals.size = nL) (hstack : g.stack = As.reverse ++ .ref b :: rest) (hW : 2 * g.monitorRoom + (rest.map fun v => v.category).sum ≤ 8) (hdg : decode cc g.pc = .ok (.invokevirtual index, 3)) (hf : cells + mc ≤ R.cells ∧ slots + ms ≤ R.slots) :
    vx_Run p l e R s m args below meth c H locs cells slots mc ms g rest (Qc (Value.ref b :: As).toArray) XC free := by
  have hK : vx_Back l R p e below s args y 3 8 (PreOf R mc ms Pc) (PostOf Qc mc ms free) (vx_Post XC mc ms free) := vx_callBack cw.1 hM hp.1
  obtain ⟨⟨-, -, -, -, -, -, hcode, -, hy, hlen, hl⟩, hin, hse⟩ := cw
  obtain ⟨hx, hb, hml, ho, -⟩ := S
  obtain ⟨-, ⟨cellB, hcB, hoB, hclB⟩, hPc⟩ := hp
  intro T hT X
  rcases vx_callV X hx (C := C) (bytes := bytes) (maxL := maxL) (ret := ret) ho hl hin hse hcode hy hK (by rw [hT]; exact hcB) hoB hclB hg (hsize.trans hml.symm) (argsL := As) (rest := rest) (fun sig h => hn.trans (hlen sig h)) hstack hW (by rw [hb]; exact hdg)
    (fun vm₁ hW₁ => ⟨hf.1, hf.2, hPc (T.setVm vm₁) hT hW₁⟩) with ⟨v, vm₁, ⟨U', l2, c2, s2⟩, hW₁, X', ⟨g', mk, t, L, e1, e2, hq, h1, hL, h2, h3⟩, st⟩ | ⟨q, vm₁, ⟨U', l2, c2, s2⟩, hW₁, X', ⟨g', mk, t, L, E, ce, e1, e2, hq, hce, hcv, hcl, h1, hL, h2, h3⟩, st⟩
  · dsimp only [Pt.U, Pt.locs, Pt.cells, Pt.slots] at X' e1 e2 h1 h2 h3 st
    subst h1; subst h2; subst h3
    exact Or.inl ⟨v, (T.setVm vm₁).calling g' mk (Value.ref b :: As).toArray, t, U', L, hT, X', hL, e1, e2, hq, st⟩
  · dsimp only [Pt.U, Pt.locs, Pt.cells, Pt.slots] at X' e1 e2 h1 h2 h3 st hcl
    subst h1; subst h2; subst h3
    exact Or.inr ⟨q, (T.setVm vm₁).calling g' mk (Value.ref b :: As).toArray, t, U', L, E, ce, hT, X', hL, e1, e2, hq, hce, hcv, vx_cls hW₁ hcl, st⟩
theorem vx_runS (S : CallFix p m c cc nL s args Ts own) (hM : vx_Met l y ws rm Pc Qc XC mc ms free) (cw : CallB R s args own index y bytes maxL ret ws rm mc ms n ∧ (Cond.static y).before args s = true) (hp : PreS s H Pc As)
    (hg : g.method = m) (hn : As.length = n) (hsize : g.locals.size = nL) (hstack : g.stack = As.reverse ++ rest) (hW : 2 * g.monitorRoom + (rest.map fun v => v.category).sum ≤ 8) (hdg : decode cc g.pc = .ok (.invokestatic index, 3)) (hf : cells + mc ≤ R.cells ∧ slots + ms ≤ R.slots) :
    vx_Run p l e R s m args below meth c H locs cells slots mc ms g rest (Qc As.toArray) XC free := by
  have hK : vx_Back l R p e below s args y 3 8 (PreOf R mc ms Pc) (PostOf Qc mc ms free) (vx_Post XC mc ms free) := vx_callBack cw.1 hM hp.1
  obtain ⟨⟨-, -, -, -, -, -, hcode, hini, hy, hlen, hl⟩, hstt⟩ := cw
  obtain ⟨hx, hb, hml, ho, -⟩ := S
  intro T hT X
  rcases vx_callS X hx (bytes := bytes) (maxL := maxL) (ret := ret) ho hl hstt hini hcode hy hK hg (hsize.trans hml.symm) (argsL := As) (rest := rest) (fun sig h => hn.trans (hlen sig h)) hstack hW (by rw [hb]; exact hdg)
    (fun vm₁ hW₁ => ⟨hf.1, hf.2, hp.2 (T.setVm vm₁) hT hW₁⟩) with ⟨v, vm₁, ⟨U', l2, c2, s2⟩, hW₁, X', ⟨g', mk, t, L, e1, e2, hq, h1, hL, h2, h3⟩, st⟩ | ⟨q, vm₁, ⟨U', l2, c2, s2⟩, hW₁, X', ⟨g', mk, t, L, E, ce, e1, e2, hq, hce, hcv, hcl, h1, hL, h2, h3⟩, st⟩
  · dsimp only [Pt.U, Pt.locs, Pt.cells, Pt.slots] at X' e1 e2 h1 h2 h3 st
    subst h1; subst h2; subst h3
    exact Or.inl ⟨v, (T.setVm vm₁).calling g' mk As.toArray, t, U', L, hT, X', hL, e1, e2, hq, st⟩
  · dsimp only [Pt.U, Pt.locs, Pt.cells, Pt.slots] at X' e1 e2 h1 h2 h3 st hcl
    subst h1; subst h2; subst h3
    exact Or.inr ⟨q, (T.setVm vm₁).calling g' mk As.toArray, t, U', L, E, ce, hT, X', hL, e1, e2, hq, hce, hcv, vx_cls hW₁ hcl, st⟩
end Runs
section Rows
variable {p : Program} {l : Launch} {e : Env} {R : Room} {s : State} {m : MethodId} {args : Array Value} {below : List Frame} {meth : Method} {c : Code} {H : Heap} {locs : List Loc} {cells slots : Nat} {Q : State → Prop}
variable {mc ms : Nat} {free : Addr → Prop} {A0 A1 : Nat → Prop} {H0 : Heap} {a : Array Value} {pc : Nat} {ls : Array Slot} {st0 rest : List Value}
theorem vx_keep {st₀ t T' : State} {L : List Loc} (h0 : st₀.heap = H) (e1 : T'.heap = t.heap) (hS : va_S A0 H0 H locs) (hA : ∀ q, q < H.size → A1 q → A0 q) (hf : ∀ q, free q → A0 q) (hL : ∀ q ∈ L, free q.base) (hF : va_F A1 st₀ t) :
    H.size ≤ T'.heap.size ∧ (∀ q : Nat, q < H.size → ¬ A1 q → T'.heap[q]? = H[q]?) ∧ va_S A0 H0 T'.heap (locs ++ L) := by
  obtain ⟨hz, hk⟩ := hF
  rw [h0] at hz hk
  exact ⟨by rw [e1]; exact hz, fun q h1 h2 => by rw [e1]; exact hk q h1 h2,
    ⟨Nat.le_trans hS.1 (by rw [e1]; exact hz), fun q h1 h2 => by rw [e1, hk q (Nat.lt_of_lt_of_le h1 hS.1) (fun z => h2 (hA q (Nat.lt_of_lt_of_le h1 hS.1) z))]; exact hS.2.1 q h1 h2, fun q hq => by
      rcases List.mem_append.mp hq with h | h
      · exact hS.2.2 q h
      · exact hf _ (hL q h)⟩⟩
theorem vx_calli {S SX : Type} {post : Int32 → S → Prop} {px : SX → Prop} {B : S → State → Prop} {BX : String → SX → State → Prop} {AX : Nat → Prop} (hr : vx_Run p l e R s m args below meth c H locs cells slots mc ms (F0 m pc ls st0) rest (va_Qi post B A1 a) (vx_X px BX AX) free) (hS : va_S A0 H0 H locs) (hA : ∀ q, q < H.size → A1 q → A0 q) (hf : ∀ q, free q → A0 q) (hAX : ∀ q, q < H.size → AX q → A0 q)
    (kx : ∀ (E : String) (ce : Cell) (q9 : Addr) (u : SX) (t : State) (H1 : Heap) (locs1 : List Loc), t.heap = H1 → s.vm.Alike t.vm → px u → BX E u t → H.size ≤ H1.size → (∀ q : Nat, q < H.size → ¬ AX q → H1[q]? = H[q]?) → va_S A0 H0 H1 locs1 → H1[q9]? = some ce → ce.vm = .none → s.vm.findClass E = some ce.cls → vx_W p l e R s m args below meth c H1 locs1 (cells + mc) (slots + ms) Q (F0 m pc ls rest) q9)
    (kk : ∀ (r : Int32) (u : S) (t : State) (H1 : Heap) (locs1 : List Loc), t.heap = H1 → s.vm.Alike t.vm → post r u → B u t → H.size ≤ H1.size → (∀ q : Nat, q < H.size → ¬ A1 q → H1[q]? = H[q]?) → va_S A0 H0 H1 locs1 → W p l e R s m args below meth c H1 locs1 (cells + mc) (slots + ms) Q (F0 m (pc + 3) ls (.int r :: rest))) : W p l e R s m args below meth c H locs cells slots Q (F0 m pc ls st0) := by
  intro T hT X
  rcases hr T hT X with ⟨v, st₀, t, T', L, h0, X', hL, e1, e2, ⟨⟨r, u, hv, hp, hb⟩, hF⟩, st⟩ | ⟨q, st₀, t, T', L, E, ce, h0, X', hL, e1, e2, ⟨u, hp, hb, hF⟩, hce, hcv, hcl, st⟩
  · cases hv
    obtain ⟨k1, k2, k3⟩ := vx_keep h0 e1 hS hA hf hL hF
    obtain ⟨t2, a1, b1⟩ := kk r u t T'.heap (locs ++ L) e1.symm (by rw [← e2]; exact X'.warmed.alike) hp hb k1 k2 k3 T' rfl X'
    exact ⟨t2, st t2 a1, b1⟩
  · obtain ⟨k1, k2, k3⟩ := vx_keep h0 e1 hS hAX hf hL hF
    obtain ⟨t2, a1, b1⟩ := kx E ce q u t T'.heap (locs ++ L) e1.symm (by rw [← e2]; exact X'.warmed.alike) hp hb k1 k2 k3 (by rw [e1]; exact hce) hcv hcl T' rfl X'
    exact ⟨t2, st.trans a1, b1⟩
theorem vx_calll {S SX : Type} {post : Int64 → S → Prop} {px : SX → Prop} {B : S → State → Prop} {BX : String → SX → State → Prop} {AX : Nat → Prop} (hr : vx_Run p l e R s m args below meth c H locs cells slots mc ms (F0 m pc ls st0) rest (va_Ql post B A1 a) (vx_X px BX AX) free) (hS : va_S A0 H0 H locs) (hA : ∀ q, q < H.size → A1 q → A0 q) (hf : ∀ q, free q → A0 q) (hAX : ∀ q, q < H.size → AX q → A0 q)
    (kx : ∀ (E : String) (ce : Cell) (q9 : Addr) (u : SX) (t : State) (H1 : Heap) (locs1 : List Loc), t.heap = H1 → s.vm.Alike t.vm → px u → BX E u t → H.size ≤ H1.size → (∀ q : Nat, q < H.size → ¬ AX q → H1[q]? = H[q]?) → va_S A0 H0 H1 locs1 → H1[q9]? = some ce → ce.vm = .none → s.vm.findClass E = some ce.cls → vx_W p l e R s m args below meth c H1 locs1 (cells + mc) (slots + ms) Q (F0 m pc ls rest) q9)
    (kk : ∀ (r : Int64) (u : S) (t : State) (H1 : Heap) (locs1 : List Loc), t.heap = H1 → s.vm.Alike t.vm → post r u → B u t → H.size ≤ H1.size → (∀ q : Nat, q < H.size → ¬ A1 q → H1[q]? = H[q]?) → va_S A0 H0 H1 locs1 → W p l e R s m args below meth c H1 locs1 (cells + mc) (slots + ms) Q (F0 m (pc + 3) ls (.long r :: rest))) : W p l e R s m args below meth c H locs cells slots Q (F0 m pc ls st0) := by
  intro T hT X
  rcases hr T hT X with ⟨v, st₀, t, T', L, h0, X', hL, e1, e2, ⟨⟨r, u, hv, hp, hb⟩, hF⟩, st⟩ | ⟨q, st₀, t, T', L, E, ce, h0, X', hL, e1, e2, ⟨u, hp, hb, hF⟩, hce, hcv, hcl, st⟩
  · cases hv
    obtain ⟨k1, k2, k3⟩ := vx_keep h0 e1 hS hA hf hL hF
    obtain ⟨t2, a1, b1⟩ := kk r u t T'.heap (locs ++ L) e1.symm (by rw [← e2]; exact X'.warmed.alike) hp hb k1 k2 k3 T' rfl X'
    exact ⟨t2, st t2 a1, b1⟩
  · obtain ⟨k1, k2, k3⟩ := vx_keep h0 e1 hS hAX hf hL hF
    obtain ⟨t2, a1, b1⟩ := kx E ce q u t T'.heap (locs ++ L) e1.symm (by rw [← e2]; exact X'.warmed.alike) hp hb k1 k2 k3 (by rw [e1]; exact hce) hcv hcl T' rfl X'
    exact ⟨t2, st.trans a1, b1⟩
theorem vx_callf {S SX : Type} {post : UInt32 → S → Prop} {px : SX → Prop} {B : S → State → Prop} {BX : String → SX → State → Prop} {AX : Nat → Prop} (hr : vx_Run p l e R s m args below meth c H locs cells slots mc ms (F0 m pc ls st0) rest (va_Qf post B A1 a) (vx_X px BX AX) free) (hS : va_S A0 H0 H locs) (hA : ∀ q, q < H.size → A1 q → A0 q) (hf : ∀ q, free q → A0 q) (hAX : ∀ q, q < H.size → AX q → A0 q)
    (kx : ∀ (E : String) (ce : Cell) (q9 : Addr) (u : SX) (t : State) (H1 : Heap) (locs1 : List Loc), t.heap = H1 → s.vm.Alike t.vm → px u → BX E u t → H.size ≤ H1.size → (∀ q : Nat, q < H.size → ¬ AX q → H1[q]? = H[q]?) → va_S A0 H0 H1 locs1 → H1[q9]? = some ce → ce.vm = .none → s.vm.findClass E = some ce.cls → vx_W p l e R s m args below meth c H1 locs1 (cells + mc) (slots + ms) Q (F0 m pc ls rest) q9)
    (kk : ∀ (r : UInt32) (u : S) (t : State) (H1 : Heap) (locs1 : List Loc), t.heap = H1 → s.vm.Alike t.vm → post r u → B u t → H.size ≤ H1.size → (∀ q : Nat, q < H.size → ¬ A1 q → H1[q]? = H[q]?) → va_S A0 H0 H1 locs1 → W p l e R s m args below meth c H1 locs1 (cells + mc) (slots + ms) Q (F0 m (pc + 3) ls (.float r :: rest))) : W p l e R s m args below meth c H locs cells slots Q (F0 m pc ls st0) := by
  intro T hT X
  rcases hr T hT X with ⟨v, st₀, t, T', L, h0, X', hL, e1, e2, ⟨⟨r, u, hv, hp, hb⟩, hF⟩, st⟩ | ⟨q, st₀, t, T', L, E, ce, h0, X', hL, e1, e2, ⟨u, hp, hb, hF⟩, hce, hcv, hcl, st⟩
  · cases hv
    obtain ⟨k1, k2, k3⟩ := vx_keep h0 e1 hS hA hf hL hF
    obtain ⟨t2, a1, b1⟩ := kk r u t T'.heap (locs ++ L) e1.symm (by rw [← e2]; exact X'.warmed.alike) hp hb k1 k2 k3 T' rfl X'
    exact ⟨t2, st t2 a1, b1⟩
  · obtain ⟨k1, k2, k3⟩ := vx_keep h0 e1 hS hAX hf hL hF
    obtain ⟨t2, a1, b1⟩ := kx E ce q u t T'.heap (locs ++ L) e1.symm (by rw [← e2]; exact X'.warmed.alike) hp hb k1 k2 k3 (by rw [e1]; exact hce) hcv hcl T' rfl X'
    exact ⟨t2, st.trans a1, b1⟩
theorem vx_calld {S SX : Type} {post : UInt64 → S → Prop} {px : SX → Prop} {B : S → State → Prop} {BX : String → SX → State → Prop} {AX : Nat → Prop} (hr : vx_Run p l e R s m args below meth c H locs cells slots mc ms (F0 m pc ls st0) rest (va_Qd post B A1 a) (vx_X px BX AX) free) (hS : va_S A0 H0 H locs) (hA : ∀ q, q < H.size → A1 q → A0 q) (hf : ∀ q, free q → A0 q) (hAX : ∀ q, q < H.size → AX q → A0 q)
    (kx : ∀ (E : String) (ce : Cell) (q9 : Addr) (u : SX) (t : State) (H1 : Heap) (locs1 : List Loc), t.heap = H1 → s.vm.Alike t.vm → px u → BX E u t → H.size ≤ H1.size → (∀ q : Nat, q < H.size → ¬ AX q → H1[q]? = H[q]?) → va_S A0 H0 H1 locs1 → H1[q9]? = some ce → ce.vm = .none → s.vm.findClass E = some ce.cls → vx_W p l e R s m args below meth c H1 locs1 (cells + mc) (slots + ms) Q (F0 m pc ls rest) q9)
    (kk : ∀ (r : UInt64) (u : S) (t : State) (H1 : Heap) (locs1 : List Loc), t.heap = H1 → s.vm.Alike t.vm → post r u → B u t → H.size ≤ H1.size → (∀ q : Nat, q < H.size → ¬ A1 q → H1[q]? = H[q]?) → va_S A0 H0 H1 locs1 → W p l e R s m args below meth c H1 locs1 (cells + mc) (slots + ms) Q (F0 m (pc + 3) ls (.double r :: rest))) : W p l e R s m args below meth c H locs cells slots Q (F0 m pc ls st0) := by
  intro T hT X
  rcases hr T hT X with ⟨v, st₀, t, T', L, h0, X', hL, e1, e2, ⟨⟨r, u, hv, hp, hb⟩, hF⟩, st⟩ | ⟨q, st₀, t, T', L, E, ce, h0, X', hL, e1, e2, ⟨u, hp, hb, hF⟩, hce, hcv, hcl, st⟩
  · cases hv
    obtain ⟨k1, k2, k3⟩ := vx_keep h0 e1 hS hA hf hL hF
    obtain ⟨t2, a1, b1⟩ := kk r u t T'.heap (locs ++ L) e1.symm (by rw [← e2]; exact X'.warmed.alike) hp hb k1 k2 k3 T' rfl X'
    exact ⟨t2, st t2 a1, b1⟩
  · obtain ⟨k1, k2, k3⟩ := vx_keep h0 e1 hS hAX hf hL hF
    obtain ⟨t2, a1, b1⟩ := kx E ce q u t T'.heap (locs ++ L) e1.symm (by rw [← e2]; exact X'.warmed.alike) hp hb k1 k2 k3 (by rw [e1]; exact hce) hcv hcl T' rfl X'
    exact ⟨t2, st.trans a1, b1⟩
theorem vx_callv {S SX : Type} {post : S → Prop} {px : SX → Prop} {B : S → State → Prop} {BX : String → SX → State → Prop} {AX : Nat → Prop} (hr : vx_Run p l e R s m args below meth c H locs cells slots mc ms (F0 m pc ls st0) rest (va_Qv post B A1 a) (vx_X px BX AX) free) (hS : va_S A0 H0 H locs) (hA : ∀ q, q < H.size → A1 q → A0 q) (hf : ∀ q, free q → A0 q) (hAX : ∀ q, q < H.size → AX q → A0 q)
    (kx : ∀ (E : String) (ce : Cell) (q9 : Addr) (u : SX) (t : State) (H1 : Heap) (locs1 : List Loc), t.heap = H1 → s.vm.Alike t.vm → px u → BX E u t → H.size ≤ H1.size → (∀ q : Nat, q < H.size → ¬ AX q → H1[q]? = H[q]?) → va_S A0 H0 H1 locs1 → H1[q9]? = some ce → ce.vm = .none → s.vm.findClass E = some ce.cls → vx_W p l e R s m args below meth c H1 locs1 (cells + mc) (slots + ms) Q (F0 m pc ls rest) q9)
    (kk : ∀ (u : S) (t : State) (H1 : Heap) (locs1 : List Loc), t.heap = H1 → s.vm.Alike t.vm → post u → B u t → H.size ≤ H1.size → (∀ q : Nat, q < H.size → ¬ A1 q → H1[q]? = H[q]?) → va_S A0 H0 H1 locs1 → W p l e R s m args below meth c H1 locs1 (cells + mc) (slots + ms) Q (F0 m (pc + 3) ls (rest))) : W p l e R s m args below meth c H locs cells slots Q (F0 m pc ls st0) := by
  intro T hT X
  rcases hr T hT X with ⟨v, st₀, t, T', L, h0, X', hL, e1, e2, ⟨⟨u, hv, hp, hb⟩, hF⟩, st⟩ | ⟨q, st₀, t, T', L, E, ce, h0, X', hL, e1, e2, ⟨u, hp, hb, hF⟩, hce, hcv, hcl, st⟩
  · cases hv
    obtain ⟨k1, k2, k3⟩ := vx_keep h0 e1 hS hA hf hL hF
    obtain ⟨t2, a1, b1⟩ := kk u t T'.heap (locs ++ L) e1.symm (by rw [← e2]; exact X'.warmed.alike) hp hb k1 k2 k3 T' rfl X'
    exact ⟨t2, st t2 a1, b1⟩
  · obtain ⟨k1, k2, k3⟩ := vx_keep h0 e1 hS hAX hf hL hF
    obtain ⟨t2, a1, b1⟩ := kx E ce q u t T'.heap (locs ++ L) e1.symm (by rw [← e2]; exact X'.warmed.alike) hp hb k1 k2 k3 (by rw [e1]; exact hce) hcv hcl T' rfl X'
    exact ⟨t2, st.trans a1, b1⟩
/-- caught by the row x of this method's table; the rows ahead don't take it -/
theorem vx_catch {own name : String} {E : String} {ce : Cell} {q : Addr} (hown : s.vm.findClass own = some m.cls) (pre : List ExceptionTableEntry) (x : ExceptionTableEntry) (suf : List ExceptionTableEntry) (hsplit : c.exceptionTable.toList = pre ++ x :: suf)
    (hpass : ∀ z ∈ pre, covers z pc = false ∨ (z.catchType ≠ 0 ∧ ∃ nm : String, (Cond.classLink own z.catchType nm).before args s = true ∧ va_Nc E nm s)) (hx : covers x pc = true) (h0 : x.catchType ≠ 0)
    (hlink : (Cond.classLink own x.catchType name).before args s = true) (hcast : (Cond.castable E name).before args s = true) (hcell : H[q]? = some ce) (hv : ce.vm = .none) (hcl : s.vm.findClass E = some ce.cls)
    (kk : W p l e R s m args below meth c H locs cells slots Q (F0 m x.handlerPc ls [.ref q])) : vx_W p l e R s m args below meth c H locs cells slots Q (F0 m pc ls rest) q := by
  intro T hT X
  have hpl : e.platform.magicAccessors = ({} : Platform).magicAccessors := by rw [X.admits.platform]
  obtain ⟨c3, c4, hc3, hc4, hasg⟩ := Cond.castable_spec hcast
  cases Option.some.inj (hc3.symm.trans hcl)
  obtain ⟨c5, hc5, hcl5⟩ := Cond.classLink_spec hown hlink e.platform hpl
  cases Option.some.inj (hc4.symm.trans hc5)
  obtain ⟨vm', X', st⟩ := X.thenCaughtThrough q (g := F0 m pc ls rest) rfl (Steps.refl _) (by rw [hT]; exact hcell) (by rw [hv]; rfl) (by obtain ⟨k9, h9, -⟩ := Vm.findClass_spec hcl; exact ⟨k9, h9⟩) pre x suf hsplit
    (fun z hz => by
      rcases hpass z hz with h | ⟨hz0, nm, hl1, hn1⟩
      · exact Or.inl h
      · obtain ⟨c6, hc6, hcl6⟩ := Cond.classLink_spec hown hl1 e.platform hpl
        obtain ⟨a8, b8, h1, h2, h3⟩ := hn1
        cases Option.some.inj (h1.symm.trans hcl)
        cases Option.some.inj (h2.symm.trans hc6)
        exact Or.inr ⟨hz0, _, hcl6, h3⟩) hx (Or.inr ⟨h0, c4, hcl5, hasg⟩)
  obtain ⟨t, a1, b1⟩ := kk (T.setVm vm') hT X'
  exact ⟨t, st.trans a1, b1⟩
end Rows
section Ends
variable {p : Program} {l : Launch} {e : Env} {R : Room} {s : State} {m : MethodId} {args : Array Value} {below : List Frame} {meth : Method} {c : Code} {H : Heap} {locs : List Loc} {cells slots : Nat} {Q : State → Prop}
variable {mc ms : Nat} {free : Addr → Prop} {A0 A1 : Nat → Prop} {H0 : Heap} {a : Array Value} {ls : Array Slot} {st0 rest : List Value}
variable {Qc : Array Value → State → Outcome → State → Prop} {XC : String → State → State → Prop}
/-- what a body that may throw owes at its end -/
def vx_MQ (below : List Frame) (Qc : Array Value → State → Outcome → State → Prop) (XC : String → State → State → Prop) (a : Array Value) (s : State) (mc ms : Nat) (free : Addr → Prop) : State → Prop := fun t =>
  ∃ o, t.status = .running ∧ Ended t below o ∧ vx_Q Qc XC mc ms free a s o t
theorem vx_ret {g : JFrame} {mc ms : Nat} (k : W p l e R s m args below meth c H locs cells slots (MQ below Qc args s mc ms free) g) : W p l e R s m args below meth c H locs cells slots (vx_MQ below Qc XC args s mc ms free) g := by
  intro T hT X
  obtain ⟨t, a1, o, b1, b2, b3, b4⟩ := k T hT X
  exact ⟨t, a1, o, b1, b2, Or.inl ⟨b3, b4⟩⟩
/-- not caught here: it goes on to the caller -/
theorem vx_widen {g : JFrame} {q : Addr} {k n : Nat} (h1 : cells ≤ k) (h2 : slots ≤ n) (kk : vx_W p l e R s m args below meth c H locs k n Q g q) : vx_W p l e R s m args below meth c H locs cells slots Q g q := fun T hT X => kk T hT (stand_widen X h1 h2)
theorem vx_out {pc : Nat} {E : String} {ce : Cell} {q : Addr} {mc ms : Nat} (hout : ∀ x ∈ c.exceptionTable.toList, covers x pc = false) (hlocks : meth.locks = false) (hcell : H[q]? = some ce) (hv : ce.vm = .none) (hcl : s.vm.findClass E = some ce.cls)
    (hx : ∀ t : State, t.heap = H → s.vm.Alike t.vm → XC E s t) (hf : ∀ z ∈ locs, free z.base) (hc : cells ≤ mc) (hs : slots ≤ ms) :
    vx_W p l e R s m args below meth c H locs cells slots (vx_MQ below Qc XC args s mc ms free) (F0 m pc ls rest) q := by
  intro T hT X
  obtain ⟨st1, hrun, hend, hW, hsm⟩ := X.leaveThrown q (g := F0 m pc ls rest) rfl rfl rfl hout hlocks
  have hcell9 : (T.setFrames (.throwing q :: below)).heap[q]? = some ce := by
    show T.heap[q]? = some ce
    rw [hT]; exact hcell
  exact ⟨_, st1, .threw q, hrun, hend, Or.inr ⟨q, rfl, E, ce, locs, hx _ hT hW.alike, hcell9, hv, hcl, hW, hsm.mono hc hs, hf⟩⟩
theorem vx_frame {U : State} {k n : Nat} (h : s.sameButNew ({ U with vm := s.vm } : State) locs k n) : s.heap.size ≤ U.heap.size ∧ ∀ q : Nat, q < s.heap.size → (∀ z ∈ locs, z.base ≠ q) → U.heap[q]? = s.heap[q]? := by
  obtain ⟨-, h2, -, -, -, h6⟩ := h
  refine ⟨h2, fun q hq hz => ?_⟩
  obtain ⟨c9, e1, e2, e3, e4⟩ := h6 q _ (Array.getElem?_eq_getElem hq)
  have hs : c9.slots = (s.heap[q]).slots := Array.ext_getElem? fun i => e4 i fun hm => hz _ hm rfl
  have h9 : c9 = s.heap[q] := by
    rw [hs] at e2
    exact e2
  have e5 : U.heap[q]? = some c9 := e1
  rw [e5, h9, Array.getElem?_eq_getElem hq]
/-- the words of a throw but the four that speak of the heap -/
def vx_no (w : Cond) : Bool := decide (w ≠ .isRef (.static Bundle.tN "UNASSIGNED_STACK" Bundle.steD)) && decide (w ≠ .isRef (.static Bundle.tN "SUPPRESSED_SENTINEL" Bundle.listD)) && decide (w ≠ .laysStatic Bundle.tN "UNASSIGNED_STACK" Bundle.steD) && decide (w ≠ .laysStatic Bundle.tN "SUPPRESSED_SENTINEL" Bundle.listD)
def vx_at0 (own : String) (ic : Nat) (X : String) (names : List String) : List Cond := (Bundle.ownAtoms0 own ic X names).filter vx_no
def vx_atS (own : String) (ic : Nat) (X : String) (names : List String) : List Cond := (Bundle.ownAtoms own ic X names).filter vx_no
/-- a word that the tables alone decide, or a good one -/
def vx_ot (w : Cond) : Bool := w.onTables || goodWord w
theorem vx_ot_at {args a' : Array Value} {s U : State} {w : Cond} (hW : s.WarmedH U.vm) (hvm : s.vm = U.vm) (hg : vx_ot w = true) (h : w.before args s = true) : w.before a' U = true := by
  simp only [vx_ot, Bool.or_eq_true] at hg
  rcases hg with hg | hg
  · exact va_tabs hg hvm h
  · exact word_at hW (good_of_word hg) h
/-- a list's words: the good ones out of the method's own list, the others by premises of their own -/
theorem vx_hat {args : Array Value} {s : State} {L B : List Cond} (h1 : ∀ w ∈ L.filter goodWord, w.before args s = true) (h2 : ∀ w ∈ L.filter (fun w => !goodWord w), w ∈ B) (h3 : ∀ w ∈ B, w.before args s = true) : ∀ w ∈ L, w.before args s = true := by
  intro w hw
  by_cases g : goodWord w = true
  · exact h1 w (List.mem_filter.mpr ⟨hw, g⟩)
  · refine h3 w (h2 w (List.mem_filter.mpr ⟨hw, ?_⟩))
    show (!goodWord w) = true
    cases hgw : goodWord w
    · rfl
    · exact absurd hgw g
theorem vx_c {args : Array Value} {s : State} {w : Cond} {B : List Cond} (h : w.before args s = true) (t : ∀ w ∈ B, w.before args s = true) : ∀ w' ∈ w :: B, w'.before args s = true := fun w' h' => (List.mem_cons.mp h').elim (fun e => by rw [e]; exact h) (t w')
theorem vx_n {args : Array Value} {s : State} : ∀ w ∈ ([] : List Cond), w.before args s = true := fun _ h => nomatch h
theorem vx_own {args : Array Value} {s : State} {L : List Cond} (h1 : ∀ w ∈ L.filter vx_no, w.before args s = true)
    (hU : (Cond.isRef (.static Bundle.tN "UNASSIGNED_STACK" Bundle.steD)).before args s = true) (hN : (Cond.isRef (.static Bundle.tN "SUPPRESSED_SENTINEL" Bundle.listD)).before args s = true)
    (lU : (Cond.laysStatic Bundle.tN "UNASSIGNED_STACK" Bundle.steD).before args s = true) (lN : (Cond.laysStatic Bundle.tN "SUPPRESSED_SENTINEL" Bundle.listD).before args s = true) : ∀ w ∈ L, w.before args s = true := by
  intro w hw
  by_cases e1 : w = .isRef (.static Bundle.tN "UNASSIGNED_STACK" Bundle.steD)
  · rw [e1]; exact hU
  · by_cases e2 : w = .isRef (.static Bundle.tN "SUPPRESSED_SENTINEL" Bundle.listD)
    · rw [e2]; exact hN
    · by_cases e3 : w = .laysStatic Bundle.tN "UNASSIGNED_STACK" Bundle.steD
      · rw [e3]; exact lU
      · by_cases e4 : w = .laysStatic Bundle.tN "SUPPRESSED_SENTINEL" Bundle.listD
        · rw [e4]; exact lN
        · exact h1 w (List.mem_filter.mpr ⟨hw, by unfold vx_no; rw [decide_eq_true e1, decide_eq_true e2, decide_eq_true e3, decide_eq_true e4]; rfl⟩)
/-- where a static field lies, its class's statics cell in H -/
def vx_L (C n d : String) (A : Nat → Prop) (U : State) (H : Heap) : Prop := ∃ (c : ClassId) (k : Class) (i : Nat) (f : Field) (a : Nat) (cell : Cell), U.vm.findClass C = some c ∧ U.fieldFound? C n d = some (c, k, i, f) ∧ f.isStatic = true ∧ k.statics = some a ∧ H[a]? = some cell ∧ cell.vm.isStatics = true ∧ cell.cls = c ∧ f.slot < cell.slots.size ∧ k.staticTypes[f.slot]? = some f.type ∧ ¬ A a
theorem vx_L.moved {C n d : String} {A : Nat → Prop} {u U : State} {H : Heap} (hvm : u.vm.Alike U.vm) (h : vx_L C n d A u H) : vx_L C n d A U H := by
  obtain ⟨c, k, i, f, a, cell, h1, h2, h3, h4, h5, h6, h7, h8, h9, h10⟩ := h
  obtain ⟨k', hi', he⟩ := State.fieldFound?_setVm hvm h2
  exact ⟨c, k', i, f, a, cell, by rw [hvm.findClass]; exact h1, hi', h3, by rw [he]; exact h4, h5, h6, h7, h8, by rw [he]; exact h9, h10⟩
theorem vx_L.kept {C n d : String} {A : Nat → Prop} {U : State} {H H1 : Heap} (h : vx_L C n d A U H) (hq : ∀ a : Nat, a < H.size → ¬ A a → H1[a]? = H[a]?) : vx_L C n d A U H1 := by
  obtain ⟨c, k, i, f, a, cell, h1, h2, h3, h4, h5, h6, h7, h8, h9, h10⟩ := h
  exact ⟨c, k, i, f, a, cell, h1, h2, h3, h4, by rw [hq a (Array.getElem?_eq_some_iff.mp h5).1 h10]; exact h5, h6, h7, h8, h9, h10⟩
theorem vx_L.narrow {C n d : String} {A B : Nat → Prop} {U : State} {H : Heap} (h : vx_L C n d A U H) (hAB : ∀ q, B q → A q) : vx_L C n d B U H := by
  obtain ⟨c, k, i, f, a, cell, h1, h2, h3, h4, h5, h6, h7, h8, h9, h10⟩ := h
  exact ⟨c, k, i, f, a, cell, h1, h2, h3, h4, h5, h6, h7, h8, h9, fun z => h10 (hAB _ z)⟩
theorem vx_L.word {C n d : String} {A : Nat → Prop} {s : State} {args : Array Value} (h : vx_L C n d A s s.heap) : (Cond.laysStatic C n d).before args s = true := by
  obtain ⟨c, k, i, f, a, cell, h1, h2, h3, h4, h5, h6, h7, h8, h9, -⟩ := h
  show (Cond.laysStatic C n d).holds args s none s [] = true
  exact Cond.laysStatic_of h1 h2 h3 h4 h5 h6 h7 h8 h9
/-- .. and what it holds: null or some reference -/
def vx_Zq (C n d : String) (A : Nat → Prop) (U : State) (H : Heap) : Prop := va_Zq C n d A U H ∧ vx_L C n d A U H
theorem vx_Zq.moved {C n d : String} {A : Nat → Prop} {u U : State} {H : Heap} (hvm : u.vm.Alike U.vm) (h : vx_Zq C n d A u H) : vx_Zq C n d A U H := ⟨va_Zq.moved hvm h.1, vx_L.moved hvm h.2⟩
theorem vx_Zq.kept {C n d : String} {A : Nat → Prop} {U : State} {H H1 : Heap} (h : vx_Zq C n d A U H) (hq : ∀ a : Nat, a < H.size → ¬ A a → H1[a]? = H[a]?) : vx_Zq C n d A U H1 := ⟨va_Zq.kept h.1 hq, vx_L.kept h.2 hq⟩
theorem vx_Zq.narrow {C n d : String} {A B : Nat → Prop} {U : State} {H : Heap} (h : vx_Zq C n d A U H) (hAB : ∀ q, B q → A q) : vx_Zq C n d B U H := ⟨va_Zq.narrow h.1 hAB, vx_L.narrow h.2 hAB⟩
theorem vx_Zqof {args : Array Value} {s : State} {C n d : String} {A : Nat → Prop} (hl : (Cond.laysStatic C n d).before args s = true) (hini : (Cond.initialized C).before args s = true) (h : (Cond.isRef (.static C n d)).before args s = true) (hA : ∀ a : Nat, a < s.heap.size → ¬ A a) : vx_Zq C n d A s s.heap := by
  refine ⟨va_Zqof hl hini h hA, ?_⟩
  obtain ⟨c, k, i, f, a, cell, h1, h2, h3, h4, h5, h6, h7, h8, h9⟩ := Cond.laysStatic_spec hl
  exact ⟨c, k, i, f, a, cell, h1, h2, h3, h4, h5, h6, h7, h8, h9, hA a (Array.getElem?_eq_some_iff.mp h5).1⟩
theorem vx_isRef {C n d : String} {v : Value} {A : Nat → Prop} {s : State} {args : Array Value} (h : va_Z C n d v A s s.heap) (hv : v.isRef = true) : (Cond.isRef (.static C n d)).before args s = true := by
  obtain ⟨cf, kf, fi, f, a, cell, h1, h2, h3, h4, h5, h6, h7, -⟩ := h
  have he : (Term.static C n d).eval args s none [] s = some v := by
    simp [Term.eval, State.fieldNamed?, h1, h2, h4, h5, h6, h7]
  simp only [Cond.before, Cond.holds, Cond.value, he]
  cases v <;> simp_all [Value.isRef]
theorem vx_isRefq {C n d : String} {A : Nat → Prop} {s : State} {args : Array Value} (h : va_Zq C n d A s s.heap) : (Cond.isRef (.static C n d)).before args s = true := by
  rcases h with h | ⟨t, h⟩
  · exact vx_isRef h rfl
  · exact vx_isRef h rfl
/-- the same frame, seen from here: as if the method were called anew in this heap -/
theorem vx_rebase {T : State} (X : Stand p l e R s m args below meth c T locs cells slots) {R' : Room} (hf : R'.frames ≤ R.frames) (hl : R'.locals ≤ R.locals) (hc : cells + R'.cells ≤ R.cells) (hs : slots + R'.slots ≤ R.slots) :
    Stand p l e R' ((T.setVm s.vm).setFrames (.invoking m args :: below)) m args below meth c T [] 0 0 := by
  have htop : (T.setVm s.vm).topJava?.isSome := X.here.top
  have hF : ((T.setVm s.vm).setFrames (.invoking m args :: below)).frames = .invoking m args :: below := State.frames_setFrames _ (State.cur_lt_of_top htop)
  obtain ⟨g₀, hg0⟩ := Option.isSome_iff_exists.mp htop
  obtain ⟨r, hr⟩ := State.topJava?_eq_some.mp hg0
  have hl9 : e.platform.stackLimits (T.setVm s.vm).me = e.platform.stackLimits s.me := X.limits
  have hb9 : (T.setVm s.vm).me.stackBytes = s.me.stackBytes := X.bytes
  refine ⟨X.admits, X.cas, X.clock, hF, ?_, X.hears, X.method, X.code, X.here, X.tail, X.warmed, ?_, ?_, ?_⟩
  · have h := X.room
    have hU : ((T.setVm s.vm).setFrames (.invoking m args :: below)).localsInUse = s.localsInUse := by
      rw [State.localsInUse_invoking hF (meth := meth) (c := c) X.method X.code, State.localsInUse_invoking X.frames X.method X.code]
    simp only [State.hasRoom, Bool.and_eq_true, decide_eq_true_eq] at h ⊢
    obtain ⟨⟨⟨⟨h1, h2, h3, h4, h5, h6⟩, h7⟩, h8⟩, h9⟩ := h
    rw [X.frames, List.length_cons] at h2 h3
    have q1 := X.heapSize
    have q2 := X.used
    simp only [hF, hU, List.length_cons, State.stackLimits_setFrames, State.stackBytes_setFrames, hl9, hb9]
    refine ⟨⟨⟨⟨by omega, by omega, by omega, by omega, by omega, h6⟩, ?_⟩, ?_⟩, X.book⟩
    · show T.heap.size + R'.cells ≤ e.platform.maxCells
      omega
    · show T.slotsUsed + R'.slots ≤ e.platform.maxSlots
      omega
  · rw [State.stackLimits_setFrames]; rfl
  · rw [State.stackBytes_setFrames]; rfl
  · refine ⟨?_, Nat.le_refl _, Nat.le_refl _, ?_, ?_, fun a c9 h9 => ⟨c9, h9, rfl, rfl, fun _ _ => rfl⟩⟩
    · obtain ⟨t, ht, -⟩ := State.frames_cons hr
      show T.setVm s.vm = { ((T.setVm s.vm).setFrames (.invoking m args :: below)).setFrames (T.setVm s.vm).frames with heap := T.heap, slotsUsed := T.slotsUsed }
      rw [State.setFrames_setFrames, State.setFrames_self ht]
      rfl
    · show T.slotsUsed = T.slotsUsed + ((T.heap.toList.drop T.heap.size).map (·.slots.size)).sum
      rw [List.drop_eq_nil_of_le (Nat.le_of_eq Array.length_toList)]
      rfl
    · show ((T.heap.toList.drop T.heap.size).map (·.slots.size)).sum ≤ 0
      rw [List.drop_eq_nil_of_le (Nat.le_of_eq Array.length_toList)]
      exact Nat.le_refl _
/-- 'throw new E()': new; dup; invokespecial; athrow -/
theorem vx_throw0 {cc : ByteArray} {pc : Nat} (hexec : p.tables.exec = Jvm.exec) (hb : c.code = cc) (hl : l.stackTraces = false) {own cls : String} {names : List String} {ik ic mc ms : Nat} {A : Nat → Prop}
    (hown : s.vm.findClass own = some m.cls) (hcls : Bundle.fit cls = true) (hnames : ∀ n ∈ names, Bundle.fit n = true)
    (hk : (Cond.classLink own ik cls).before args s = true) (hini : (Cond.initialized cls).before args s = true) (hat : ∀ w ∈ vx_at0 own ic cls names, w.before args s = true)
    (hgood : ∀ w ∈ Cond.classLink own ik cls :: Cond.initialized cls :: vx_at0 own ic cls names, vx_ot w = true)
    (hU : vx_Zq Bundle.tN "UNASSIGNED_STACK" Bundle.steD A s s.heap) (hN : vx_Zq Bundle.tN "SUPPRESSED_SENTINEL" Bundle.listD A s s.heap) (hS : va_S A s.heap H locs) (hsize : ls.size = c.maxLocals)
    (d0 : decode cc pc = .ok (.new ik, 3)) (d3 : decode cc (pc + 3) = .ok (.dup, 1)) (d4 : decode cc (pc + 4) = .ok (.invokespecial ic, 3)) (d7 : decode cc (pc + 7) = .ok (.athrow, 1))
    (hout : ∀ x ∈ c.exceptionTable.toList, covers x (pc + 7) = false)
    (hRframes : names.length + 3 < R.frames) (hRlocals : (rest.map fun v => v.category).sum + (13 * (names.length + 1) + 42) ≤ R.locals) (hRcells : cells + 1 ≤ R.cells) (hRslots : slots + 6 ≤ R.slots) (hlocks : meth.locks = false)
    (hx : ∀ t : State, s.vm.Alike t.vm → H.size ≤ t.heap.size → (∀ q : Nat, q < H.size → t.heap[q]? = H[q]?) → XC cls s t)
    (hf : ∀ z ∈ locs, free z.base) (hc : cells + 1 ≤ mc) (hs : slots + 6 ≤ ms) :
    W p l e R s m args below meth c H locs cells slots (vx_MQ below Qc XC args s mc ms free) (F0 m pc ls rest) := by
  intro T hT X
  have htr : e.platform.stackTraces = false := (show e.platform.stackTraces = l.stackTraces by rw [X.admits.platform]).trans hl
  have Y := vx_rebase X (R' := { frames := R.frames, locals := R.locals, cells := 1, slots := 6 }) (Nat.le_refl _) (Nat.le_refl _) hRcells hRslots
  obtain ⟨s', hA⟩ : ∃ z, z = (T.setVm s.vm).setFrames (.invoking m args :: below) := ⟨_, rfl⟩
  rw [← hA] at Y
  have hvm : s'.vm = s.vm := by rw [hA]; rfl
  have hhp : s'.heap = H := by rw [hA]; exact hT
  have hW0 : s.WarmedH s'.vm := by rw [hvm]; exact State.WarmedH.refl s
  have hat' : ∀ w ∈ vx_at0 own ic cls names, w.before args s' = true := fun w hw => vx_ot_at hW0 hvm.symm (hgood w (List.mem_cons_of_mem _ (List.mem_cons_of_mem _ hw))) (hat w hw)
  have hk' : (Cond.classLink own ik cls).before args s' = true := vx_ot_at hW0 hvm.symm (hgood _ List.mem_cons_self) hk
  have hini' : (Cond.initialized cls).before args s' = true := vx_ot_at hW0 hvm.symm (hgood _ (List.mem_cons_of_mem _ List.mem_cons_self)) hini
  have hU' : vx_Zq Bundle.tN "UNASSIGNED_STACK" Bundle.steD A s' s'.heap := by rw [hhp]; exact vx_Zq.moved hW0.alike (hU.kept hS.2.1)
  have hN' : vx_Zq Bundle.tN "SUPPRESSED_SENTINEL" Bundle.listD A s' s'.heap := by rw [hhp]; exact vx_Zq.moved hW0.alike (hN.kept hS.2.1)
  have h : ∀ w ∈ Bundle.ownAtoms0 own ic cls names, w.before args s' = true := vx_own hat' (vx_isRefq hU'.1) (vx_isRefq hN'.1) hU'.2.word hN'.2.word
  have hown' : s'.vm.findClass own = some m.cls := by rw [hvm]; exact hown
  have hins : (Cond.instantiable cls 6).before args s' = true := h _ (by simp [Bundle.ownAtoms0])
  obtain ⟨vm₁, cX, kX, hfX, hkX, -, -, X₁, st1⟩ := Y.newCold hexec (own := own) (C := cls) (index := ik) (n := 6) hown' hk' hins hini'
    (g := F0 m pc ls rest) rfl (by rw [hb]; exact d0) (Nat.le_refl _) (Nat.le_refl _)
  generalize hT1 : (T.setVm vm₁).pushCell { cls := cX, slots := kX.instanceTypes.map defaultValue, vm := .none } = T1 at X₁ st1
  have hcat : (Value.ref T.heap.size).category = 1 := rfl
  have hcellA : T1.heap[T.heap.size]? = some (freshCell cX kX) := by rw [← hT1]; exact State.heap_pushCell_size _ _
  have d3' : decode c.code (pc + 3) = .ok (.dup, 1) := by rw [hb]; exact d3
  obtain ⟨U, hsteps, hrun, hend, hW, hsame, ce, hce, hO⟩ := X₁.ctorThrow0 hexec htr (own := own) (cls := cls) (names := names) (ic := ic) hown' hcls hnames h (fun x hx => nomatch hx) hfX hkX hcellA (by rw [hhp, hT]; exact Nat.le_refl _)
    (g := { method := m, pc := pc + 4, locals := ls, stack := .ref T.heap.size :: .ref T.heap.size :: rest, locked := none }) rfl hsize rfl rfl (rest := rest) rfl
    (by rw [hb]; exact d4) (by rw [hb]; exact d7) hout hRframes (by simp only [List.map_cons, List.sum_cons, hcat]; omega) hlocks
  obtain ⟨f1, f2⟩ := vx_frame hsame
  rw [hhp] at f1 f2
  have hWs : s.WarmedH U.vm := State.WarmedH.trans hW0 hW
  have hcl : s.vm.findClass cls = some ce.cls := by
    have h9 := hO.cls
    rw [hvm] at h9
    exact h9
  have hall : s.sameButNew ({ U with vm := s.vm } : State) locs mc ms := by
    subst hA
    obtain ⟨e1, e2⟩ := hsame
    rw [State.setFrames_setFrames] at e1
    have h2 : (T.setVm s.vm).sameButNew ({ U with vm := s.vm } : State) [] (0 + 1) (0 + 6) := ⟨e1, e2⟩
    have h3 := X.same.trans h2
    rw [List.append_nil] at h3
    exact h3.mono hc hs
  refine ⟨U, ?_, .threw T.heap.size, hrun, hend, Or.inr ⟨T.heap.size, rfl, cls, ce, locs, hx U hWs.alike f1 (fun q hq => f2 q hq (fun z hz => nomatch hz)), hce, hO.vm, hcl, hWs, hall, hf⟩⟩
  refine st1 _ ?_
  show Steps p.tables e below (T1.setTop { method := m, pc := pc + 3, locals := ls, stack := .ref T.heap.size :: rest, locked := none }) _
  jvm_step X₁.here [X₁.here.top, hexec, d3', Value.category]
  exact hsteps
/-- 'throw new E("text")': new; dup; ldc; invokespecial; athrow -/
theorem vx_throwS {cc : ByteArray} {pc : Nat} (hexec : p.tables.exec = Jvm.exec) (hb : c.code = cc) (hl : l.stackTraces = false) {own cls text : String} {names : List String} {ik is ic mc ms sa : Nat} {A : Nat → Prop}
    (hown : s.vm.findClass own = some m.cls) (hcls : Bundle.fit cls = true) (hnames : ∀ n ∈ names, Bundle.fit n = true)
    (hk : (Cond.classLink own ik cls).before args s = true) (hini : (Cond.initialized cls).before args s = true) (hstr : vk_R own is text sa s) (hat : ∀ w ∈ vx_atS own ic cls names, w.before args s = true)
    (hgood : ∀ w ∈ Cond.classLink own ik cls :: Cond.initialized cls :: vx_atS own ic cls names, vx_ot w = true)
    (hU : vx_Zq Bundle.tN "UNASSIGNED_STACK" Bundle.steD A s s.heap) (hN : vx_Zq Bundle.tN "SUPPRESSED_SENTINEL" Bundle.listD A s s.heap) (hS : va_S A s.heap H locs) (hsize : ls.size = c.maxLocals)
    (d0 : decode cc pc = .ok (.new ik, 3)) (d3 : decode cc (pc + 3) = .ok (.dup, 1)) (d4 : decode cc (pc + 4) = .ok (.ldc is, 2)) (d6 : decode cc (pc + 6) = .ok (.invokespecial ic, 3)) (d9 : decode cc (pc + 9) = .ok (.athrow, 1))
    (hout : ∀ x ∈ c.exceptionTable.toList, covers x (pc + 9) = false)
    (hRframes : names.length + 3 < R.frames) (hRlocals : (rest.map fun v => v.category).sum + (13 * (names.length + 1) + 43) ≤ R.locals) (hRcells : cells + 1 ≤ R.cells) (hRslots : slots + 6 ≤ R.slots) (hlocks : meth.locks = false)
    (hx : ∀ t : State, s.vm.Alike t.vm → H.size ≤ t.heap.size → (∀ q : Nat, q < H.size → t.heap[q]? = H[q]?) → XC cls s t)
    (hf : ∀ z ∈ locs, free z.base) (hc : cells + 1 ≤ mc) (hs : slots + 6 ≤ ms) :
    W p l e R s m args below meth c H locs cells slots (vx_MQ below Qc XC args s mc ms free) (F0 m pc ls rest) := by
  intro T hT X
  have htr : e.platform.stackTraces = false := (show e.platform.stackTraces = l.stackTraces by rw [X.admits.platform]).trans hl
  have Y := vx_rebase X (R' := { frames := R.frames, locals := R.locals, cells := 1, slots := 6 }) (Nat.le_refl _) (Nat.le_refl _) hRcells hRslots
  obtain ⟨s', hA⟩ : ∃ z, z = (T.setVm s.vm).setFrames (.invoking m args :: below) := ⟨_, rfl⟩
  rw [← hA] at Y
  have hvm : s'.vm = s.vm := by rw [hA]; rfl
  have hhp : s'.heap = H := by rw [hA]; exact hT
  have hW0 : s.WarmedH s'.vm := by rw [hvm]; exact State.WarmedH.refl s
  have hat' : ∀ w ∈ vx_atS own ic cls names, w.before args s' = true := fun w hw => vx_ot_at hW0 hvm.symm (hgood w (List.mem_cons_of_mem _ (List.mem_cons_of_mem _ hw))) (hat w hw)
  have hk' : (Cond.classLink own ik cls).before args s' = true := vx_ot_at hW0 hvm.symm (hgood _ List.mem_cons_self) hk
  have hini' : (Cond.initialized cls).before args s' = true := vx_ot_at hW0 hvm.symm (hgood _ (List.mem_cons_of_mem _ List.mem_cons_self)) hini
  have hU' : vx_Zq Bundle.tN "UNASSIGNED_STACK" Bundle.steD A s' s'.heap := by rw [hhp]; exact vx_Zq.moved hW0.alike (hU.kept hS.2.1)
  have hN' : vx_Zq Bundle.tN "SUPPRESSED_SENTINEL" Bundle.listD A s' s'.heap := by rw [hhp]; exact vx_Zq.moved hW0.alike (hN.kept hS.2.1)
  have h : ∀ w ∈ Bundle.ownAtoms own ic cls names, w.before args s' = true := vx_own hat' (vx_isRefq hU'.1) (vx_isRefq hN'.1) hU'.2.word hN'.2.word
  have hown' : s'.vm.findClass own = some m.cls := by rw [hvm]; exact hown
  have hins : (Cond.instantiable cls 6).before args s' = true := h _ (by simp [Bundle.ownAtoms])
  obtain ⟨vm₁, cX, kX, hfX, hkX, -, -, X₁, st1⟩ := Y.newCold hexec (own := own) (C := cls) (index := ik) (n := 6) hown' hk' hins hini'
    (g := F0 m pc ls rest) rfl (by rw [hb]; exact d0) (Nat.le_refl _) (Nat.le_refl _)
  generalize hT1 : (T.setVm vm₁).pushCell { cls := cX, slots := kX.instanceTypes.map defaultValue, vm := .none } = T1 at X₁ st1
  have hcat : (Value.ref T.heap.size).category = 1 := rfl
  have hcellA : T1.heap[T.heap.size]? = some (freshCell cX kX) := by rw [← hT1]; exact State.heap_pushCell_size _ _
  have d3' : decode c.code (pc + 3) = .ok (.dup, 1) := by rw [hb]; exact d3
  have d4' : decode c.code (pc + 4) = .ok (.ldc is, 2) := by rw [hb]; exact d4
  have hstr' : vk_R own is text sa s' := vk_R.warm hW0 hstr
  obtain ⟨U, hsteps, hrun, hend, hW, hsame, ce, hce, hO⟩ := X₁.ctorThrowS hexec htr (own := own) (cls := cls) (names := names) (ic := ic) hown' hcls hnames h (fun x hx => nomatch hx) hfX hkX hcellA (by rw [hhp, hT]; exact Nat.le_refl _) (msg := .ref sa) rfl
    (g := { method := m, pc := pc + 6, locals := ls, stack := .ref sa :: .ref T.heap.size :: .ref T.heap.size :: rest, locked := none }) rfl hsize rfl rfl (rest := rest) rfl
    (by rw [hb]; exact d6) (by rw [hb]; exact d9) hout hRframes (by simp only [List.map_cons, List.sum_cons, hcat]; omega) hlocks
  obtain ⟨f1, f2⟩ := vx_frame hsame
  rw [hhp] at f1 f2
  have hWs : s.WarmedH U.vm := State.WarmedH.trans hW0 hW
  have hcl : s.vm.findClass cls = some ce.cls := by
    have h9 := hO.cls
    rw [hvm] at h9
    exact h9
  have hall : s.sameButNew ({ U with vm := s.vm } : State) locs mc ms := by
    subst hA
    obtain ⟨e1, e2⟩ := hsame
    rw [State.setFrames_setFrames] at e1
    have h2 : (T.setVm s.vm).sameButNew ({ U with vm := s.vm } : State) [] (0 + 1) (0 + 6) := ⟨e1, e2⟩
    have h3 := X.same.trans h2
    rw [List.append_nil] at h3
    exact h3.mono hc hs
  refine ⟨U, ?_, .threw T.heap.size, hrun, hend, Or.inr ⟨T.heap.size, rfl, cls, ce, locs, hx U hWs.alike f1 (fun q hq => f2 q hq (fun z hz => nomatch hz)), hce, hO.vm, hcl, hWs, hall, hf⟩⟩
  refine st1 _ ?_
  show Steps p.tables e below (T1.setTop { method := m, pc := pc + 3, locals := ls, stack := .ref T.heap.size :: rest, locked := none }) _
  jvm_step X₁.here [X₁.here.top, hexec, d3', Value.category]
  exact X₁.ldcString hexec (own := own) (text := text) (index := is) (a := sa) hown' hstr'.1 hstr'.2
    (g := { method := m, pc := pc + 4, locals := ls, stack := .ref T.heap.size :: .ref T.heap.size :: rest, locked := none }) rfl d4' _ hsteps
/-- 'throw new E("text")', the text by a wide index -/
theorem vx_throwSW {cc : ByteArray} {pc : Nat} (hexec : p.tables.exec = Jvm.exec) (hb : c.code = cc) (hl : l.stackTraces = false) {own cls text : String} {names : List String} {ik is ic mc ms sa : Nat} {A : Nat → Prop}
    (hown : s.vm.findClass own = some m.cls) (hcls : Bundle.fit cls = true) (hnames : ∀ n ∈ names, Bundle.fit n = true)
    (hk : (Cond.classLink own ik cls).before args s = true) (hini : (Cond.initialized cls).before args s = true) (hstr : vk_R own is text sa s) (hat : ∀ w ∈ vx_atS own ic cls names, w.before args s = true)
    (hgood : ∀ w ∈ Cond.classLink own ik cls :: Cond.initialized cls :: vx_atS own ic cls names, vx_ot w = true)
    (hU : vx_Zq Bundle.tN "UNASSIGNED_STACK" Bundle.steD A s s.heap) (hN : vx_Zq Bundle.tN "SUPPRESSED_SENTINEL" Bundle.listD A s s.heap) (hS : va_S A s.heap H locs) (hsize : ls.size = c.maxLocals)
    (d0 : decode cc pc = .ok (.new ik, 3)) (d3 : decode cc (pc + 3) = .ok (.dup, 1)) (d4 : decode cc (pc + 4) = .ok (.ldc_w is, 3)) (d7 : decode cc (pc + 7) = .ok (.invokespecial ic, 3)) (d10 : decode cc (pc + 10) = .ok (.athrow, 1))
    (hout : ∀ x ∈ c.exceptionTable.toList, covers x (pc + 10) = false)
    (hRframes : names.length + 3 < R.frames) (hRlocals : (rest.map fun v => v.category).sum + (13 * (names.length + 1) + 43) ≤ R.locals) (hRcells : cells + 1 ≤ R.cells) (hRslots : slots + 6 ≤ R.slots) (hlocks : meth.locks = false)
    (hx : ∀ t : State, s.vm.Alike t.vm → H.size ≤ t.heap.size → (∀ q : Nat, q < H.size → t.heap[q]? = H[q]?) → XC cls s t)
    (hf : ∀ z ∈ locs, free z.base) (hc : cells + 1 ≤ mc) (hs : slots + 6 ≤ ms) :
    W p l e R s m args below meth c H locs cells slots (vx_MQ below Qc XC args s mc ms free) (F0 m pc ls rest) := by
  intro T hT X
  have htr : e.platform.stackTraces = false := (show e.platform.stackTraces = l.stackTraces by rw [X.admits.platform]).trans hl
  have Y := vx_rebase X (R' := { frames := R.frames, locals := R.locals, cells := 1, slots := 6 }) (Nat.le_refl _) (Nat.le_refl _) hRcells hRslots
  obtain ⟨s', hA⟩ : ∃ z, z = (T.setVm s.vm).setFrames (.invoking m args :: below) := ⟨_, rfl⟩
  rw [← hA] at Y
  have hvm : s'.vm = s.vm := by rw [hA]; rfl
  have hhp : s'.heap = H := by rw [hA]; exact hT
  have hW0 : s.WarmedH s'.vm := by rw [hvm]; exact State.WarmedH.refl s
  have hat' : ∀ w ∈ vx_atS own ic cls names, w.before args s' = true := fun w hw => vx_ot_at hW0 hvm.symm (hgood w (List.mem_cons_of_mem _ (List.mem_cons_of_mem _ hw))) (hat w hw)
  have hk' : (Cond.classLink own ik cls).before args s' = true := vx_ot_at hW0 hvm.symm (hgood _ List.mem_cons_self) hk
  have hini' : (Cond.initialized cls).before args s' = true := vx_ot_at hW0 hvm.symm (hgood _ (List.mem_cons_of_mem _ List.mem_cons_self)) hini
  have hU' : vx_Zq Bundle.tN "UNASSIGNED_STACK" Bundle.steD A s' s'.heap := by rw [hhp]; exact vx_Zq.moved hW0.alike (hU.kept hS.2.1)
  have hN' : vx_Zq Bundle.tN "SUPPRESSED_SENTINEL" Bundle.listD A s' s'.heap := by rw [hhp]; exact vx_Zq.moved hW0.alike (hN.kept hS.2.1)
  have h : ∀ w ∈ Bundle.ownAtoms own ic cls names, w.before args s' = true := vx_own hat' (vx_isRefq hU'.1) (vx_isRefq hN'.1) hU'.2.word hN'.2.word
  have hown' : s'.vm.findClass own = some m.cls := by rw [hvm]; exact hown
  have hins : (Cond.instantiable cls 6).before args s' = true := h _ (by simp [Bundle.ownAtoms])
  obtain ⟨vm₁, cX, kX, hfX, hkX, -, -, X₁, st1⟩ := Y.newCold hexec (own := own) (C := cls) (index := ik) (n := 6) hown' hk' hins hini'
    (g := F0 m pc ls rest) rfl (by rw [hb]; exact d0) (Nat.le_refl _) (Nat.le_refl _)
  generalize hT1 : (T.setVm vm₁).pushCell { cls := cX, slots := kX.instanceTypes.map defaultValue, vm := .none } = T1 at X₁ st1
  have hcat : (Value.ref T.heap.size).category = 1 := rfl
  have hcellA : T1.heap[T.heap.size]? = some (freshCell cX kX) := by rw [← hT1]; exact State.heap_pushCell_size _ _
  have d3' : decode c.code (pc + 3) = .ok (.dup, 1) := by rw [hb]; exact d3
  have d4' : decode c.code (pc + 4) = .ok (.ldc_w is, 3) := by rw [hb]; exact d4
  have hstr' : vk_R own is text sa s' := vk_R.warm hW0 hstr
  obtain ⟨U, hsteps, hrun, hend, hW, hsame, ce, hce, hO⟩ := X₁.ctorThrowS hexec htr (own := own) (cls := cls) (names := names) (ic := ic) hown' hcls hnames h (fun x hx => nomatch hx) hfX hkX hcellA (by rw [hhp, hT]; exact Nat.le_refl _) (msg := .ref sa) rfl
    (g := { method := m, pc := pc + 7, locals := ls, stack := .ref sa :: .ref T.heap.size :: .ref T.heap.size :: rest, locked := none }) rfl hsize rfl rfl (rest := rest) rfl
    (by rw [hb]; exact d7) (by rw [hb]; exact d10) hout hRframes (by simp only [List.map_cons, List.sum_cons, hcat]; omega) hlocks
  obtain ⟨f1, f2⟩ := vx_frame hsame
  rw [hhp] at f1 f2
  have hWs : s.WarmedH U.vm := State.WarmedH.trans hW0 hW
  have hcl : s.vm.findClass cls = some ce.cls := by
    have h9 := hO.cls
    rw [hvm] at h9
    exact h9
  have hall : s.sameButNew ({ U with vm := s.vm } : State) locs mc ms := by
    subst hA
    obtain ⟨e1, e2⟩ := hsame
    rw [State.setFrames_setFrames] at e1
    have h2 : (T.setVm s.vm).sameButNew ({ U with vm := s.vm } : State) [] (0 + 1) (0 + 6) := ⟨e1, e2⟩
    have h3 := X.same.trans h2
    rw [List.append_nil] at h3
    exact h3.mono hc hs
  refine ⟨U, ?_, .threw T.heap.size, hrun, hend, Or.inr ⟨T.heap.size, rfl, cls, ce, locs, hx U hWs.alike f1 (fun q hq => f2 q hq (fun z hz => nomatch hz)), hce, hO.vm, hcl, hWs, hall, hf⟩⟩
  refine st1 _ ?_
  show Steps p.tables e below (T1.setTop { method := m, pc := pc + 3, locals := ls, stack := .ref T.heap.size :: rest, locked := none }) _
  jvm_step X₁.here [X₁.here.top, hexec, d3', Value.category]
  exact X₁.ldcStringW hexec (own := own) (text := text) (index := is) (a := sa) hown' hstr'.1 hstr'.2
    (g := { method := m, pc := pc + 4, locals := ls, stack := .ref T.heap.size :: .ref T.heap.size :: rest, locked := none }) rfl d4' _ hsteps
end Ends
section Bodies
variable {l : Launch}
theorem vx_ofW {y : MethodName} {ws ws' : List Cond} {rm : Room} {Pc : Array Value → State → Prop} {Qc : Array Value → State → Outcome → State → Prop} {XC : String → State → State → Prop} {mc ms : Nat} {free : Addr → Prop} {cc : ByteArray} {maxL : Nat} {ret : Option FieldType}
    (hy : plainName y.cls = true) (hw : ws = Cond.code y cc maxL ret :: ws')
    (body : ∀ p e s m args below meth c s₁, BodyLoose p l y (headSpec ws rm) cc maxL ret e s m args below meth c s₁ → c.maxLocals = maxL → (∀ x ∈ c.exceptionTable.toList, False) → Pc args s →
      W p l e (headSpec ws rm).room s m args below meth c s.heap [] 0 0 (vx_MQ below Qc XC args s mc ms free) (entryFrame m args maxL)) : vx_Met l y ws rm Pc Qc XC mc ms free := by
  refine MetFree.of_bodyS (code := cc) (maxLocals := maxL) (ret := ret) hy ?_ ?_
  · intro args s m h hn
    obtain ⟨meth, c, h1, h2, h3, h4, h5, h6, -, -⟩ := Cond.code_spec hn (atoms_spec (ws := ws) h _ (by rw [hw]; exact List.mem_cons_self))
    exact ⟨meth, c, h1, h2, h3, h4, h5, h6⟩
  · intro p e s m args below meth c s₁ B hml hP _
    have hh0 : s₁.heap = s.heap := by rw [B.state]; rfl
    have ht : ∀ x ∈ c.exceptionTable.toList, False := by
      obtain ⟨meth9, c9, h1, h2, -, -, -, -, h7, -⟩ := Cond.code_spec B.named (atoms_spec (ws := ws) B.pre _ (by rw [hw]; exact List.mem_cons_self))
      cases Option.some.inj (h1.symm.trans B.method)
      cases Option.some.inj (h2.symm.trans (Stand.of_body B).code)
      intro x hx
      rw [Array.isEmpty_iff.mp h7] at hx
      cases hx
    obtain ⟨t, a1, o, b1, b2, b3⟩ := body p e s m args below meth c s₁ B hml ht hP s₁ hh0 (Stand.of_body B)
    exact ⟨t, o, a1, b1, b2, b3⟩
/-- the table of a body with handlers -/
theorem vx_table {p : Program} {x y : MethodName} {S : Spec} {cc bytes : ByteArray} {maxL maxL' : Nat} {ret ret' : Option FieldType} {e : Env} {s s₁ : State} {m : MethodId} {args : Array Value} {below : List Frame} {meth : Method} {c : Code} {hh : List (Nat × Nat × Nat × Nat)}
    (B : BodyLoose p l y S cc maxL ret e s m args below meth c s₁) (h : (Cond.codeWith y bytes maxL' ret' hh).before args s = true) : c.exceptionTable.toList = tableOf hh := by
  obtain ⟨m9, meth9, c9, hn9, h1, h2, -, -, h6, -⟩ := Cond.codeWith_spec h
  cases Option.some.inj (hn9.symm.trans B.named)
  cases Option.some.inj (h1.symm.trans B.method)
  cases Option.some.inj (h2.symm.trans (Stand.of_body B).code)
  rw [← h6, table_eq]
end Bodies
end VXA
/-! ===== END ===== -/
/-! ===== BEGIN a static call of a method with an exception table ===== -/
section VXS
variable {p : Program} {l : Launch} {e : Env} {R : Room} {s : State} {m : MethodId} {args : Array Value} {below : List Frame} {meth : Method} {c : Code} {T : State} {H : Heap} {locs : List Loc} {cells slots : Nat}
abbrev vx_CSW (R : Room) (s : State) (args : Array Value) (own : String) (index : Nat) (y : MethodName) (bytes : ByteArray) (maxL : Nat) (ret : Option FieldType) (hh : List (Nat × Nat × Nat × Nat)) (ws : List Cond) (rm : Room) (mc ms n : Nat) : Prop :=
  (rm.cells = mc ∧ rm.slots = ms ∧ rm.frames + 1 ≤ R.frames ∧ 8 + (maxL + 11) + rm.locals ≤ R.locals ∧ (∀ w ∈ ws, ∀ (a' : Array Value) (U : State), s.WarmedH U.vm → w.before a' U = true) ∧ Cond.codeWith y bytes maxL ret hh ∈ ws) ∧
  (Cond.codeWith y bytes maxL ret hh).before args s = true ∧ (Cond.initialized y.cls).before args s = true ∧ (y.cls ≠ "java/lang/invoke/MethodHandle" ∧ y.cls ≠ "java/lang/invoke/VarHandle") ∧
  (∀ sig, parseMethodDescriptor y.desc = some sig → n = sig.parameters.length) ∧ (Cond.methodLink own index y).before args s = true ∧ (Cond.static y).before args s = true
theorem vx_cwSW {own : String} {index maxL mc ms : Nat} {y : MethodName} {bytes : ByteArray} {ret : Option FieldType} {hh : List (Nat × Nat × Nat × Nat)} {Ts ws ws' : List Cond} {rm : Room} (n : Nat) (ht : ∀ w ∈ Ts, w.before args s = true) (hT : GoodIn Ts (va_wsS own index y ws)) (hw : ws = Cond.codeWith y bytes maxL ret hh :: ws') (hrc : rm.cells = mc) (hrs : rm.slots = ms)
    (hd : y.cls ≠ "java/lang/invoke/MethodHandle" ∧ y.cls ≠ "java/lang/invoke/VarHandle" ∧ (parseMethodDescriptor y.desc).map (fun d => d.parameters.length) = some n) (hR : rm.frames + 1 ≤ R.frames ∧ 8 + (maxL + 11) + rm.locals ≤ R.locals) :
    vx_CSW R s args own index y bytes maxL ret hh ws rm mc ms n := by
  have ok : ∀ w ∈ va_wsS own index y ws, w.before args s = true := fun w h => ht w (hT w h).1
  have hG : GoodIn Ts ws := fun w h => hT w (by unfold va_wsS; exact List.mem_append_right _ h)
  have hc : Cond.codeWith y bytes maxL ret hh ∈ ws := by rw [hw]; exact List.mem_cons_self
  refine ⟨⟨hrc, hrs, hR.1, hR.2, pay_in ht hG, hc⟩, ht _ (hG _ hc).1, ok _ (by simp [va_wsS]), ⟨hd.1, hd.2.1⟩, fun sig h => ?_, ok _ (by simp [va_wsS]), ok _ (by simp [va_wsS])⟩
  have h2 := hd.2.2
  rw [h] at h2
  exact (Option.some.inj h2).symm
theorem vx_callSW (X : Stand p l e R s m args below meth c T locs cells slots) (hexec : p.tables.exec = Jvm.exec) {own : String} {index : Nat} {y : MethodName} {bytes : ByteArray} {maxL : Nat} {ret : Option FieldType} {hh : List (Nat × Nat × Nat × Nat)}
    (hown : s.vm.findClass own = some m.cls) (hlink : (Cond.methodLink own index y).before args s = true) (hstat : (Cond.static y).before args s = true) (hinit : (Cond.initialized y.cls).before args s = true)
    (hcode : (Cond.codeWith y bytes maxL ret hh).before args s = true) (hy : y.cls ≠ "java/lang/invoke/MethodHandle" ∧ y.cls ≠ "java/lang/invoke/VarHandle")
    {W9 : Nat} {Pre : Pt → Array Value → Prop} {Post : Pt → Array Value → Option Value → Pt → Prop} (hK : Back l R p e below s args y 3 W9 Pre Post)
    {g : JFrame} (hg : g.method = m) (hsize : g.locals.size = c.maxLocals) {argsL rest : List Value} (hlen : ∀ sig, parseMethodDescriptor y.desc = some sig → argsL.length = sig.parameters.length)
    (hstack : g.stack = argsL.reverse ++ rest) (hW : 2 * g.monitorRoom + (rest.map fun v => v.category).sum ≤ W9) (hdg : decode c.code g.pc = .ok (.invokestatic index, 3))
    (hpre : ∀ vm₁, s.WarmedH vm₁ → Pre ⟨T.setVm vm₁, locs, cells, slots⟩ argsL.toArray) :
    ∃ (v : Option Value) (vm₁ : Vm) (B : Pt), s.WarmedH vm₁ ∧ Stand p l e R s m args below meth c B.U B.locs B.cells B.slots ∧ Post ⟨T.setVm vm₁, locs, cells, slots⟩ argsL.toArray v B ∧
      ∀ target, Steps p.tables e below (B.U.setTop { g with pc := g.pc + 3, stack := v.toList ++ rest }) target → Steps p.tables e below (T.setTop g) target := by
  obtain ⟨mk, methM, cM, hnamed, hmethM, -, -, -, -, -, -, hsigM⟩ := Cond.codeWith_spec hcode
  have hstatic : methM.isStatic = true := Cond.static_spec hnamed hmethM hstat
  obtain ⟨kP, hkP, -⟩ := className_of_methodNamed hnamed
  have hinitP : kP.init = .initialized := Cond.initialized_spec (findClass_of_methodNamed hnamed) hkP hinit
  obtain ⟨vm₁, X₁, hstep₁⟩ := X.invokestatic hexec hown hlink hnamed hmethM hstatic hkP hinitP hy (g := g) hg (argsL := argsL) (rest := rest) (hlen _ hsigM) hstack hdg
  obtain ⟨v, B, X', hpost, hsteps⟩ := hK m meth c ⟨T.setVm vm₁, locs, cells, slots⟩ { g with stack := rest } (.invokestatic index) mk argsL.toArray X₁ hg hsize hdg hW (X₁.named hnamed) (hpre vm₁ X₁.warmed)
  exact ⟨v, vm₁, B, X₁.warmed, X', hpost, fun target h => hstep₁ _ fun acts => by rw [doInvoke_state]; exact hsteps.trans h⟩
theorem vx_runSW {y : MethodName} {bytes cc : ByteArray} {maxL nL mc ms n index : Nat} {ret : Option FieldType} {hh : List (Nat × Nat × Nat × Nat)} {ws : List Cond} {rm : Room} {Pc : Array Value → State → Prop} {Qc : Array Value → State → Outcome → State → Prop} {free : Addr → Prop} {Ts : List Cond} {own : String} {As rest : List Value} {g : JFrame}
    (S : CallFix p m c cc nL s args Ts own) (hM : Met l y ws rm Pc Qc mc ms free) (cw : vx_CSW R s args own index y bytes maxL ret hh ws rm mc ms n) (hp : PreS s H Pc As)
    (hg : g.method = m) (hn : As.length = n) (hsize : g.locals.size = nL) (hstack : g.stack = As.reverse ++ rest) (hW : 2 * g.monitorRoom + (rest.map fun v => v.category).sum ≤ 8) (hdg : decode cc g.pc = .ok (.invokestatic index, 3)) (hf : cells + mc ≤ R.cells ∧ slots + ms ≤ R.slots) :
    va_Run p l e R s m args below meth c H locs cells slots mc ms g rest (Qc As.toArray) (free) := by
  obtain ⟨⟨hrc, hrs, hfr, hlo, hws, hcw⟩, hcode, hini, hy, hlen, hl, hstt⟩ := cw
  have hK : Back l R p e below s args y 3 8 (PreOf R mc ms Pc) (PostOf Qc mc ms free) := va_backW (hh := hh) (bytes := bytes) (maxL := maxL) (ret := ret) hM hp.1 hrc hrs hfr hlo hws hcw (fun a' U hW => word_at hW (Or.inl (by first | rfl | simp [Cond.onTables, Cond.keeps, Cond.steady])) hini)
  obtain ⟨hx, hb, hml, ho, -⟩ := S
  intro T hT X
  obtain ⟨v, vm₁, ⟨U', l2, c2, s2⟩, hW₁, X', ⟨g', mk, t, L, e1, e2, hq, h1, hL, h2, h3⟩, st⟩ := vx_callSW X hx (hh := hh) (bytes := bytes) (maxL := maxL) (ret := ret) ho hl hstt hini hcode hy hK hg (hsize.trans hml.symm) (argsL := As) (rest := rest) (fun sig h => hn.trans (hlen sig h)) hstack hW (by rw [hb]; exact hdg)
    (fun vm₁ hW₁ => ⟨hf.1, hf.2, hp.2 (T.setVm vm₁) hT hW₁⟩)
  dsimp only [Pt.U, Pt.locs, Pt.cells, Pt.slots] at X' e1 e2 h1 h2 h3 st
  subst h1; subst h2; subst h3
  exact ⟨v, (T.setVm vm₁).calling g' mk As.toArray, t, U', L, hT, X', hL, e1, e2, hq, st⟩
/-- not caught here, past rows that name other classes: it goes on to the caller -/
theorem vx_outP {p : Program} {l : Launch} {e : Env} {R : Room} {s : State} {m : MethodId} {args : Array Value} {below : List Frame} {meth : Method} {c : Code} {H : Heap} {locs : List Loc} {cells slots : Nat} {free : Addr → Prop} {ls : Array Slot} {rest : List Value} {Qc : Array Value → State → Outcome → State → Prop} {XC : String → State → State → Prop}
    {pc : Nat} {own E : String} {ce : Cell} {q : Addr} {mc ms : Nat} (hown : s.vm.findClass own = some m.cls) (hlocks : meth.locks = false)
    (hpass : ∀ z ∈ c.exceptionTable.toList, covers z pc = false ∨ (z.catchType ≠ 0 ∧ ∃ nm : String, (Cond.classLink own z.catchType nm).before args s = true ∧ va_Nc E nm s)) (hcell : H[q]? = some ce) (hv : ce.vm = .none) (hcl : s.vm.findClass E = some ce.cls)
    (hx : ∀ t : State, t.heap = H → s.vm.Alike t.vm → XC E s t) (hf : ∀ z ∈ locs, free z.base) (hc : cells ≤ mc) (hs : slots ≤ ms) :
    vx_W p l e R s m args below meth c H locs cells slots (vx_MQ below Qc XC args s mc ms free) (F0 m pc ls rest) q := by
  intro T hT X
  have hpl : e.platform.magicAccessors = ({} : Platform).magicAccessors := by rw [X.admits.platform]
  obtain ⟨vm', hW', X', st⟩ := X.outThrough hlocks q (g := F0 m pc ls rest) rfl rfl rfl (cell := ce) (by rw [hT]; exact hcell) (by rw [hv]; rfl)
    (by obtain ⟨k9, h9, -⟩ := Vm.findClass_spec hcl; exact ⟨k9, h9⟩) (fun z hz => by
      rcases hpass z hz with h | ⟨hz0, nm, hl1, hn1⟩
      · exact Or.inl h
      · obtain ⟨c6, hc6, hcl6⟩ := Cond.classLink_spec hown hl1 e.platform hpl
        obtain ⟨a8, b8, h1, h2, h3⟩ := hn1
        cases Option.some.inj (h1.symm.trans hcl)
        cases Option.some.inj (h2.symm.trans hc6)
        exact Or.inr ⟨hz0, _, hcl6, h3⟩)
  obtain ⟨g₀, hfr⟩ := X'.frames_eq
  have hcell9 : ((T.setVm vm').setFrames (.throwing q :: below)).heap[q]? = some ce := by
    show T.heap[q]? = some ce
    rw [hT]; exact hcell
  have hend : Ended ((T.setVm vm').setFrames (.throwing q :: below)) below (.threw q) := State.frames_setFrames _ (State.cur_lt_of_frames hfr)
  refine ⟨(T.setVm vm').setFrames (.throwing q :: below), ?_, .threw q, X'.here.running, hend, Or.inr ⟨q, rfl, E, ce, locs, hx _ hT (X'.ends _).1.alike, hcell9, hv, hcl, (X'.ends _).1, (X'.ends _).2.mono hc hs, hf⟩⟩
  rw [X.pushThrowing_eq]
  exact st
/-- a thing of a world lies in the heap -/
theorem vx_lt {D : va_G} {cl : List vw_C} {ws : va_W} {H1 : Heap} (h : va_P D cl ws H1) {k : Nat} {q : Nat × va_E} (hk : ws[k]? = some q) : q.1 < H1.size := (h k q hk).lt
end VXS
/-! ===== END ===== -/
/-! ===== BEGIN methods with a table of their own: called by a name, returning or throwing ===== -/
section VXH
/-! vx_backW, vx_callVX, vx_callSX, vx_callVW, vx_runVW, vx_runVX, vx_runSX, vx_ofWH follow the same proofs as their sisters above (Free/Laws.lean, Shelf42/LK1.lean); vx_outP calls Shelf42/NT130.lean (outThrough). -/
section
variable {l : Launch} {R : Room} {p : Program} {e : Env} {below : List Frame} {s : State} {sargs : Array Value} {y : MethodName} {len W9 : Nat}
theorem vx_backW {ws : List Cond} {rm : Room} {Pc : Array Value → State → Prop} {Qc : Array Value → State → Outcome → State → Prop} {XC : String → State → State → Prop} {mc ms : Nat} {free : Addr → Prop} {bytes : ByteArray} {maxL : Nat} {ret : Option FieldType} {hh : List (Nat × Nat × Nat × Nat)}
    (hM : vx_Met l y ws rm Pc Qc XC mc ms free) (hblind : FrameBlind Pc) (hrc : rm.cells = mc) (hrs : rm.slots = ms)
    (hframes : rm.frames + 1 ≤ R.frames) (hlocals : W9 + (maxL + 11) + rm.locals ≤ R.locals)
    (hws : ∀ w ∈ ws, ∀ a' U, s.WarmedH U.vm → w.before a' U = true) (hcode : Cond.codeWith y bytes maxL ret hh ∈ ws) (hinit : ∀ a' U, s.WarmedH U.vm → (Cond.initialized y.cls).before a' U = true) :
    vx_Back l R p e below s sargs y len W9 (PreOf R mc ms Pc) (PostOf Qc mc ms free) (vx_Post XC mc ms free) := by
  intro m meth c A g ig mk a X hg hsize hdg hW hn hp
  have h1 : (headSpec ws rm).pre.before a A.U = true := atoms_intro fun w hw => hws w hw _ _ X.warmed
  have h2 : (Cond.codeWith y bytes maxL ret hh).before a A.U = true := hws _ hcode _ _ X.warmed
  have h3 : (Cond.initialized y.cls).before a A.U = true := hinit _ _ X.warmed
  have h4 : A.cells + (headSpec ws rm).room.cells ≤ R.cells := by rw [show (headSpec ws rm).room.cells = mc from hrc]; exact hp.1
  have h5 : A.slots + (headSpec ws rm).room.slots ≤ R.slots := by rw [show (headSpec ws rm).room.slots = ms from hrs]; exact hp.2.1
  have hPc : Pc a (A.U.calling g mk a) := hblind _ _ _ _ hp.2.2
  obtain ⟨U, Ls, c0, s0⟩ := A
  dsimp only [Pt.U, Pt.locs, Pt.cells, Pt.slots] at h1 h2 h3 h4 h5 X hn hPc ⊢
  obtain ⟨m9, methY, cY, hn9, hmY, hcY, -, hlY, -⟩ := Cond.codeWith_spec h2
  cases Option.some.inj (hn9.symm.trans hn)
  obtain ⟨kY, hkY, -⟩ := className_of_methodNamed hn
  have hinitY : kY.init = .initialized := Cond.initialized_spec (findClass_of_methodNamed hn) hkY h3
  have h : At U g.method c below := by rw [hg]; exact X.here
  have hlocals9 : W9 + (maxL + 11) + (headSpec ws rm).room.locals ≤ R.locals := hlocals
  have happ : (headSpec ws rm).appliesLoose y e.platform (U.calling g mk a) = true :=
    Spec.appliesLoose_calling (g := g) h hdg hn hkY hinitY
      (X.room_calling (g := g) (R' := (headSpec ws rm).room) hsize hmY hcY hframes (by rw [hlY]; omega) h4 h5) h1
  obtain ⟨mid, hmid⟩ := h.above
  have hfr : (U.setTop g).frames = (.java g :: mid) ++ below := by rw [State.frames_setTop' g h.top, hmid]; rfl
  obtain ⟨o, s₂, hsteps, -, hend, hq⟩ := Steps.callFree hM p X.admits X.cas X.clock (acts := []) hfr happ hPc trivial
  have hq' : vx_Q Qc XC mc ms free a (U.calling g mk a) o s₂ := hq
  rw [State.frames_setTop' g h.top] at hend
  obtain ⟨g₀, hg0⟩ := Option.isSome_iff_exists.mp h.top
  obtain ⟨r, hr⟩ := State.topJava?_eq_some.mp hg0
  have hr' : (({ U with heap := s₂.heap, slotsUsed := s₂.slotsUsed } : State).setVm s₂.vm).frames = .java g₀ :: r := hr
  rcases hq' with ⟨hqc, L, hfe, hL⟩ | ⟨q, rfl, E, ce, L, hx, hce, hcv, hcl, hW₂, hsm, hL⟩
  · obtain ⟨⟨v, rfl⟩, hW₂, e2, q2, q3, q4, q5, q6⟩ := id hfe
    have e3 : s₂ = ({ (U.calling g mk a).setFrames s₂.frames with heap := s₂.heap, slotsUsed := s₂.slotsUsed } : State).setVm s₂.vm := by
      have : s₂ = ({ s₂ with vm := (U.calling g mk a).vm } : State).setVm s₂.vm := rfl
      rw [e2] at this
      exact this
    obtain ⟨c₂, i₂, len₂, hc₂, hd₂, hf₂⟩ := hend
    have hW' : U.WarmedH s₂.vm := hW₂
    have hcc : c₂ = c := by
      have h1 : s₂.code? g.method = U.code? g.method := by
        rw [State.code?_eq, State.code?_eq, hW'.alike.method?]
      exact Option.some.inj (hc₂.symm.trans (h1.trans h.code))
    subst hcc
    have hlen : len₂ = len := by rw [hdg] at hd₂; cases hd₂; rfl
    subst hlen
    have hs₂ : s₂ = (({ U with heap := s₂.heap, slotsUsed := s₂.slotsUsed } : State).setVm s₂.vm).setTop { g with pc := g.pc + len₂, stack := v.toList ++ g.stack } := by
      refine e3.trans ?_
      rw [hf₂, State.calling_eq h.top, State.setFrames_setFrames, State.setTop_of_frames _ hr', hr]
      rfl
    have hsame : U.sameButNew ({ U with heap := s₂.heap, slotsUsed := s₂.slotsUsed } : State) L mc ms := by
      refine ⟨?_, q2, q3, q4, q5, q6⟩
      obtain ⟨t, ht, -⟩ := State.frames_cons hr
      show ({ U with heap := s₂.heap, slotsUsed := s₂.slotsUsed } : State) = { U.setFrames U.frames with heap := s₂.heap, slotsUsed := s₂.slotsUsed }
      rw [State.setFrames_self ht]
    subst hg
    refine Or.inl ⟨v, ⟨(({ U with heap := s₂.heap, slotsUsed := s₂.slotsUsed } : State).setVm s₂.vm), Ls ++ L, c0 + mc, s0 + ms⟩,
      ⟨X.admits, X.cas, X.clock, X.frames, X.room, X.hears, X.method, X.code, (X.here.setHeapUsed s₂.heap s₂.slotsUsed).setVm hW'.alike, X.tail, State.WarmedH.trans X.warmed hW', X.limits, X.bytes, X.same.trans (hsame.setVm s.vm)⟩,
      ⟨g, mk, s₂, L, rfl, rfl, hqc, rfl, hL, rfl, rfl⟩, ?_⟩
    show Steps p.tables e below _ ((({ U with heap := s₂.heap, slotsUsed := s₂.slotsUsed } : State).setVm s₂.vm).setTop { g with pc := g.pc + len₂, stack := v.toList ++ g.stack })
    rw [← hs₂]
    exact hsteps
  · obtain ⟨e2, q2, q3, q4, q5, q6⟩ := id hsm
    have e3 : s₂ = ({ (U.calling g mk a).setFrames s₂.frames with heap := s₂.heap, slotsUsed := s₂.slotsUsed } : State).setVm s₂.vm := by
      have : s₂ = ({ s₂ with vm := (U.calling g mk a).vm } : State).setVm s₂.vm := rfl
      rw [e2] at this
      exact this
    have hf₂ : s₂.frames = .throwing q :: .java g :: U.frames.tail := hend
    have hW' : U.WarmedH s₂.vm := hW₂
    have hs₂ : s₂ = ((({ U with heap := s₂.heap, slotsUsed := s₂.slotsUsed } : State).setVm s₂.vm).setTop g).pushFrame (.throwing q) := by
      refine e3.trans ?_
      rw [hf₂, State.calling_eq h.top, State.setFrames_setFrames, State.pushFrame, State.frames_setTop _ hr', State.setTop_of_frames _ hr', State.setFrames_setFrames, hr]
      rfl
    have hsame : U.sameButNew ({ U with heap := s₂.heap, slotsUsed := s₂.slotsUsed } : State) L mc ms := by
      refine ⟨?_, q2, q3, q4, q5, q6⟩
      obtain ⟨t, ht, -⟩ := State.frames_cons hr
      show ({ U with heap := s₂.heap, slotsUsed := s₂.slotsUsed } : State) = { U.setFrames U.frames with heap := s₂.heap, slotsUsed := s₂.slotsUsed }
      rw [State.setFrames_self ht]
    subst hg
    refine Or.inr ⟨q, ⟨(({ U with heap := s₂.heap, slotsUsed := s₂.slotsUsed } : State).setVm s₂.vm), Ls ++ L, c0 + mc, s0 + ms⟩,
      ⟨X.admits, X.cas, X.clock, X.frames, X.room, X.hears, X.method, X.code, (X.here.setHeapUsed s₂.heap s₂.slotsUsed).setVm hW'.alike, X.tail, State.WarmedH.trans X.warmed hW', X.limits, X.bytes, X.same.trans (hsame.setVm s.vm)⟩,
      ⟨g, mk, s₂, L, E, ce, rfl, rfl, hx, hce, hcv, hcl, rfl, hL, rfl, rfl⟩, ?_⟩
    show Steps p.tables e below _ (((({ U with heap := s₂.heap, slotsUsed := s₂.slotsUsed } : State).setVm s₂.vm).setTop g).pushFrame (.throwing q))
    rw [← hs₂]
    exact hsteps
end
variable {p : Program} {l : Launch} {e : Env} {R : Room} {s : State} {m : MethodId} {args : Array Value} {below : List Frame} {meth : Method} {c : Code} {T : State} {H : Heap} {locs : List Loc} {cells slots : Nat}
theorem vx_callVX (X : Stand p l e R s m args below meth c T locs cells slots) (hexec : p.tables.exec = Jvm.exec) {own C : String} {index : Nat} {y : MethodName} {bytes : ByteArray} {maxL : Nat} {ret : Option FieldType} {hh : List (Nat × Nat × Nat × Nat)}
    (hown : s.vm.findClass own = some m.cls) (hlink : (Cond.methodLink own index y).before args s = true) (hinst : (Cond.instanceMethod y).before args s = true) (hsel : (Cond.selects C y y).before args s = true)
    (hcode : (Cond.codeWith y bytes maxL ret hh).before args s = true) (hy : y.cls ≠ "java/lang/invoke/MethodHandle" ∧ y.cls ≠ "java/lang/invoke/VarHandle")
    {W9 : Nat} {Pre : Pt → Array Value → Prop} {Post : Pt → Array Value → Option Value → Pt → Prop} {PostX : Pt → Array Value → Addr → Pt → Prop} (hK : vx_Back l R p e below s args y 3 W9 Pre Post PostX)
    {b : Addr} {cellB : Cell} (hcell : T.heap[b]? = some cellB) (hobj : cellB.vm.isStatics = false) (hcls : s.vm.findClass C = some cellB.cls)
    {g : JFrame} (hg : g.method = m) (hsize : g.locals.size = c.maxLocals) {argsL rest : List Value} (hlen : ∀ sig, parseMethodDescriptor y.desc = some sig → argsL.length = sig.parameters.length)
    (hstack : g.stack = argsL.reverse ++ .ref b :: rest) (hW : 2 * g.monitorRoom + (rest.map fun v => v.category).sum ≤ W9) (hdg : decode c.code g.pc = .ok (.invokevirtual index, 3))
    (hpre : ∀ vm₁, s.WarmedH vm₁ → Pre ⟨T.setVm vm₁, locs, cells, slots⟩ (Value.ref b :: argsL).toArray) :
    (∃ (v : Option Value) (vm₁ : Vm) (B : Pt), s.WarmedH vm₁ ∧ Stand p l e R s m args below meth c B.U B.locs B.cells B.slots ∧ Post ⟨T.setVm vm₁, locs, cells, slots⟩ (Value.ref b :: argsL).toArray v B ∧
      ∀ target, Steps p.tables e below (B.U.setTop { g with pc := g.pc + 3, stack := v.toList ++ rest }) target → Steps p.tables e below (T.setTop g) target) ∨
    (∃ (q : Addr) (vm₁ : Vm) (B : Pt), s.WarmedH vm₁ ∧ Stand p l e R s m args below meth c B.U B.locs B.cells B.slots ∧ PostX ⟨T.setVm vm₁, locs, cells, slots⟩ (Value.ref b :: argsL).toArray q B ∧
      Steps p.tables e below (T.setTop g) ((B.U.setTop { g with stack := rest }).pushFrame (.throwing q))) := by
  obtain ⟨mk, methM, hnamed, hmethM, hstM, habM⟩ := Cond.instanceMethod_spec hinst
  obtain ⟨m8, methM', cM, hn8, hmethM', -, -, -, -, -, -, hsigM⟩ := Cond.codeWith_spec hcode
  cases Option.some.inj (hn8.symm.trans hnamed)
  cases hmethM.symm.trans hmethM'
  obtain ⟨c2, r2, m2, q1, q2, q3, q4, kP, hkP, hkPi⟩ := Cond.selects_spec hsel
  cases hcls.symm.trans q1
  cases (State.methodFound?_of_named hnamed hy).symm.trans q2
  cases hnamed.symm.trans q3
  have hselP : selectMethod e.platform s.vm cellB.cls mk = .method mk := by rw [Launch.admits_selectMethod X.admits]; exact q4
  obtain ⟨vm₁, X₁, hstep₁⟩ := X.invokevirtual hexec hown hlink hnamed hmethM hstM hkP hkPi hy (a := b) (cell := cellB) hcell
    (fun z h => by rw [h] at hobj; cases hobj) hselP hmethM habM hkP hkPi (g := g) hg (argsL := argsL) (rest := rest) (hlen _ hsigM) hstack hdg
  rcases hK m meth c ⟨T.setVm vm₁, locs, cells, slots⟩ { g with stack := rest } (.invokevirtual index) mk (Value.ref b :: argsL).toArray X₁ hg hsize hdg hW (X₁.named hnamed) (hpre vm₁ X₁.warmed) with ⟨v, B, X', hpost, hsteps⟩ | ⟨q, B, X', hpost, hsteps⟩
  · exact Or.inl ⟨v, vm₁, B, X₁.warmed, X', hpost, fun target h => hstep₁ _ fun acts => by rw [doInvoke_state]; exact hsteps.trans h⟩
  · exact Or.inr ⟨q, vm₁, B, X₁.warmed, X', hpost, hstep₁ _ fun acts => by rw [doInvoke_state]; exact hsteps⟩
theorem vx_callSX (X : Stand p l e R s m args below meth c T locs cells slots) (hexec : p.tables.exec = Jvm.exec) {own : String} {index : Nat} {y : MethodName} {bytes : ByteArray} {maxL : Nat} {ret : Option FieldType} {hh : List (Nat × Nat × Nat × Nat)}
    (hown : s.vm.findClass own = some m.cls) (hlink : (Cond.methodLink own index y).before args s = true) (hstat : (Cond.static y).before args s = true) (hinit : (Cond.initialized y.cls).before args s = true)
    (hcode : (Cond.codeWith y bytes maxL ret hh).before args s = true) (hy : y.cls ≠ "java/lang/invoke/MethodHandle" ∧ y.cls ≠ "java/lang/invoke/VarHandle")
    {W9 : Nat} {Pre : Pt → Array Value → Prop} {Post : Pt → Array Value → Option Value → Pt → Prop} {PostX : Pt → Array Value → Addr → Pt → Prop} (hK : vx_Back l R p e below s args y 3 W9 Pre Post PostX)
    {g : JFrame} (hg : g.method = m) (hsize : g.locals.size = c.maxLocals) {argsL rest : List Value} (hlen : ∀ sig, parseMethodDescriptor y.desc = some sig → argsL.length = sig.parameters.length)
    (hstack : g.stack = argsL.reverse ++ rest) (hW : 2 * g.monitorRoom + (rest.map fun v => v.category).sum ≤ W9) (hdg : decode c.code g.pc = .ok (.invokestatic index, 3))
    (hpre : ∀ vm₁, s.WarmedH vm₁ → Pre ⟨T.setVm vm₁, locs, cells, slots⟩ argsL.toArray) :
    (∃ (v : Option Value) (vm₁ : Vm) (B : Pt), s.WarmedH vm₁ ∧ Stand p l e R s m args below meth c B.U B.locs B.cells B.slots ∧ Post ⟨T.setVm vm₁, locs, cells, slots⟩ argsL.toArray v B ∧
      ∀ target, Steps p.tables e below (B.U.setTop { g with pc := g.pc + 3, stack := v.toList ++ rest }) target → Steps p.tables e below (T.setTop g) target) ∨
    (∃ (q : Addr) (vm₁ : Vm) (B : Pt), s.WarmedH vm₁ ∧ Stand p l e R s m args below meth c B.U B.locs B.cells B.slots ∧ PostX ⟨T.setVm vm₁, locs, cells, slots⟩ argsL.toArray q B ∧
      Steps p.tables e below (T.setTop g) ((B.U.setTop { g with stack := rest }).pushFrame (.throwing q))) := by
  obtain ⟨mk, methM, cM, hnamed, hmethM, -, -, -, -, -, -, hsigM⟩ := Cond.codeWith_spec hcode
  have hstatic : methM.isStatic = true := Cond.static_spec hnamed hmethM hstat
  obtain ⟨kP, hkP, -⟩ := className_of_methodNamed hnamed
  have hinitP : kP.init = .initialized := Cond.initialized_spec (findClass_of_methodNamed hnamed) hkP hinit
  obtain ⟨vm₁, X₁, hstep₁⟩ := X.invokestatic hexec hown hlink hnamed hmethM hstatic hkP hinitP hy (g := g) hg (argsL := argsL) (rest := rest) (hlen _ hsigM) hstack hdg
  rcases hK m meth c ⟨T.setVm vm₁, locs, cells, slots⟩ { g with stack := rest } (.invokestatic index) mk argsL.toArray X₁ hg hsize hdg hW (X₁.named hnamed) (hpre vm₁ X₁.warmed) with ⟨v, B, X', hpost, hsteps⟩ | ⟨q, B, X', hpost, hsteps⟩
  · exact Or.inl ⟨v, vm₁, B, X₁.warmed, X', hpost, fun target h => hstep₁ _ fun acts => by rw [doInvoke_state]; exact hsteps.trans h⟩
  · exact Or.inr ⟨q, vm₁, B, X₁.warmed, X', hpost, hstep₁ _ fun acts => by rw [doInvoke_state]; exact hsteps⟩
theorem vx_callVW (X : Stand p l e R s m args below meth c T locs cells slots) (hexec : p.tables.exec = Jvm.exec) {own C : String} {index : Nat} {y : MethodName} {bytes : ByteArray} {maxL : Nat} {ret : Option FieldType} {hh : List (Nat × Nat × Nat × Nat)}
    (hown : s.vm.findClass own = some m.cls) (hlink : (Cond.methodLink own index y).before args s = true) (hinst : (Cond.instanceMethod y).before args s = true) (hsel : (Cond.selects C y y).before args s = true)
    (hcode : (Cond.codeWith y bytes maxL ret hh).before args s = true) (hy : y.cls ≠ "java/lang/invoke/MethodHandle" ∧ y.cls ≠ "java/lang/invoke/VarHandle")
    {W9 : Nat} {Pre : Pt → Array Value → Prop} {Post : Pt → Array Value → Option Value → Pt → Prop} (hK : Back l R p e below s args y 3 W9 Pre Post)
    {b : Addr} {cellB : Cell} (hcell : T.heap[b]? = some cellB) (hobj : cellB.vm.isStatics = false) (hcls : s.vm.findClass C = some cellB.cls)
    {g : JFrame} (hg : g.method = m) (hsize : g.locals.size = c.maxLocals) {argsL rest : List Value} (hlen : ∀ sig, parseMethodDescriptor y.desc = some sig → argsL.length = sig.parameters.length)
    (hstack : g.stack = argsL.reverse ++ .ref b :: rest) (hW : 2 * g.monitorRoom + (rest.map fun v => v.category).sum ≤ W9) (hdg : decode c.code g.pc = .ok (.invokevirtual index, 3))
    (hpre : ∀ vm₁, s.WarmedH vm₁ → Pre ⟨T.setVm vm₁, locs, cells, slots⟩ (Value.ref b :: argsL).toArray) :
    ∃ (v : Option Value) (vm₁ : Vm) (B : Pt), s.WarmedH vm₁ ∧ Stand p l e R s m args below meth c B.U B.locs B.cells B.slots ∧ Post ⟨T.setVm vm₁, locs, cells, slots⟩ (Value.ref b :: argsL).toArray v B ∧
      ∀ target, Steps p.tables e below (B.U.setTop { g with pc := g.pc + 3, stack := v.toList ++ rest }) target → Steps p.tables e below (T.setTop g) target := by
  obtain ⟨mk, methM, hnamed, hmethM, hstM, habM⟩ := Cond.instanceMethod_spec hinst
  obtain ⟨m8, methM', cM, hn8, hmethM', -, -, -, -, -, -, hsigM⟩ := Cond.codeWith_spec hcode
  cases Option.some.inj (hn8.symm.trans hnamed)
  cases hmethM.symm.trans hmethM'
  obtain ⟨c2, r2, m2, q1, q2, q3, q4, kP, hkP, hkPi⟩ := Cond.selects_spec hsel
  cases hcls.symm.trans q1
  cases (State.methodFound?_of_named hnamed hy).symm.trans q2
  cases hnamed.symm.trans q3
  have hselP : selectMethod e.platform s.vm cellB.cls mk = .method mk := by rw [Launch.admits_selectMethod X.admits]; exact q4
  obtain ⟨vm₁, X₁, hstep₁⟩ := X.invokevirtual hexec hown hlink hnamed hmethM hstM hkP hkPi hy (a := b) (cell := cellB) hcell
    (fun z h => by rw [h] at hobj; cases hobj) hselP hmethM habM hkP hkPi (g := g) hg (argsL := argsL) (rest := rest) (hlen _ hsigM) hstack hdg
  obtain ⟨v, B, X', hpost, hsteps⟩ := hK m meth c ⟨T.setVm vm₁, locs, cells, slots⟩ { g with stack := rest } (.invokevirtual index) mk (Value.ref b :: argsL).toArray X₁ hg hsize hdg hW (X₁.named hnamed) (hpre vm₁ X₁.warmed)
  exact ⟨v, vm₁, B, X₁.warmed, X', hpost, fun target h => hstep₁ _ fun acts => by rw [doInvoke_state]; exact hsteps.trans h⟩
abbrev vx_CVW (R : Room) (s : State) (args : Array Value) (own C : String) (index : Nat) (y : MethodName) (bytes : ByteArray) (maxL : Nat) (ret : Option FieldType) (hh : List (Nat × Nat × Nat × Nat)) (ws : List Cond) (rm : Room) (mc ms n : Nat) : Prop :=
  (rm.cells = mc ∧ rm.slots = ms ∧ rm.frames + 1 ≤ R.frames ∧ 8 + (maxL + 11) + rm.locals ≤ R.locals ∧ (∀ w ∈ ws, ∀ (a' : Array Value) (U : State), s.WarmedH U.vm → w.before a' U = true) ∧ Cond.codeWith y bytes maxL ret hh ∈ ws) ∧
  (Cond.codeWith y bytes maxL ret hh).before args s = true ∧ (Cond.initialized y.cls).before args s = true ∧ (y.cls ≠ "java/lang/invoke/MethodHandle" ∧ y.cls ≠ "java/lang/invoke/VarHandle") ∧
  (∀ sig, parseMethodDescriptor y.desc = some sig → n = sig.parameters.length) ∧ (Cond.methodLink own index y).before args s = true ∧ (Cond.instanceMethod y).before args s = true ∧ (Cond.selects C y y).before args s = true
theorem vx_cwVW {own C : String} {index maxL mc ms : Nat} {y : MethodName} {bytes : ByteArray} {ret : Option FieldType} {hh : List (Nat × Nat × Nat × Nat)} {Ts ws ws' : List Cond} {rm : Room} (n : Nat) (ht : ∀ w ∈ Ts, w.before args s = true) (hT : GoodIn Ts (wsV own index C y ws)) (hw : ws = Cond.codeWith y bytes maxL ret hh :: ws') (hrc : rm.cells = mc) (hrs : rm.slots = ms)
    (hd : y.cls = C ∧ y.cls ≠ "java/lang/invoke/MethodHandle" ∧ y.cls ≠ "java/lang/invoke/VarHandle" ∧ (parseMethodDescriptor y.desc).map (fun d => d.parameters.length) = some n) (hR : rm.frames + 1 ≤ R.frames ∧ 8 + (maxL + 11) + rm.locals ≤ R.locals) :
    vx_CVW R s args own C index y bytes maxL ret hh ws rm mc ms n := by
  obtain ⟨hC, hd⟩ := hd
  subst hC
  have ok : ∀ w ∈ wsV own index y.cls y ws, w.before args s = true := fun w h => ht w (hT w h).1
  have hG : GoodIn Ts ws := fun w h => hT w (by unfold wsV; exact List.mem_append_right _ h)
  have hc : Cond.codeWith y bytes maxL ret hh ∈ ws := by rw [hw]; exact List.mem_cons_self
  refine ⟨⟨hrc, hrs, hR.1, hR.2, pay_in ht hG, hc⟩, ht _ (hG _ hc).1, ok _ (by simp [wsV]), ⟨hd.1, hd.2.1⟩, fun sig h => ?_, ok _ (by simp [wsV]), ok _ (by simp [wsV]), ok _ (by simp [wsV])⟩
  have h2 := hd.2.2
  rw [h] at h2
  exact (Option.some.inj h2).symm
theorem vx_runVW {y : MethodName} {bytes cc : ByteArray} {maxL nL mc ms n index : Nat} {ret : Option FieldType} {hh : List (Nat × Nat × Nat × Nat)} {ws : List Cond} {rm : Room} {Pc : Array Value → State → Prop} {Qc : Array Value → State → Outcome → State → Prop} {free : Addr → Prop} {Ts : List Cond} {own C : String} {b : Addr} {As rest : List Value} {g : JFrame}
    (S : CallFix p m c cc nL s args Ts own) (hM : Met l y ws rm Pc Qc mc ms free) (cw : vx_CVW R s args own C index y bytes maxL ret hh ws rm mc ms n) (hp : PreV s H C b Pc As)
    (hg : g.method = m) (hn : As.length = n) (hsize : g.locals.size = nL) (hstack : g.stack = As.reverse ++ .ref b :: rest) (hW : 2 * g.monitorRoom + (rest.map fun v => v.category).sum ≤ 8) (hdg : decode cc g.pc = .ok (.invokevirtual index, 3)) (hf : cells + mc ≤ R.cells ∧ slots + ms ≤ R.slots) :
    va_Run p l e R s m args below meth c H locs cells slots mc ms g rest (Qc (Value.ref b :: As).toArray) free := by
  obtain ⟨⟨hrc, hrs, hfr, hlo, hws, hcw⟩, hcode, hini, hy, hlen, hl, hin, hse⟩ := cw
  have hK : Back l R p e below s args y 3 8 (PreOf R mc ms Pc) (PostOf Qc mc ms free) := va_backW (hh := hh) (bytes := bytes) (maxL := maxL) (ret := ret) hM hp.1 hrc hrs hfr hlo hws hcw (fun a' U hW => word_at hW (Or.inl (by first | rfl | simp [Cond.onTables, Cond.keeps, Cond.steady])) hini)
  obtain ⟨hx, hb, hml, ho, -⟩ := S
  obtain ⟨-, ⟨cellB, hcB, hoB, hclB⟩, hPc⟩ := hp
  intro T hT X
  obtain ⟨v, vm₁, ⟨U', l2, c2, s2⟩, hW₁, X', ⟨g', mk, t, L, e1, e2, hq, h1, hL, h2, h3⟩, st⟩ := vx_callVW X hx (C := C) (hh := hh) (bytes := bytes) (maxL := maxL) (ret := ret) ho hl hin hse hcode hy hK (by rw [hT]; exact hcB) hoB hclB hg (hsize.trans hml.symm) (argsL := As) (rest := rest) (fun sig h => hn.trans (hlen sig h)) hstack hW (by rw [hb]; exact hdg)
    (fun vm₁ hW₁ => ⟨hf.1, hf.2, hPc (T.setVm vm₁) hT hW₁⟩)
  dsimp only [Pt.U, Pt.locs, Pt.cells, Pt.slots] at X' e1 e2 h1 h2 h3 st
  subst h1; subst h2; subst h3
  exact ⟨v, (T.setVm vm₁).calling g' mk (Value.ref b :: As).toArray, t, U', L, hT, X', hL, e1, e2, hq, st⟩
section
variable {y : MethodName} {bytes cc : ByteArray} {maxL nL mc ms n index : Nat} {ret : Option FieldType} {ws : List Cond} {rm : Room} {Pc : Array Value → State → Prop} {Qc : Array Value → State → Outcome → State → Prop} {XC : String → State → State → Prop} {free : Addr → Prop} {Ts : List Cond} {own C : String} {b : Addr} {As rest : List Value} {g : JFrame}
theorem vx_runVX {hh : List (Nat × Nat × Nat × Nat)} (S : CallFix p m c cc nL s args Ts own) (hM : vx_Met l y ws rm Pc Qc XC mc ms free) (cw : vx_CVW R s args own C index y bytes maxL ret hh ws rm mc ms n) (hp : PreV s H C b Pc As)
    (hg : g.method = m) (hn : As.length = n) (hsize : g.locals.size = nL) (hstack : g.stack = As.reverse ++ .ref b :: rest) (hW : 2 * g.monitorRoom + (rest.map fun v => v.category).sum ≤ 8) (hdg : decode cc g.pc = .ok (.invokevirtual index, 3)) (hf : cells + mc ≤ R.cells ∧ slots + ms ≤ R.slots) :
    vx_Run p l e R s m args below meth c H locs cells slots mc ms g rest (Qc (Value.ref b :: As).toArray) XC free := by
  obtain ⟨⟨hrc, hrs, hfr, hlo, hws, hcw⟩, hcode, hini, hy, hlen, hl, hin, hse⟩ := cw
  have hK : vx_Back l R p e below s args y 3 8 (PreOf R mc ms Pc) (PostOf Qc mc ms free) (vx_Post XC mc ms free) := vx_backW (hh := hh) (bytes := bytes) (maxL := maxL) (ret := ret) hM hp.1 hrc hrs hfr hlo hws hcw (fun a' U hW => word_at hW (Or.inl (by first | rfl | simp [Cond.onTables, Cond.keeps, Cond.steady])) hini)
  obtain ⟨hx, hb, hml, ho, -⟩ := S
  obtain ⟨-, ⟨cellB, hcB, hoB, hclB⟩, hPc⟩ := hp
  intro T hT X
  rcases vx_callVX X hx (C := C) (hh := hh) (bytes := bytes) (maxL := maxL) (ret := ret) ho hl hin hse hcode hy hK (by rw [hT]; exact hcB) hoB hclB hg (hsize.trans hml.symm) (argsL := As) (rest := rest) (fun sig h => hn.trans (hlen sig h)) hstack hW (by rw [hb]; exact hdg)
    (fun vm₁ hW₁ => ⟨hf.1, hf.2, hPc (T.setVm vm₁) hT hW₁⟩) with ⟨v, vm₁, ⟨U', l2, c2, s2⟩, hW₁, X', ⟨g', mk, t, L, e1, e2, hq, h1, hL, h2, h3⟩, st⟩ | ⟨q, vm₁, ⟨U', l2, c2, s2⟩, hW₁, X', ⟨g', mk, t, L, E, ce, e1, e2, hq, hce, hcv, hcl, h1, hL, h2, h3⟩, st⟩
  · dsimp only [Pt.U, Pt.locs, Pt.cells, Pt.slots] at X' e1 e2 h1 h2 h3 st
    subst h1; subst h2; subst h3
    exact Or.inl ⟨v, (T.setVm vm₁).calling g' mk (Value.ref b :: As).toArray, t, U', L, hT, X', hL, e1, e2, hq, st⟩
  · dsimp only [Pt.U, Pt.locs, Pt.cells, Pt.slots] at X' e1 e2 h1 h2 h3 st hcl
    subst h1; subst h2; subst h3
    exact Or.inr ⟨q, (T.setVm vm₁).calling g' mk (Value.ref b :: As).toArray, t, U', L, E, ce, hT, X', hL, e1, e2, hq, hce, hcv, vx_cls hW₁ hcl, st⟩
theorem vx_runSX {hh : List (Nat × Nat × Nat × Nat)} (S : CallFix p m c cc nL s args Ts own) (hM : vx_Met l y ws rm Pc Qc XC mc ms free) (cw : vx_CSW R s args own index y bytes maxL ret hh ws rm mc ms n) (hp : PreS s H Pc As)
    (hg : g.method = m) (hn : As.length = n) (hsize : g.locals.size = nL) (hstack : g.stack = As.reverse ++ rest) (hW : 2 * g.monitorRoom + (rest.map fun v => v.category).sum ≤ 8) (hdg : decode cc g.pc = .ok (.invokestatic index, 3)) (hf : cells + mc ≤ R.cells ∧ slots + ms ≤ R.slots) :
    vx_Run p l e R s m args below meth c H locs cells slots mc ms g rest (Qc As.toArray) XC free := by
  obtain ⟨⟨hrc, hrs, hfr, hlo, hws, hcw⟩, hcode, hini, hy, hlen, hl, hstt⟩ := cw
  have hK : vx_Back l R p e below s args y 3 8 (PreOf R mc ms Pc) (PostOf Qc mc ms free) (vx_Post XC mc ms free) := vx_backW (hh := hh) (bytes := bytes) (maxL := maxL) (ret := ret) hM hp.1 hrc hrs hfr hlo hws hcw (fun a' U hW => word_at hW (Or.inl (by first | rfl | simp [Cond.onTables, Cond.keeps, Cond.steady])) hini)
  obtain ⟨hx, hb, hml, ho, -⟩ := S
  intro T hT X
  rcases vx_callSX X hx (hh := hh) (bytes := bytes) (maxL := maxL) (ret := ret) ho hl hstt hini hcode hy hK hg (hsize.trans hml.symm) (argsL := As) (rest := rest) (fun sig h => hn.trans (hlen sig h)) hstack hW (by rw [hb]; exact hdg)
    (fun vm₁ hW₁ => ⟨hf.1, hf.2, hp.2 (T.setVm vm₁) hT hW₁⟩) with ⟨v, vm₁, ⟨U', l2, c2, s2⟩, hW₁, X', ⟨g', mk, t, L, e1, e2, hq, h1, hL, h2, h3⟩, st⟩ | ⟨q, vm₁, ⟨U', l2, c2, s2⟩, hW₁, X', ⟨g', mk, t, L, E, ce, e1, e2, hq, hce, hcv, hcl, h1, hL, h2, h3⟩, st⟩
  · dsimp only [Pt.U, Pt.locs, Pt.cells, Pt.slots] at X' e1 e2 h1 h2 h3 st
    subst h1; subst h2; subst h3
    exact Or.inl ⟨v, (T.setVm vm₁).calling g' mk As.toArray, t, U', L, hT, X', hL, e1, e2, hq, st⟩
  · dsimp only [Pt.U, Pt.locs, Pt.cells, Pt.slots] at X' e1 e2 h1 h2 h3 st hcl
    subst h1; subst h2; subst h3
    exact Or.inr ⟨q, (T.setVm vm₁).calling g' mk As.toArray, t, U', L, E, ce, hT, X', hL, e1, e2, hq, hce, hcv, vx_cls hW₁ hcl, st⟩
end
end VXH
theorem vx_ofWH {l : Launch} {y : MethodName} {ws ws' : List Cond} {rm : Room} {Pc : Array Value → State → Prop} {Qc : Array Value → State → Outcome → State → Prop} {XC : String → State → State → Prop} {mc ms : Nat} {free : Addr → Prop} {cc : ByteArray} {maxL : Nat} {ret : Option FieldType} {hh : List (Nat × Nat × Nat × Nat)}
    (hy : plainName y.cls = true) (hw : ws = Cond.codeWith y cc maxL ret hh :: ws')
    (body : ∀ p e s m args below meth c s₁, BodyLoose p l y (headSpec ws rm) cc maxL ret e s m args below meth c s₁ → c.maxLocals = maxL → Pc args s →
      W p l e (headSpec ws rm).room s m args below meth c s.heap [] 0 0 (vx_MQ below Qc XC args s mc ms free) (entryFrame m args maxL)) : vx_Met l y ws rm Pc Qc XC mc ms free := by
  refine MetFree.of_bodyS (code := cc) (maxLocals := maxL) (ret := ret) hy ?_ ?_
  · intro args s m h hn
    obtain ⟨m9, meth, c, hn9, h1, h2, h3, h4, -, h5, h6, -⟩ := Cond.codeWith_spec (atoms_spec (ws := ws) h _ (by rw [hw]; exact List.mem_cons_self))
    cases hn.symm.trans hn9
    exact ⟨meth, c, h1, h2, h3, h4, h5, h6⟩
  · intro p e s m args below meth c s₁ B hml hP _
    have hh0 : s₁.heap = s.heap := by rw [B.state]; rfl
    obtain ⟨t, a1, o, b1, b2, b3⟩ := body p e s m args below meth c s₁ B hml hP s₁ hh0 (Stand.of_body B)
    exact ⟨t, o, a1, b1, b2, b3⟩
/-! ===== END ===== -/
/-! ===== BEGIN what the machine throws by itself, no traces kept ===== -/
section VXM
set_option maxHeartbeats 1000000 in
/-- the machine throws cls with the message text, no traces kept: from its note over the frame g to 'throwing' over the same frame (follows the proofs of Stand.vmThrowsMessage, Shelf/KitTracedVmS.lean, and Stand.throwsMessageColdBareV, StandMessageColdV.lean, without the step out of the frame) -/
theorem vx_vmAt {p : Program} {l : Launch} {e : Env} {R : Room} {s : State} {m₀ : MethodId} {args : Array Value} {below : List Frame} {meth : Method} {c : Code} {W : State} {locs : List Loc} {cells slots : Nat}
    (X : Stand p l e R s m₀ args below meth c W locs cells slots) (hexec : p.tables.exec = Jvm.exec) (htr : e.platform.stackTraces = false) {cls : String} {names : List String} {text : String}
    (hcls : Bundle.fit cls = true) (hnames : ∀ n ∈ names, Bundle.fit n = true) (hsoe : (cls == "java/lang/StackOverflowError") = false) (hoom : (cls == "java/lang/OutOfMemoryError") = false)
    (h : ∀ a ∈ Bundle.messageArmAtoms cls names, a.before args s = true)
    (hlocs : ∀ x ∈ locs, ∀ cell, s.heap[x.base]? = some cell → cell.vm.isStatics = false)
    (htext : (text == notModelled) = false) (hlimit : ¬ (stringBytes (stringToUtf16 text)).size > e.platform.arrayLengthLimit) (hheap : ¬ (stringBytes (stringToUtf16 text)).size * componentBytes .byte > e.platform.maxHeapBytes)
    {g : JFrame} (hg : g.method = m₀) (hsize : g.locals.size = c.maxLocals)
    (hRframes : names.length + 4 < R.frames) (hRlocals : 2 * g.monitorRoom + (g.stack.map fun v => v.category).sum + 10240 ≤ R.locals) (hshort : 13 * names.length + 55 ≤ 10240)
    (hRcells : cells + 3 ≤ R.cells) (hRslots : slots + ((stringBytes (stringToUtf16 text)).size + 4 + 6) ≤ R.slots) (hlocks : meth.locks = false) :
    ∃ (S : State) (q : Addr) (ce : Cell), (∀ target, Steps p.tables e below ((S.setTop g).pushFrame (.throwing q)) target → Steps p.tables e below ((W.setTop g).pushFrame (.throwNew cls (some text) none)) target) ∧
      Stand p l e R s m₀ args below meth c S locs (cells + 3) (slots + ((stringBytes (stringToUtf16 text)).size + 4 + 6)) ∧ S.heap[q]? = some ce ∧ s.vm.findClass cls = some ce.cls ∧ ce.vm = .none := by
  have howns : e.platform.frameOwnsMonitors = true := by rw [X.admits.platform]
  have hfin : e.platform.finalization = false := by rw [X.admits.platform]
  have hpl : e.platform.magicAccessors = ({} : Platform).magicAccessors := by rw [X.admits.platform]
  have a : ∀ x, x ∈ Bundle.messageArmAtoms cls names → x.holds args s none s [] = true := fun x hx => h x hx
  obtain ⟨T, Z0, L, -, Y⟩ := ThrowableC.of_atoms (args := args) howns hfin hpl (fun x hx => h x (by simp [Bundle.messageArmAtoms, hx]))
  obtain ⟨Z, M, LZ, LM, hnZ⟩ := Init0T.ofS_atoms (args := args) hpl L Y (fun x hx => h x (by simp [Bundle.messageArmAtoms, hx]))
  obtain ⟨P1, Ps, hlen, L1, hL, hP1m, hlink1, hlink⟩ := Bundle.chainS (args := args) hpl hnZ names cls hcls hnames (fun x hx => h x (by simp [Bundle.messageArmAtoms, hx]))
  obtain ⟨Zs, LZs, hn4, hfitv, hfitc⟩ := StringT.of_atoms (args := args) (fun x hx => h x (by simp [Bundle.messageArmAtoms, hx]))
  have hfound : s.vm.findClass cls = some P1.m.cls := findClass_of_methodNamed hP1m
  obtain ⟨c1, kX, hc1, hk, hord, -, -, hn6⟩ := Cond.instantiable_spec (a (.instantiable cls 6) (by simp [Bundle.messageArmAtoms]))
  cases Option.some.inj (hc1.symm.trans hfound)
  have hinit := Cond.initialized_spec hfound hk (a (.initialized cls) (by simp [Bundle.messageArmAtoms]))
  have hctor : kX.findMethod "<init>" "(Ljava/lang/String;)V" = some P1.m.idx := findMethod_of_methodNamed hP1m hk
  have hsel0 : selectMethod e.platform s.vm P1.m.cls T.fill0 = .method T.fill0 := by
    obtain ⟨c2, r2, m2, q1, q2, q3, q4, -⟩ := Cond.selects_spec (a (.selects cls Bundle.tFill0 Bundle.tFill0) (by simp [Bundle.messageArmAtoms]))
    cases Option.some.inj (q1.symm.trans hfound)
    cases Option.some.inj (q2.symm.trans (State.methodFound?_of_named Y.fill0 (by decide)))
    cases Option.some.inj (q3.symm.trans Y.fill0)
    rw [Launch.admits_selectMethod X.admits]; exact q4
  have hselF : selectMethod e.platform s.vm P1.m.cls T.fill = .method T.fill := by
    obtain ⟨c2, r2, m2, q1, q2, q3, q4, -⟩ := Cond.selects_spec (a (.selects cls Bundle.tFill Bundle.tFill) (by simp [Bundle.messageArmAtoms]))
    cases Option.some.inj (q1.symm.trans hfound)
    cases Option.some.inj (q2.symm.trans (State.methodFound?_of_named Y.fill (by decide)))
    cases Option.some.inj (q3.symm.trans Y.fill)
    rw [Launch.admits_selectMethod X.admits]; exact q4
  obtain ⟨cellS0, hcS0, hiss⟩ := Y.statics
  obtain ⟨u0, hu0⟩ := Cond.staticRefV Y.unassigned L.unassignedStatic L.statics hcS0 hiss (a (.isRef (.static Bundle.tN "UNASSIGNED_STACK" Bundle.steD)) (by simp [Bundle.messageArmAtoms]))
  obtain ⟨sen, hsen⟩ := Cond.staticRefV Y.sentinel L.sentinelStatic L.statics hcS0 hiss (a (.isRef (.static Bundle.tN "SUPPRESSED_SENTINEL" Bundle.listD)) (by simp [Bundle.messageArmAtoms]))
  obtain ⟨ci198, i198, fB, hk198, hg198, ha198, hsB, -, hnB, htB, hffB⟩ := Cond.ownField (t := .object "java/lang/Object") Y.found L.cls (by decide +kernel) (a (.fieldLink Bundle.tN 198 Bundle.tN "backtrace" "Ljava/lang/Object;") (by simp [Bundle.messageArmAtoms])) (a (.lays Bundle.tN Bundle.tN "backtrace" "Ljava/lang/Object;") (by simp [Bundle.messageArmAtoms])) e.platform hpl
  obtain ⟨cellS, hcS', heS, -, hkeep⟩ := X.same.2.2.2.2.2 T.aS cellS0 hcS0
  have hcellS : W.heap[T.aS]? = some cellS := hcS'
  have hout' : ∀ i, (⟨T.aS, i⟩ : Loc) ∉ locs := fun i hmem => by
    have := hlocs _ hmem cellS0 hcS0
    rw [hiss] at this; cases this
  have hknownS : cellS.vm ≠ .unknown := by
    rw [heS]; intro hu
    rw [show cellS0.vm = .unknown from hu] at hiss
    cases hiss
  have hvU : cellS.slots[T.fUnassigned.slot]? = some u0.v := by rw [hkeep _ (hout' _)]; exact hu0
  have hvSen : cellS.slots[T.fSentinel.slot]? = some sen.v := by rw [hkeep _ (hout' _)]; exact hsen
  obtain ⟨iM, hffM⟩ := Y.msg
  obtain ⟨tyC, dC, hdC, hdnC⟩ := Cond.laysAt hfound hk Y.cause (a (.lays cls Bundle.tN "cause" "Ljava/lang/Throwable;") (by simp [Bundle.messageArmAtoms]))
  obtain ⟨tyS, dS, hdS, hdnS⟩ := Cond.laysAt hfound hk Y.stack (a (.lays cls Bundle.tN "stackTrace" Bundle.steD) (by simp [Bundle.messageArmAtoms]))
  obtain ⟨tyP, dP, hdP, hdnP⟩ := Cond.laysAt hfound hk Y.supp (a (.lays cls Bundle.tN "suppressedExceptions" Bundle.listD) (by simp [Bundle.messageArmAtoms]))
  obtain ⟨tyM, dM, hdM, hdnM⟩ := Cond.laysAt hfound hk hffM (a (.lays cls Bundle.tN "detailMessage" "Ljava/lang/String;") (by simp [Bundle.messageArmAtoms]))
  obtain ⟨tyB, dB, hdB, hdnB⟩ := Cond.laysAt hfound hk hffB (a (.lays cls Bundle.tN "backtrace" "Ljava/lang/Object;") (by simp [Bundle.messageArmAtoms]))
  have bC := Cond.laysApart hdB hdC hdnB hdnC (by rw [hnB, Y.causeName]; decide)
  have bS := Cond.laysApart hdB hdS hdnB hdnS (by rw [hnB, Y.stackName]; decide)
  have bP := Cond.laysApart hdB hdP hdnB hdnP (by rw [hnB, Y.suppName]; decide)
  have hbk : ((preparedCellV T.toThrowableT (freshCell P1.m.cls kX) (W.heap.size + 2) u0 sen).withEntry W.cur).slots[fB.slot]? = some .null := by
    have := fresh_default (c := P1.m.cls) tyB
    rw [htB] at this
    simpa [preparedCellV, Cell.setSlot, Cell.withEntry, Array.getElem?_setIfInBounds, bC, bS, bP, bC.symm, bS.symm, bP.symm, defaultValue] using this
  have tkC := Takes.of_laid (v := .ref (W.heap.size + 2)) hk hord tyC (by rw [Y.causeType]; rfl)
  have tkS := Takes.of_laid (v := u0.v) hk hord tyS (by rw [Y.stackType]; exact fits_refV_array _ u0)
  have tkP := Takes.of_laid (v := sen.v) hk hord tyP (by rw [Y.suppType]; exact fits_refV_object _ sen)
  have tkM := Takes.of_laid (v := .ref (W.heap.size + 1)) hk hord tyM (by rw [Y.msgType]; rfl)
  have hskip : SkipFacts T e.platform s (fun u => u) u0 ((preparedCellV T.toThrowableT (freshCell P1.m.cls kX) (W.heap.size + 2) u0 sen).withEntry W.cur) := ⟨{ ci198 := ci198, i198 := i198, fBack := fB }, ⟨hk198, hg198, ha198, hsB⟩, hbk, fun _ _ => rfl⟩
  have h0 : At W g.method c below := by rw [hg]; exact X.here
  obtain ⟨hbeyond, hfreeW⟩ := X.vmMayThrow hsize (.throwNew cls (some text) none) (fun f hf => by cases hf) rfl hRlocals
  have hfr' : W.frames.length + Ps.length + 4 < (e.platform.stackLimits W.me).1 := by have := X.framesAbove hRframes; omega
  have hwd' : (stackUse (.java g :: W.frames.tail)).2 + 13 * Ps.length + 55 ≤ (e.platform.stackLimits W.me).2 := by have := X.stackAbove hsize (K := 13 * Ps.length + 55) (by omega); omega
  have hslots : W.slotsUsed + (stringBytes (stringToUtf16 text)).size + Zs.kS.instanceTypes.size + kX.instanceTypes.size ≤ e.platform.maxSlots := by
    have := X.slotsAbove hRslots
    rw [hn4, hn6]
    omega
  obtain ⟨vm', hW', st⟩ := Steps.vmThrowsMessageColdByV p (s₀ := s) (S := W) (g := g) h0 hexec T L Z LZ M LM X.warmed (t := W.cur) rfl Zs LZs P1 L1 Ps hL hlink1 hlink hsoe hoom hfound hk hinit hord hctor
    (Launch.admits_hotImplicitExceptions X.admits) hbeyond hfreeW htext hlimit hheap (X.cellsAbove hRcells) hslots (hfitv _) (hfitc _)
    (Nn := fun u => u) heapOnly_id (fun _ _ => rfl) (fun _ => rfl) (fun u x y => setCell_twice _ _ _ _) (fun _ => Nat.le_refl _) (cN := ((preparedCellV T.toThrowableT (freshCell P1.m.cls kX) (W.heap.size + 2) u0 sen).withEntry W.cur))
    hsel0 hcellS hknownS hvU tkS (fun _ hu => hu) (fun _ hu => hu) rfl rfl rfl (by simp [preparedCellV, Cell.setSlot, Cell.withEntry]) hskip (fun _ _ hA hW _ hroom _ hrest => L.nativeOff p htr hA hW hroom hrest) hselF hvSen tkC tkP tkM Y.objLocals rfl hfr' hwd'
  rw [plainBareV_eq T.toThrowableT (W.heap.size + 2) u0 sen (.ref (W.heap.size + 1)) W.cur rfl rfl] at st
  obtain ⟨-, -, w3, w4, -, -, -⟩ := withThrown_facts e.platform W Zs text P1.m.cls kX
  have X3 := ((X.pushed (bytesOf Zs.cB (stringToUtf16 text))).pushed (stringAt Zs.cS Zs.kS Zs.fv Zs.fc (stringToUtf16 text) W.heap.size)).pushed (freshCell P1.m.cls kX)
  rw [← withString_eq] at X3
  have X4 := X3.noted hW'
  have ha : (W.heap.size + 2) < ((withThrown W Zs text P1.m.cls kX).setVm vm').heap.size := by show _ < (withThrown W Zs text P1.m.cls kX).heap.size; rw [w3]; omega
  have hcell : ((withThrown W Zs text P1.m.cls kX).setVm vm').heap[(W.heap.size + 2)]? = some (freshCell P1.m.cls kX) := w4
  have X5 := ((((X4.stored hcell T.fCause.slot (.ref (W.heap.size + 2))).storedAgain ha T.fStack.slot u0.v).storedAgain ha T.fSupp.slot sen.v).storedAgain ha T.fStack.slot u0.v).storedAgain ha T.fMsg.slot (.ref (W.heap.size + 1))
  obtain ⟨g₁, hfrM⟩ := X5.frames_eq
  have hU : ((((withThrown W Zs text P1.m.cls kX).setVm vm').setCell (W.heap.size + 2) (plainBareV T.toThrowableT (freshCell P1.m.cls kX) (W.heap.size + 2) u0 sen (.ref (W.heap.size + 1)))).setTop g).pushFrame (.throwing (W.heap.size + 2)) = (((withThrown W Zs text P1.m.cls kX).setVm vm').setCell (W.heap.size + 2) (plainBareV T.toThrowableT (freshCell P1.m.cls kX) (W.heap.size + 2) u0 sen (.ref (W.heap.size + 1)))).setFrames (.throwing (W.heap.size + 2) :: .java g :: below) := by
    rw [State.pushFrame, State.frames_setTop _ hfrM, State.setTop_of_frames _ hfrM, State.setFrames_setFrames]
  have b1 : (bytesOf Zs.cB (stringToUtf16 text)).slots.size = (stringBytes (stringToUtf16 text)).size := by
    rw [(Cell.writeAll_facts _ _).2.2]; simp [bytes0]
  have b2 : (stringAt Zs.cS Zs.kS Zs.fv Zs.fc (stringToUtf16 text) W.heap.size).slots.size = 4 := by simp [string0, Cell.setSlot, hn4]
  have b3 : (freshCell P1.m.cls kX).slots.size = 6 := by simp [hn6]
  rw [b1, b2, b3] at X5
  have e9 : slots + (stringBytes (stringToUtf16 text)).size + 4 + 6 = slots + ((stringBytes (stringToUtf16 text)).size + 4 + 6) := by omega
  rw [e9] at X5
  simp only [List.append_assoc, List.cons_append, List.nil_append] at X5
  refine ⟨((withThrown W Zs text P1.m.cls kX).setVm vm').setCell (W.heap.size + 2) (plainBareV T.toThrowableT (freshCell P1.m.cls kX) (W.heap.size + 2) u0 sen (.ref (W.heap.size + 1))), W.heap.size + 2, _, fun target ht => st _ (by rw [X.tail, ← hU]; exact ht),
    X5.forget (fun y hy => ?_), heapAt_setCell_self _ ha, hfound, rfl⟩
  simp only [List.mem_cons, List.not_mem_nil, or_false] at hy
  have hge : s.heap.size ≤ W.heap.size := X.same.2.1
  rcases hy with rfl | rfl | rfl | rfl | rfl <;> exact Nat.le_trans hge (Nat.le_add_right _ 2)
set_option maxHeartbeats 1000000 in
/-- the machine throws NullPointerException, no traces kept: from its note over the frame g to 'throwing' over the same frame (follows the proof of Stand.vmThrowsNpe, Shelf42/KT2.lean; throwsNpeColdBareVAt, Shelf42/NT91.lean, called) -/
theorem vx_npeAt {p : Program} {l : Launch} {e : Env} {R : Room} {s : State} {m₀ : MethodId} {args : Array Value} {below : List Frame} {meth : Method} {c : Code} {W : State} {locs : List Loc} {cells slots : Nat}
    (X : Stand p l e R s m₀ args below meth c W locs cells slots) (hexec : p.tables.exec = Jvm.exec) (htr : e.platform.stackTraces = false) {n : Nat}
    (h : ∀ a ∈ Bundle.npeArmAtoms n, a.before args s = true)
    (hlocs : ∀ x ∈ locs, ∀ cell, s.heap[x.base]? = some cell → cell.vm.isStatics = false)
    {g : JFrame} (hg : g.method = m₀) (hsize : g.locals.size = c.maxLocals)
    (hRframes : 7 < R.frames) (hRlocals : 2 * g.monitorRoom + (g.stack.map fun v => v.category).sum + 10240 ≤ R.locals)
    (hRcells : cells + 1 ≤ R.cells) (hRslots : slots + n ≤ R.slots) (hlocks : meth.locks = false) :
    ∃ (S : State) (q : Addr) (ce : Cell), (∀ target, Steps p.tables e below ((S.setTop g).pushFrame (.throwing q)) target → Steps p.tables e below ((W.setTop g).pushFrame (.throwNew "java/lang/NullPointerException" none none)) target) ∧
      Stand p l e R s m₀ args below meth c S locs (cells + 1) (slots + n) ∧ S.heap[q]? = some ce ∧ s.vm.findClass "java/lang/NullPointerException" = some ce.cls ∧ ce.vm = .none := by
  have howns : e.platform.frameOwnsMonitors = true := by rw [X.admits.platform]
  have hfin : e.platform.finalization = false := by rw [X.admits.platform]
  have hpl : e.platform.magicAccessors = ({} : Platform).magicAccessors := by rw [X.admits.platform]
  have hpl2 : e.platform.arrayCloneIsPublic = true := by rw [X.admits.platform]
  have a' : ∀ x, x ∈ Bundle.npeArmAtoms n → x.holds args s none s [] = true := fun x hx => h x hx
  obtain ⟨T, Z, L, LZ, Y⟩ := ThrowableC.of_atoms (args := args) howns hfin hpl (fun x hx => h x (by simp [Bundle.npeArmAtoms, hx]))
  obtain ⟨N, LN, hcN, hnNF, hordN, hffS⟩ := NpeC.of_atoms (args := args) hpl hpl2 L Y (fun x hx => h x (by simp [Bundle.npeArmAtoms, hx]))
  obtain ⟨P1, L1, hP1m, hP1s⟩ := PassC.of_atoms (args := args) (s := s) hpl (X := Bundle.nN) (Y := Bundle.rN) (by decide) (by decide) LibCode.NullPointerException.Init0.at_0 LibCode.NullPointerException.Init0.at_1 LibCode.NullPointerException.Init0.at_4 (fun x hx => h x (by simp [Bundle.npeArmAtoms, hx]))
  obtain ⟨PR, LR, hPRm, hPRs⟩ := PassC.of_atoms (args := args) (s := s) hpl (X := Bundle.rN) (Y := Bundle.eN) (by decide) (by decide) LibCode.RuntimeException.Init0.at_0 LibCode.RuntimeException.Init0.at_1 LibCode.RuntimeException.Init0.at_4 (fun x hx => h x (by simp [Bundle.npeArmAtoms, hx]))
  obtain ⟨PE, LEx, hPEm, hPEs⟩ := PassC.of_atoms (args := args) (s := s) hpl (X := Bundle.eN) (Y := Bundle.tN) (by decide) (by decide) LibCode.Exception.Init0.at_0 LibCode.Exception.Init0.at_1 LibCode.Exception.Init0.at_4 (fun x hx => h x (by simp [Bundle.npeArmAtoms, hx]))
  have hfound : s.vm.findClass Bundle.nN = some P1.m.cls := findClass_of_methodNamed hP1m
  have ecls : N.cN = P1.m.cls := Option.some.inj (hcN.symm.trans hfound)
  have hk : s.vm.classes[P1.m.cls]? = some N.kN := by rw [← ecls]; exact LN.cls
  have hinit := Cond.initialized_spec hfound hk (a' (.initialized Bundle.nN) (by simp [Bundle.npeArmAtoms]))
  have hctor : N.kN.findMethod "<init>" "()V" = some P1.m.idx := findMethod_of_methodNamed hP1m hk
  obtain ⟨c1, k1, hc1, hk1, -, -, -, hn⟩ := Cond.instantiable_spec (a' (.instantiable Bundle.nN n) (by simp [Bundle.npeArmAtoms]))
  cases Option.some.inj (hc1.symm.trans hfound)
  cases Option.some.inj (hk1.symm.trans hk)
  have hfsz : (freshCell P1.m.cls N.kN).slots.size = n := by simp [hn]
  have hlink1 : P1.sup = PR.m := Option.some.inj (hP1s.symm.trans hPRm)
  have hlinkR : PR.sup = PE.m := Option.some.inj (hPRs.symm.trans hPEm)
  have hlinkE : PE.sup = Z.m T.toThrowableT := Option.some.inj (hPEs.symm.trans Y.init0)
  have hLs : ∀ P, P ∈ [PR, PE] → P.Links0 e.platform s := fun P hP => by
    simp only [List.mem_cons, List.not_mem_nil, or_false] at hP
    rcases hP with rfl | rfl
    · exact LR
    · exact LEx
  have hsel0 : selectMethod e.platform s.vm P1.m.cls T.fill0 = .method T.fill0 := by
    obtain ⟨c2, r2, m2, q1, q2, q3, q4, -⟩ := Cond.selects_spec (a' (.selects Bundle.nN Bundle.tFill0 Bundle.tFill0) (by simp [Bundle.npeArmAtoms]))
    cases Option.some.inj (q1.symm.trans hfound)
    cases Option.some.inj (q2.symm.trans (State.methodFound?_of_named Y.fill0 (by decide)))
    cases Option.some.inj (q3.symm.trans Y.fill0)
    rw [Launch.admits_selectMethod X.admits]; exact q4
  have hselF : selectMethod e.platform s.vm P1.m.cls T.fill = .method N.fill := by
    obtain ⟨c2, r2, m2, q1, q2, q3, q4, -⟩ := Cond.selects_spec (a' (.selects Bundle.nN Bundle.tFill Bundle.nFill) (by simp [Bundle.npeArmAtoms]))
    cases Option.some.inj (q1.symm.trans hfound)
    cases Option.some.inj (q2.symm.trans (State.methodFound?_of_named Y.fill (by decide)))
    cases Option.some.inj (q3.symm.trans hnNF)
    rw [Launch.admits_selectMethod X.admits]; exact q4
  obtain ⟨cellS0, hcS0, hiss⟩ := Y.statics
  obtain ⟨u0, hu0⟩ := Cond.staticRefV Y.unassigned L.unassignedStatic L.statics hcS0 hiss (a' (.isRef (.static Bundle.tN "UNASSIGNED_STACK" Bundle.steD)) (by simp [Bundle.npeArmAtoms]))
  obtain ⟨sen, hsen⟩ := Cond.staticRefV Y.sentinel L.sentinelStatic L.statics hcS0 hiss (a' (.isRef (.static Bundle.tN "SUPPRESSED_SENTINEL" Bundle.listD)) (by simp [Bundle.npeArmAtoms]))
  obtain ⟨ci198, i198, fB, hk198, hg198, ha198, hsB, -, hnB, htB, hffB⟩ := Cond.ownField (t := .object "java/lang/Object") Y.found L.cls (by decide +kernel) (a' (.fieldLink Bundle.tN 198 Bundle.tN "backtrace" Bundle.objD) (by simp [Bundle.npeArmAtoms])) (a' (.lays Bundle.tN Bundle.tN "backtrace" Bundle.objD) (by simp [Bundle.npeArmAtoms])) e.platform hpl
  obtain ⟨cellS, hcS', heS, -, hkeep⟩ := X.same.2.2.2.2.2 T.aS cellS0 hcS0
  have hcellS : W.heap[T.aS]? = some cellS := hcS'
  have hout' : ∀ i, (⟨T.aS, i⟩ : Loc) ∉ locs := fun i hmem => by
    have := hlocs _ hmem cellS0 hcS0
    rw [hiss] at this; cases this
  have hknownS : cellS.vm ≠ .unknown := by
    rw [heS]; intro hu
    rw [show cellS0.vm = .unknown from hu] at hiss
    cases hiss
  have hvU : cellS.slots[T.fUnassigned.slot]? = some u0.v := by rw [hkeep _ (hout' _)]; exact hu0
  have hvSen : cellS.slots[T.fSentinel.slot]? = some sen.v := by rw [hkeep _ (hout' _)]; exact hsen
  obtain ⟨tyC, dC, hdC, hdnC⟩ := Cond.laysAt hfound hk Y.cause (a' (.lays Bundle.nN Bundle.tN "cause" "Ljava/lang/Throwable;") (by simp [Bundle.npeArmAtoms]))
  obtain ⟨tyS, dS, hdS, hdnS⟩ := Cond.laysAt hfound hk Y.stack (a' (.lays Bundle.nN Bundle.tN "stackTrace" Bundle.steD) (by simp [Bundle.npeArmAtoms]))
  obtain ⟨tyP, dP, hdP, hdnP⟩ := Cond.laysAt hfound hk Y.supp (a' (.lays Bundle.nN Bundle.tN "suppressedExceptions" Bundle.listD) (by simp [Bundle.npeArmAtoms]))
  obtain ⟨tyX, dX, hdX, hdnX⟩ := Cond.laysAt hfound hk hffS (a' (.lays Bundle.nN Bundle.nN "extendedMessageState" "I") (by simp [Bundle.npeArmAtoms, Bundle.npeAtoms]))
  obtain ⟨hnX, htX⟩ := State.fieldFound?_type hffS (t := .int) (by decide +kernel)
  have xC := Cond.laysApart hdC hdX hdnC hdnX (by rw [hnX, Y.causeName]; decide)
  have xS := Cond.laysApart hdS hdX hdnS hdnX (by rw [hnX, Y.stackName]; decide)
  have xP := Cond.laysApart hdP hdX hdnP hdnX (by rw [hnX, Y.suppName]; decide)
  have hv0 : (freshCell P1.m.cls N.kN).slots[N.fState.slot]? = some (.int 0) := by
    have := fresh_default (c := P1.m.cls) tyX
    rw [htX] at this; exact this
  obtain ⟨tyB, dB, hdB, hdnB⟩ := Cond.laysAt hfound hk hffB (a' (.lays Bundle.nN Bundle.tN "backtrace" Bundle.objD) (by simp [Bundle.npeArmAtoms]))
  have bC := Cond.laysApart hdB hdC hdnB hdnC (by rw [hnB, Y.causeName]; decide)
  have bS := Cond.laysApart hdB hdS hdnB hdnS (by rw [hnB, Y.stackName]; decide)
  have bP := Cond.laysApart hdB hdP hdnB hdnP (by rw [hnB, Y.suppName]; decide)
  have bX := Cond.laysApart hdB hdX hdnB hdnX (by rw [hnB, hnX]; decide)
  have hbk : ((npeCell N.toNpeT (preparedCellV T.toThrowableT (freshCell P1.m.cls N.kN) W.heap.size u0 sen) W.cur).withEntry W.cur).slots[fB.slot]? = some .null := by
    have := fresh_default (c := P1.m.cls) tyB
    rw [htB] at this
    simpa [npeCell, preparedCellV, Cell.setSlot, Cell.withEntry, Array.getElem?_setIfInBounds, bC, bS, bP, bX, bC.symm, bS.symm, bP.symm, bX.symm, defaultValue] using this
  have tkC := Takes.of_laid (v := .ref W.heap.size) hk hordN tyC (by rw [Y.causeType]; rfl)
  have tkS := Takes.of_laid (v := u0.v) hk hordN tyS (by rw [Y.stackType]; exact fits_refV_array _ u0)
  have tkP := Takes.of_laid (v := sen.v) hk hordN tyP (by rw [Y.suppType]; exact fits_refV_object _ sen)
  have tkX := Takes.of_laid (v := .int 1) hk hordN tyX (by rw [htX]; rfl)
  have hskip : SkipFacts T e.platform s (fun u => u) u0 ((npeCell N.toNpeT (preparedCellV T.toThrowableT (freshCell P1.m.cls N.kN) W.heap.size u0 sen) W.cur).withEntry W.cur) := ⟨{ ci198 := ci198, i198 := i198, fBack := fB }, ⟨hk198, hg198, ha198, hsB⟩, hbk, fun _ _ => rfl⟩
  obtain ⟨vm', X3, st, -⟩ := X.throwsNpeColdBareVAt hexec hg hsize T L Z LZ N LN P1 L1 [PR, PE] hLs hlink1 ⟨hlinkR, hlinkE, trivial⟩ hfound hk hinit hordN hctor hsel0 hselF hcellS hknownS hvU hvSen
    hv0 xC xS xP tkC tkS tkP tkX Y.objLocals hskip (fun _ _ hA hW _ hroom _ hrest => L.nativeOff p htr hA hW hroom hrest) (by simpa using hRframes) hRlocals (by simp) hRcells (by rw [hn]; exact hRslots)
  have hlt : W.heap.size < ((W.pushCell (freshCell P1.m.cls N.kN)).setVm vm').heap.size := by
    show W.heap.size < (W.pushCell (freshCell P1.m.cls N.kN)).heap.size
    rw [State.heap_size_pushCell]; omega
  rw [hfsz] at X3
  obtain ⟨g₁, hfrM⟩ := X3.frames_eq
  have hU : ((((W.pushCell (freshCell P1.m.cls N.kN)).setVm vm').setCell W.heap.size (npeBareV T.toThrowableT N.toNpeT (freshCell P1.m.cls N.kN) W.heap.size u0 sen)).setTop g).pushFrame (.throwing W.heap.size) = (((W.pushCell (freshCell P1.m.cls N.kN)).setVm vm').setCell W.heap.size (npeBareV T.toThrowableT N.toNpeT (freshCell P1.m.cls N.kN) W.heap.size u0 sen)).setFrames (.throwing W.heap.size :: .java g :: below) := by
    rw [State.pushFrame, State.frames_setTop _ hfrM, State.setTop_of_frames _ hfrM, State.setFrames_setFrames]
  refine ⟨_, W.heap.size, _, fun target ht => st.trans (by rw [← hU]; exact ht), X3.forget (fun y hy => ?_), heapAt_setCell_self _ hlt, hfound, rfl⟩
  simp only [List.mem_cons, List.not_mem_nil, or_false] at hy
  have hge : s.heap.size ≤ W.heap.size := X.same.2.1
  rcases hy with rfl | rfl | rfl | rfl | rfl <;> exact hge
/-- the words of a machine's NullPointerException, but the four that speak of the heap -/
def vx_atN (n : Nat) : List Cond := (Bundle.npeArmAtoms n).filter vx_no
/-- the words of a machine's throw with a message, but the four that speak of the heap -/
def vx_atM (X : String) (names : List String) : List Cond := (Bundle.messageArmAtoms X names).filter vx_no
section
variable {p : Program} {l : Launch} {e : Env} {R : Room} {s : State} {m : MethodId} {args : Array Value} {below : List Frame} {meth : Method} {c : Code} {H : Heap} {locs : List Loc} {cells slots : Nat}
/-- a frame seen from a rebased start, seen from the first start again -/
theorem vx_back9 {T S : State} {R' : Room} {k n : Nat} (X : Stand p l e R s m args below meth c T locs cells slots) (Y : Stand p l e R' ((T.setVm s.vm).setFrames (.invoking m args :: below)) m args below meth c T [] 0 0) (Z : Stand p l e R' ((T.setVm s.vm).setFrames (.invoking m args :: below)) m args below meth c S [] k n) :
    Stand p l e R s m args below meth c S locs (cells + k) (slots + n) := by
  have hW0 : s.WarmedH ((T.setVm s.vm).setFrames (.invoking m args :: below)).vm := State.WarmedH.refl s
  refine { admits := X.admits, cas := X.cas, clock := X.clock, frames := X.frames, room := X.room, hears := X.hears, method := X.method, code := X.code, here := Z.here, tail := Z.tail, warmed := State.WarmedH.trans hW0 Z.warmed, limits := Z.limits.trans (Y.limits.symm.trans X.limits), bytes := Z.bytes.trans (Y.bytes.symm.trans X.bytes), same := ?_ }
  obtain ⟨e1, e2⟩ := Z.same
  rw [State.setFrames_setFrames] at e1
  have h2 : (T.setVm s.vm).sameButNew (S.setVm s.vm) [] k n := ⟨e1, e2⟩
  have h3 := X.same.trans h2
  rw [List.append_nil] at h3
  exact h3
/-- from the machine's note that E is thrown here with this text -/
def vx_Note (p : Program) (l : Launch) (e : Env) (R : Room) (s : State) (m : MethodId) (args : Array Value) (below : List Frame) (meth : Method) (c : Code) (H : Heap) (locs : List Loc) (cells slots : Nat) (Q : State → Prop) (g : JFrame) (E text : String) : Prop :=
  ∀ T : State, T.heap = H → Stand p l e R s m args below meth c T locs cells slots → ∃ t, Steps p.tables e below ((T.setTop g).pushFrame (.throwNew E (some text) none)) t ∧ Q t
theorem vx_vm {pc : Nat} {ls : Array Slot} {rest : List Value} {Q : State → Prop} (hexec : p.tables.exec = Jvm.exec) (hl : l.stackTraces = false) {cls text : String} {names : List String} {nb : Nat} {A : Nat → Prop}
    (hcls : Bundle.fit cls = true) (hnames : ∀ n ∈ names, Bundle.fit n = true) (hsoe : (cls == "java/lang/StackOverflowError") = false) (hoom : (cls == "java/lang/OutOfMemoryError") = false)
    (hat : ∀ w ∈ vx_atM cls names, w.before args s = true) (hgood : ∀ w ∈ vx_atM cls names, vx_ot w = true)
    (hU : vx_Zq Bundle.tN "UNASSIGNED_STACK" Bundle.steD A s s.heap) (hN : vx_Zq Bundle.tN "SUPPRESSED_SENTINEL" Bundle.listD A s s.heap) (hS : va_S A s.heap H locs) (hsize : ls.size = c.maxLocals)
    (htext : (text == notModelled) = false) (hnb : (stringBytes (stringToUtf16 text)).size ≤ nb) (hnb1 : nb ≤ 1000)
    (hRframes : names.length + 4 < R.frames) (hRlocals : (rest.map fun v => v.category).sum + 10240 ≤ R.locals) (hshort : 13 * names.length + 55 ≤ 10240) (hRcells : cells + 3 ≤ R.cells) (hRslots : slots + (nb + 10) ≤ R.slots) (hlocks : meth.locks = false)
    (k : ∀ (H1 : Heap) (q9 : Addr) (ce : Cell), H.size ≤ H1.size → (∀ q : Nat, q < H.size → H1[q]? = H[q]?) → va_S A s.heap H1 locs → H1[q9]? = some ce → ce.vm = .none → s.vm.findClass cls = some ce.cls → vx_W p l e R s m args below meth c H1 locs (cells + 3) (slots + (nb + 10)) Q (F0 m pc ls rest) q9) :
    vx_Note p l e R s m args below meth c H locs cells slots Q (F0 m pc ls rest) cls text := by
  intro T hT X
  have htr : e.platform.stackTraces = false := (show e.platform.stackTraces = l.stackTraces by rw [X.admits.platform]).trans hl
  have Y := vx_rebase X (R' := { frames := R.frames, locals := R.locals, cells := 3, slots := nb + 10 }) (Nat.le_refl _) (Nat.le_refl _) hRcells hRslots
  have hhp : ((T.setVm s.vm).setFrames (.invoking m args :: below)).heap = H := hT
  have hW0 : s.WarmedH ((T.setVm s.vm).setFrames (.invoking m args :: below)).vm := State.WarmedH.refl s
  have hat' : ∀ w ∈ vx_atM cls names, w.before args ((T.setVm s.vm).setFrames (.invoking m args :: below)) = true := fun w hw => vx_ot_at hW0 rfl (hgood w hw) (hat w hw)
  have hU' : vx_Zq Bundle.tN "UNASSIGNED_STACK" Bundle.steD A ((T.setVm s.vm).setFrames (.invoking m args :: below)) ((T.setVm s.vm).setFrames (.invoking m args :: below)).heap := by rw [hhp]; exact vx_Zq.moved hW0.alike (hU.kept hS.2.1)
  have hN' : vx_Zq Bundle.tN "SUPPRESSED_SENTINEL" Bundle.listD A ((T.setVm s.vm).setFrames (.invoking m args :: below)) ((T.setVm s.vm).setFrames (.invoking m args :: below)).heap := by rw [hhp]; exact vx_Zq.moved hW0.alike (hN.kept hS.2.1)
  obtain ⟨S, q, ce, st, Z, hce, hcl', hv⟩ := vx_vmAt Y hexec htr (cls := cls) (names := names) (text := text) hcls hnames hsoe hoom (vx_own hat' (vx_isRefq hU'.1) (vx_isRefq hN'.1) hU'.2.word hN'.2.word) (fun x hx => nomatch hx) htext
    (by rw [Launch.admits_arrayLengthLimit X.admits]; omega) (by rw [Launch.admits_maxHeapBytes X.admits]; simp only [componentBytes]; omega)
    (g := F0 m pc ls rest) rfl hsize hRframes (by show 2 * 0 + (rest.map fun v => v.category).sum + 10240 ≤ R.locals; omega) hshort (by show 0 + 3 ≤ 3; omega) (by show 0 + (_ + 4 + 6) ≤ nb + 10; omega) hlocks
  obtain ⟨f1, f2⟩ := vx_frame Z.same
  have f1' : H.size ≤ S.heap.size := by rw [← hT]; exact f1
  have f2' : ∀ q : Nat, q < H.size → S.heap[q]? = H[q]? := fun q hq => by
    rw [← hT]
    exact f2 q (by rw [← hT] at hq; exact hq) (fun z hz => nomatch hz)
  have X5 := vx_back9 X Y Z
  have X6 : Stand p l e R s m args below meth c S locs (cells + 3) (slots + (nb + 10)) := { X5 with same := X5.same.mono (by omega) (by omega) }
  obtain ⟨t, a1, b1⟩ := k S.heap q ce f1' f2' ⟨Nat.le_trans hS.1 f1', fun q h1 h2 => (f2' q (Nat.lt_of_lt_of_le h1 hS.1)).trans (hS.2.1 q h1 h2), hS.2.2⟩ hce hv hcl' S rfl X6
  exact ⟨t, st t a1, b1⟩
/-- from the machine's note that NullPointerException is thrown here -/
def vx_NoteN (p : Program) (l : Launch) (e : Env) (R : Room) (s : State) (m : MethodId) (args : Array Value) (below : List Frame) (meth : Method) (c : Code) (H : Heap) (locs : List Loc) (cells slots : Nat) (Q : State → Prop) (g : JFrame) : Prop :=
  ∀ T : State, T.heap = H → Stand p l e R s m args below meth c T locs cells slots → ∃ t, Steps p.tables e below ((T.setTop g).pushFrame (.throwNew "java/lang/NullPointerException" none none)) t ∧ Q t
theorem vx_npe {pc : Nat} {ls : Array Slot} {rest : List Value} {Q : State → Prop} (hexec : p.tables.exec = Jvm.exec) (hl : l.stackTraces = false) {nb : Nat} {A : Nat → Prop}
    (hat : ∀ w ∈ vx_atN nb, w.before args s = true) (hgood : ∀ w ∈ vx_atN nb, vx_ot w = true)
    (hU : vx_Zq Bundle.tN "UNASSIGNED_STACK" Bundle.steD A s s.heap) (hN : vx_Zq Bundle.tN "SUPPRESSED_SENTINEL" Bundle.listD A s s.heap) (hS : va_S A s.heap H locs) (hsize : ls.size = c.maxLocals)
    (hRframes : 7 < R.frames) (hRlocals : (rest.map fun v => v.category).sum + 10240 ≤ R.locals) (hRcells : cells + 1 ≤ R.cells) (hRslots : slots + nb ≤ R.slots) (hlocks : meth.locks = false)
    (k : ∀ (H1 : Heap) (q9 : Addr) (ce : Cell), H.size ≤ H1.size → (∀ q : Nat, q < H.size → H1[q]? = H[q]?) → va_S A s.heap H1 locs → H1[q9]? = some ce → ce.vm = .none → s.vm.findClass "java/lang/NullPointerException" = some ce.cls → vx_W p l e R s m args below meth c H1 locs (cells + 1) (slots + nb) Q (F0 m pc ls rest) q9) :
    vx_NoteN p l e R s m args below meth c H locs cells slots Q (F0 m pc ls rest) := by
  intro T hT X
  have htr : e.platform.stackTraces = false := (show e.platform.stackTraces = l.stackTraces by rw [X.admits.platform]).trans hl
  have Y := vx_rebase X (R' := { frames := R.frames, locals := R.locals, cells := 1, slots := nb }) (Nat.le_refl _) (Nat.le_refl _) hRcells hRslots
  have hhp : ((T.setVm s.vm).setFrames (.invoking m args :: below)).heap = H := hT
  have hW0 : s.WarmedH ((T.setVm s.vm).setFrames (.invoking m args :: below)).vm := State.WarmedH.refl s
  have hat' : ∀ w ∈ vx_atN nb, w.before args ((T.setVm s.vm).setFrames (.invoking m args :: below)) = true := fun w hw => vx_ot_at hW0 rfl (hgood w hw) (hat w hw)
  have hU' : vx_Zq Bundle.tN "UNASSIGNED_STACK" Bundle.steD A ((T.setVm s.vm).setFrames (.invoking m args :: below)) ((T.setVm s.vm).setFrames (.invoking m args :: below)).heap := by rw [hhp]; exact vx_Zq.moved hW0.alike (hU.kept hS.2.1)
  have hN' : vx_Zq Bundle.tN "SUPPRESSED_SENTINEL" Bundle.listD A ((T.setVm s.vm).setFrames (.invoking m args :: below)) ((T.setVm s.vm).setFrames (.invoking m args :: below)).heap := by rw [hhp]; exact vx_Zq.moved hW0.alike (hN.kept hS.2.1)
  obtain ⟨S, q, ce, st, Z, hce, hcl', hv⟩ := vx_npeAt Y hexec htr (n := nb) (vx_own hat' (vx_isRefq hU'.1) (vx_isRefq hN'.1) hU'.2.word hN'.2.word) (fun x hx => nomatch hx)
    (g := F0 m pc ls rest) rfl hsize hRframes (by show 2 * 0 + (rest.map fun v => v.category).sum + 10240 ≤ R.locals; omega) (by show 0 + 1 ≤ 1; omega) (by show 0 + nb ≤ nb; omega) hlocks
  obtain ⟨f1, f2⟩ := vx_frame Z.same
  have f1' : H.size ≤ S.heap.size := by rw [← hT]; exact f1
  have f2' : ∀ q : Nat, q < H.size → S.heap[q]? = H[q]? := fun q hq => by
    rw [← hT]
    exact f2 q (by rw [← hT] at hq; exact hq) (fun z hz => nomatch hz)
  have X5 := vx_back9 X Y Z
  have X6 : Stand p l e R s m args below meth c S locs (cells + 1) (slots + nb) := { X5 with same := X5.same.mono (by omega) (by omega) }
  obtain ⟨t, a1, b1⟩ := k S.heap q ce f1' f2' ⟨Nat.le_trans hS.1 f1', fun q h1 h2 => (f2' q (Nat.lt_of_lt_of_le h1 hS.1)).trans (hS.2.1 q h1 h2), hS.2.2⟩ hce hv hcl' S rfl X6
  exact ⟨t, st t a1, b1⟩
variable {Q : State → Prop} {cc : ByteArray} {pc : Nat} {ls : Array Slot} {rest : List Value}
theorem vx_idivZ (hexec : p.tables.exec = Jvm.exec) (hb : c.code = cc) {a b : Int32} (h0 : b = 0) (d : decode cc pc = .ok (.idiv, 1)) (k : vx_Note p l e R s m args below meth c H locs cells slots Q (F0 m pc ls rest) "java/lang/ArithmeticException" "/ by zero") :
    W p l e R s m args below meth c H locs cells slots Q (F0 m pc ls (.int b :: .int a :: rest)) := by
  intro T hT X
  obtain ⟨t, st, q⟩ := k T hT X
  exact ⟨t, X.idivZero hexec (g := F0 m pc ls (.int b :: .int a :: rest)) rfl (a := a) (rest := rest) (by rw [h0]) (by rw [hb]; exact d) t st, q⟩
theorem vx_iremZ (hexec : p.tables.exec = Jvm.exec) (hb : c.code = cc) {a b : Int32} (h0 : b = 0) (d : decode cc pc = .ok (.irem, 1)) (k : vx_Note p l e R s m args below meth c H locs cells slots Q (F0 m pc ls rest) "java/lang/ArithmeticException" "/ by zero") :
    W p l e R s m args below meth c H locs cells slots Q (F0 m pc ls (.int b :: .int a :: rest)) := by
  intro T hT X
  obtain ⟨t, st, q⟩ := k T hT X
  exact ⟨t, X.iremZero hexec (g := F0 m pc ls (.int b :: .int a :: rest)) rfl (a := a) (rest := rest) (by rw [h0]) (by rw [hb]; exact d) t st, q⟩
theorem vx_ldivZ (hexec : p.tables.exec = Jvm.exec) (hb : c.code = cc) {a b : Int64} (h0 : b = 0) (d : decode cc pc = .ok (.ldiv, 1)) (k : vx_Note p l e R s m args below meth c H locs cells slots Q (F0 m pc ls rest) "java/lang/ArithmeticException" "/ by zero") :
    W p l e R s m args below meth c H locs cells slots Q (F0 m pc ls (.long b :: .long a :: rest)) := by
  intro T hT X
  obtain ⟨t, st, q⟩ := k T hT X
  exact ⟨t, X.ldivZero hexec (g := F0 m pc ls (.long b :: .long a :: rest)) rfl (a := a) (rest := rest) (by rw [h0]) (by rw [hb]; exact d) t st, q⟩
theorem vx_lremZ (hexec : p.tables.exec = Jvm.exec) (hb : c.code = cc) {a b : Int64} (h0 : b = 0) (d : decode cc pc = .ok (.lrem, 1)) (k : vx_Note p l e R s m args below meth c H locs cells slots Q (F0 m pc ls rest) "java/lang/ArithmeticException" "/ by zero") :
    W p l e R s m args below meth c H locs cells slots Q (F0 m pc ls (.long b :: .long a :: rest)) := by
  intro T hT X
  obtain ⟨t, st, q⟩ := k T hT X
  exact ⟨t, X.lremZero hexec (g := F0 m pc ls (.long b :: .long a :: rest)) rfl (a := a) (rest := rest) (by rw [h0]) (by rw [hb]; exact d) t st, q⟩
theorem vx_ialdZ {D : va_G} {cl : List vw_C} {ws : va_W} {tys : List (ClassId × FieldType)} {a : Nat} (hexec : p.tables.exec = Jvm.exec) (hb : c.code = cc) (hK : va_K D cl tys s) (hP : va_P D cl ws H) (q0 t0 : Nat) {cA : ClassId} {n : Nat} {f : Nat → Int32} (ha : ws[q0]? = some (a, .inl (cA, n, .inl f))) (ht : tys[t0]? = some (cA, .int)) {i : Int32} (hout : ¬ vp_in i n) (hdg : decode cc pc = .ok (.iaload, 1))
    (k : ∀ tx : String, tx = (toString "Index " ++ toString i ++ toString " out of bounds for length " ++ toString n : String) → vx_Note p l e R s m args below meth c H locs cells slots Q (F0 m pc ls rest) "java/lang/ArrayIndexOutOfBoundsException" tx) : W p l e R s m args below meth c H locs cells slots Q (F0 m pc ls (.int i :: .ref a :: rest)) := by
  intro T hT X
  obtain ⟨t, st, q⟩ := k _ rfl T hT X
  refine ⟨t, ?_, q⟩
  have h1 := X.ialoadOut hexec (by rw [hT]; exact hP q0 _ ha) ((hK.2 t0 _ ht).1 n (fun j => .int (f j))) (j := i) (by show (i < 0 ∨ (arrV _ _ _).slots.size ≤ _); rw [arrV_size]; exact Classical.byContradiction hout) (g := F0 m pc ls (.int i :: .ref a :: rest)) rfl (rest := rest) rfl (by rw [hb]; exact hdg) t
  simp only [arrV_size] at h1
  exact h1 st
theorem vx_iastZ {D : va_G} {cl : List vw_C} {ws : va_W} {tys : List (ClassId × FieldType)} {a : Nat} (hexec : p.tables.exec = Jvm.exec) (hb : c.code = cc) (hK : va_K D cl tys s) (hP : va_P D cl ws H) (q0 t0 : Nat) {cA : ClassId} {n : Nat} {f : Nat → Int32} (ha : ws[q0]? = some (a, .inl (cA, n, .inl f))) (ht : tys[t0]? = some (cA, .int)) {i : Int32} {x : Int32} (hout : ¬ vp_in i n) (hdg : decode cc pc = .ok (.iastore, 1))
    (k : ∀ tx : String, tx = (toString "Index " ++ toString i ++ toString " out of bounds for length " ++ toString n : String) → vx_Note p l e R s m args below meth c H locs cells slots Q (F0 m pc ls rest) "java/lang/ArrayIndexOutOfBoundsException" tx) : W p l e R s m args below meth c H locs cells slots Q (F0 m pc ls (.int x :: .int i :: .ref a :: rest)) := by
  intro T hT X
  obtain ⟨t, st, q⟩ := k _ rfl T hT X
  refine ⟨t, ?_, q⟩
  have h1 := X.iastoreOut hexec (by rw [hT]; exact hP q0 _ ha) ((hK.2 t0 _ ht).1 n (fun j => .int (f j))) (j := i) (by show (i < 0 ∨ (arrV _ _ _).slots.size ≤ _); rw [arrV_size]; exact Classical.byContradiction hout) (g := F0 m pc ls (.int x :: .int i :: .ref a :: rest)) rfl (rest := rest) rfl (by rw [hb]; exact hdg) t
  simp only [arrV_size] at h1
  exact h1 st
theorem vx_baldZ {D : va_G} {cl : List vw_C} {ws : va_W} {tys : List (ClassId × FieldType)} {a : Nat} (hexec : p.tables.exec = Jvm.exec) (hb : c.code = cc) (hK : va_K D cl tys s) (hP : va_P D cl ws H) (q0 t0 : Nat) {cA : ClassId} {n : Nat} {f : Nat → Int32} (ha : ws[q0]? = some (a, .inl (cA, n, .inl f))) (ht : tys[t0]? = some (cA, .byte)) {i : Int32} (hout : ¬ vp_in i n) (hdg : decode cc pc = .ok (.baload, 1))
    (k : ∀ tx : String, tx = (toString "Index " ++ toString i ++ toString " out of bounds for length " ++ toString n : String) → vx_Note p l e R s m args below meth c H locs cells slots Q (F0 m pc ls rest) "java/lang/ArrayIndexOutOfBoundsException" tx) : W p l e R s m args below meth c H locs cells slots Q (F0 m pc ls (.int i :: .ref a :: rest)) := by
  intro T hT X
  obtain ⟨t, st, q⟩ := k _ rfl T hT X
  refine ⟨t, ?_, q⟩
  have h1 := X.baloadOut hexec (by rw [hT]; exact hP q0 _ ha) ((hK.2 t0 _ ht).1 n (fun j => .int (f j))) (j := i) (by show (i < 0 ∨ (arrV _ _ _).slots.size ≤ _); rw [arrV_size]; exact Classical.byContradiction hout) (g := F0 m pc ls (.int i :: .ref a :: rest)) rfl (rest := rest) rfl (by rw [hb]; exact hdg) t
  simp only [arrV_size] at h1
  exact h1 st
theorem vx_bastZ {D : va_G} {cl : List vw_C} {ws : va_W} {tys : List (ClassId × FieldType)} {a : Nat} (hexec : p.tables.exec = Jvm.exec) (hb : c.code = cc) (hK : va_K D cl tys s) (hP : va_P D cl ws H) (q0 t0 : Nat) {cA : ClassId} {n : Nat} {f : Nat → Int32} (ha : ws[q0]? = some (a, .inl (cA, n, .inl f))) (ht : tys[t0]? = some (cA, .byte)) {i : Int32} {x : Int32} (hout : ¬ vp_in i n) (hdg : decode cc pc = .ok (.bastore, 1))
    (k : ∀ tx : String, tx = (toString "Index " ++ toString i ++ toString " out of bounds for length " ++ toString n : String) → vx_Note p l e R s m args below meth c H locs cells slots Q (F0 m pc ls rest) "java/lang/ArrayIndexOutOfBoundsException" tx) : W p l e R s m args below meth c H locs cells slots Q (F0 m pc ls (.int x :: .int i :: .ref a :: rest)) := by
  intro T hT X
  obtain ⟨t, st, q⟩ := k _ rfl T hT X
  refine ⟨t, ?_, q⟩
  have h1 := X.bastoreOut hexec (by rw [hT]; exact hP q0 _ ha) ((hK.2 t0 _ ht).1 n (fun j => .int (f j))) (j := i) (by show (i < 0 ∨ (arrV _ _ _).slots.size ≤ _); rw [arrV_size]; exact Classical.byContradiction hout) (g := F0 m pc ls (.int x :: .int i :: .ref a :: rest)) rfl (rest := rest) rfl (by rw [hb]; exact hdg) t
  simp only [arrV_size] at h1
  exact h1 st
theorem vx_zaldZ {D : va_G} {cl : List vw_C} {ws : va_W} {tys : List (ClassId × FieldType)} {a : Nat} (hexec : p.tables.exec = Jvm.exec) (hb : c.code = cc) (hK : va_K D cl tys s) (hP : va_P D cl ws H) (q0 t0 : Nat) {cA : ClassId} {n : Nat} {f : Nat → Int32} (ha : ws[q0]? = some (a, .inl (cA, n, .inl f))) (ht : tys[t0]? = some (cA, .boolean)) {i : Int32} (hout : ¬ vp_in i n) (hdg : decode cc pc = .ok (.baload, 1))
    (k : ∀ tx : String, tx = (toString "Index " ++ toString i ++ toString " out of bounds for length " ++ toString n : String) → vx_Note p l e R s m args below meth c H locs cells slots Q (F0 m pc ls rest) "java/lang/ArrayIndexOutOfBoundsException" tx) : W p l e R s m args below meth c H locs cells slots Q (F0 m pc ls (.int i :: .ref a :: rest)) := by
  intro T hT X
  obtain ⟨t, st, q⟩ := k _ rfl T hT X
  refine ⟨t, ?_, q⟩
  have h1 := X.baloadOut hexec (by rw [hT]; exact hP q0 _ ha) ((hK.2 t0 _ ht).1 n (fun j => .int (f j))) (j := i) (by show (i < 0 ∨ (arrV _ _ _).slots.size ≤ _); rw [arrV_size]; exact Classical.byContradiction hout) (g := F0 m pc ls (.int i :: .ref a :: rest)) rfl (rest := rest) rfl (by rw [hb]; exact hdg) t
  simp only [arrV_size] at h1
  exact h1 st
theorem vx_zastZ {D : va_G} {cl : List vw_C} {ws : va_W} {tys : List (ClassId × FieldType)} {a : Nat} (hexec : p.tables.exec = Jvm.exec) (hb : c.code = cc) (hK : va_K D cl tys s) (hP : va_P D cl ws H) (q0 t0 : Nat) {cA : ClassId} {n : Nat} {f : Nat → Int32} (ha : ws[q0]? = some (a, .inl (cA, n, .inl f))) (ht : tys[t0]? = some (cA, .boolean)) {i : Int32} {x : Int32} (hout : ¬ vp_in i n) (hdg : decode cc pc = .ok (.bastore, 1))
    (k : ∀ tx : String, tx = (toString "Index " ++ toString i ++ toString " out of bounds for length " ++ toString n : String) → vx_Note p l e R s m args below meth c H locs cells slots Q (F0 m pc ls rest) "java/lang/ArrayIndexOutOfBoundsException" tx) : W p l e R s m args below meth c H locs cells slots Q (F0 m pc ls (.int x :: .int i :: .ref a :: rest)) := by
  intro T hT X
  obtain ⟨t, st, q⟩ := k _ rfl T hT X
  refine ⟨t, ?_, q⟩
  have h1 := X.bastoreOut hexec (by rw [hT]; exact hP q0 _ ha) ((hK.2 t0 _ ht).1 n (fun j => .int (f j))) (j := i) (by show (i < 0 ∨ (arrV _ _ _).slots.size ≤ _); rw [arrV_size]; exact Classical.byContradiction hout) (g := F0 m pc ls (.int x :: .int i :: .ref a :: rest)) rfl (rest := rest) rfl (by rw [hb]; exact hdg) t
  simp only [arrV_size] at h1
  exact h1 st
theorem vx_caldZ {D : va_G} {cl : List vw_C} {ws : va_W} {tys : List (ClassId × FieldType)} {a : Nat} (hexec : p.tables.exec = Jvm.exec) (hb : c.code = cc) (hK : va_K D cl tys s) (hP : va_P D cl ws H) (q0 t0 : Nat) {cA : ClassId} {n : Nat} {f : Nat → Int32} (ha : ws[q0]? = some (a, .inl (cA, n, .inl f))) (ht : tys[t0]? = some (cA, .char)) {i : Int32} (hout : ¬ vp_in i n) (hdg : decode cc pc = .ok (.caload, 1))
    (k : ∀ tx : String, tx = (toString "Index " ++ toString i ++ toString " out of bounds for length " ++ toString n : String) → vx_Note p l e R s m args below meth c H locs cells slots Q (F0 m pc ls rest) "java/lang/ArrayIndexOutOfBoundsException" tx) : W p l e R s m args below meth c H locs cells slots Q (F0 m pc ls (.int i :: .ref a :: rest)) := by
  intro T hT X
  obtain ⟨t, st, q⟩ := k _ rfl T hT X
  refine ⟨t, ?_, q⟩
  have h1 := X.caloadOut hexec (by rw [hT]; exact hP q0 _ ha) ((hK.2 t0 _ ht).1 n (fun j => .int (f j))) (j := i) (by show (i < 0 ∨ (arrV _ _ _).slots.size ≤ _); rw [arrV_size]; exact Classical.byContradiction hout) (g := F0 m pc ls (.int i :: .ref a :: rest)) rfl (rest := rest) rfl (by rw [hb]; exact hdg) t
  simp only [arrV_size] at h1
  exact h1 st
theorem vx_castZ {D : va_G} {cl : List vw_C} {ws : va_W} {tys : List (ClassId × FieldType)} {a : Nat} (hexec : p.tables.exec = Jvm.exec) (hb : c.code = cc) (hK : va_K D cl tys s) (hP : va_P D cl ws H) (q0 t0 : Nat) {cA : ClassId} {n : Nat} {f : Nat → Int32} (ha : ws[q0]? = some (a, .inl (cA, n, .inl f))) (ht : tys[t0]? = some (cA, .char)) {i : Int32} {x : Int32} (hout : ¬ vp_in i n) (hdg : decode cc pc = .ok (.castore, 1))
    (k : ∀ tx : String, tx = (toString "Index " ++ toString i ++ toString " out of bounds for length " ++ toString n : String) → vx_Note p l e R s m args below meth c H locs cells slots Q (F0 m pc ls rest) "java/lang/ArrayIndexOutOfBoundsException" tx) : W p l e R s m args below meth c H locs cells slots Q (F0 m pc ls (.int x :: .int i :: .ref a :: rest)) := by
  intro T hT X
  obtain ⟨t, st, q⟩ := k _ rfl T hT X
  refine ⟨t, ?_, q⟩
  have h1 := X.castoreOut hexec (by rw [hT]; exact hP q0 _ ha) ((hK.2 t0 _ ht).1 n (fun j => .int (f j))) (j := i) (by show (i < 0 ∨ (arrV _ _ _).slots.size ≤ _); rw [arrV_size]; exact Classical.byContradiction hout) (g := F0 m pc ls (.int x :: .int i :: .ref a :: rest)) rfl (rest := rest) rfl (by rw [hb]; exact hdg) t
  simp only [arrV_size] at h1
  exact h1 st
theorem vx_saldZ {D : va_G} {cl : List vw_C} {ws : va_W} {tys : List (ClassId × FieldType)} {a : Nat} (hexec : p.tables.exec = Jvm.exec) (hb : c.code = cc) (hK : va_K D cl tys s) (hP : va_P D cl ws H) (q0 t0 : Nat) {cA : ClassId} {n : Nat} {f : Nat → Int32} (ha : ws[q0]? = some (a, .inl (cA, n, .inl f))) (ht : tys[t0]? = some (cA, .short)) {i : Int32} (hout : ¬ vp_in i n) (hdg : decode cc pc = .ok (.saload, 1))
    (k : ∀ tx : String, tx = (toString "Index " ++ toString i ++ toString " out of bounds for length " ++ toString n : String) → vx_Note p l e R s m args below meth c H locs cells slots Q (F0 m pc ls rest) "java/lang/ArrayIndexOutOfBoundsException" tx) : W p l e R s m args below meth c H locs cells slots Q (F0 m pc ls (.int i :: .ref a :: rest)) := by
  intro T hT X
  obtain ⟨t, st, q⟩ := k _ rfl T hT X
  refine ⟨t, ?_, q⟩
  have h1 := X.saloadOut hexec (by rw [hT]; exact hP q0 _ ha) ((hK.2 t0 _ ht).1 n (fun j => .int (f j))) (j := i) (by show (i < 0 ∨ (arrV _ _ _).slots.size ≤ _); rw [arrV_size]; exact Classical.byContradiction hout) (g := F0 m pc ls (.int i :: .ref a :: rest)) rfl (rest := rest) rfl (by rw [hb]; exact hdg) t
  simp only [arrV_size] at h1
  exact h1 st
theorem vx_sastZ {D : va_G} {cl : List vw_C} {ws : va_W} {tys : List (ClassId × FieldType)} {a : Nat} (hexec : p.tables.exec = Jvm.exec) (hb : c.code = cc) (hK : va_K D cl tys s) (hP : va_P D cl ws H) (q0 t0 : Nat) {cA : ClassId} {n : Nat} {f : Nat → Int32} (ha : ws[q0]? = some (a, .inl (cA, n, .inl f))) (ht : tys[t0]? = some (cA, .short)) {i : Int32} {x : Int32} (hout : ¬ vp_in i n) (hdg : decode cc pc = .ok (.sastore, 1))
    (k : ∀ tx : String, tx = (toString "Index " ++ toString i ++ toString " out of bounds for length " ++ toString n : String) → vx_Note p l e R s m args below meth c H locs cells slots Q (F0 m pc ls rest) "java/lang/ArrayIndexOutOfBoundsException" tx) : W p l e R s m args below meth c H locs cells slots Q (F0 m pc ls (.int x :: .int i :: .ref a :: rest)) := by
  intro T hT X
  obtain ⟨t, st, q⟩ := k _ rfl T hT X
  refine ⟨t, ?_, q⟩
  have h1 := X.sastoreOut hexec (by rw [hT]; exact hP q0 _ ha) ((hK.2 t0 _ ht).1 n (fun j => .int (f j))) (j := i) (by show (i < 0 ∨ (arrV _ _ _).slots.size ≤ _); rw [arrV_size]; exact Classical.byContradiction hout) (g := F0 m pc ls (.int x :: .int i :: .ref a :: rest)) rfl (rest := rest) rfl (by rw [hb]; exact hdg) t
  simp only [arrV_size] at h1
  exact h1 st
theorem vx_laldZ {D : va_G} {cl : List vw_C} {ws : va_W} {tys : List (ClassId × FieldType)} {a : Nat} (hexec : p.tables.exec = Jvm.exec) (hb : c.code = cc) (hK : va_K D cl tys s) (hP : va_P D cl ws H) (q0 t0 : Nat) {cA : ClassId} {n : Nat} {f : Nat → Int64} (ha : ws[q0]? = some (a, .inl (cA, n, .inr (.inl f)))) (ht : tys[t0]? = some (cA, .long)) {i : Int32} (hout : ¬ vp_in i n) (hdg : decode cc pc = .ok (.laload, 1))
    (k : ∀ tx : String, tx = (toString "Index " ++ toString i ++ toString " out of bounds for length " ++ toString n : String) → vx_Note p l e R s m args below meth c H locs cells slots Q (F0 m pc ls rest) "java/lang/ArrayIndexOutOfBoundsException" tx) : W p l e R s m args below meth c H locs cells slots Q (F0 m pc ls (.int i :: .ref a :: rest)) := by
  intro T hT X
  obtain ⟨t, st, q⟩ := k _ rfl T hT X
  refine ⟨t, ?_, q⟩
  have h1 := X.laloadOut hexec (by rw [hT]; exact hP q0 _ ha) ((hK.2 t0 _ ht).1 n (fun j => .long (f j))) (j := i) (by show (i < 0 ∨ (arrV _ _ _).slots.size ≤ _); rw [arrV_size]; exact Classical.byContradiction hout) (g := F0 m pc ls (.int i :: .ref a :: rest)) rfl (rest := rest) rfl (by rw [hb]; exact hdg) t
  simp only [arrV_size] at h1
  exact h1 st
theorem vx_lastZ {D : va_G} {cl : List vw_C} {ws : va_W} {tys : List (ClassId × FieldType)} {a : Nat} (hexec : p.tables.exec = Jvm.exec) (hb : c.code = cc) (hK : va_K D cl tys s) (hP : va_P D cl ws H) (q0 t0 : Nat) {cA : ClassId} {n : Nat} {f : Nat → Int64} (ha : ws[q0]? = some (a, .inl (cA, n, .inr (.inl f)))) (ht : tys[t0]? = some (cA, .long)) {i : Int32} {x : Int64} (hout : ¬ vp_in i n) (hdg : decode cc pc = .ok (.lastore, 1))
    (k : ∀ tx : String, tx = (toString "Index " ++ toString i ++ toString " out of bounds for length " ++ toString n : String) → vx_Note p l e R s m args below meth c H locs cells slots Q (F0 m pc ls rest) "java/lang/ArrayIndexOutOfBoundsException" tx) : W p l e R s m args below meth c H locs cells slots Q (F0 m pc ls (.long x :: .int i :: .ref a :: rest)) := by
  intro T hT X
  obtain ⟨t, st, q⟩ := k _ rfl T hT X
  refine ⟨t, ?_, q⟩
  have h1 := X.lastoreOut hexec (by rw [hT]; exact hP q0 _ ha) ((hK.2 t0 _ ht).1 n (fun j => .long (f j))) (j := i) (by show (i < 0 ∨ (arrV _ _ _).slots.size ≤ _); rw [arrV_size]; exact Classical.byContradiction hout) (g := F0 m pc ls (.long x :: .int i :: .ref a :: rest)) rfl (rest := rest) rfl (by rw [hb]; exact hdg) t
  simp only [arrV_size] at h1
  exact h1 st
theorem vx_faldZ {D : va_G} {cl : List vw_C} {ws : va_W} {tys : List (ClassId × FieldType)} {a : Nat} (hexec : p.tables.exec = Jvm.exec) (hb : c.code = cc) (hK : va_K D cl tys s) (hP : va_P D cl ws H) (q0 t0 : Nat) {cA : ClassId} {n : Nat} {f : Nat → UInt32} (ha : ws[q0]? = some (a, .inl (cA, n, .inr (.inr (.inl f))))) (ht : tys[t0]? = some (cA, .float)) {i : Int32} (hout : ¬ vp_in i n) (hdg : decode cc pc = .ok (.faload, 1))
    (k : ∀ tx : String, tx = (toString "Index " ++ toString i ++ toString " out of bounds for length " ++ toString n : String) → vx_Note p l e R s m args below meth c H locs cells slots Q (F0 m pc ls rest) "java/lang/ArrayIndexOutOfBoundsException" tx) : W p l e R s m args below meth c H locs cells slots Q (F0 m pc ls (.int i :: .ref a :: rest)) := by
  intro T hT X
  obtain ⟨t, st, q⟩ := k _ rfl T hT X
  refine ⟨t, ?_, q⟩
  have h1 := X.faloadOut hexec (by rw [hT]; exact hP q0 _ ha) ((hK.2 t0 _ ht).1 n (fun j => .float (f j))) (j := i) (by show (i < 0 ∨ (arrV _ _ _).slots.size ≤ _); rw [arrV_size]; exact Classical.byContradiction hout) (g := F0 m pc ls (.int i :: .ref a :: rest)) rfl (rest := rest) rfl (by rw [hb]; exact hdg) t
  simp only [arrV_size] at h1
  exact h1 st
theorem vx_fastZ {D : va_G} {cl : List vw_C} {ws : va_W} {tys : List (ClassId × FieldType)} {a : Nat} (hexec : p.tables.exec = Jvm.exec) (hb : c.code = cc) (hK : va_K D cl tys s) (hP : va_P D cl ws H) (q0 t0 : Nat) {cA : ClassId} {n : Nat} {f : Nat → UInt32} (ha : ws[q0]? = some (a, .inl (cA, n, .inr (.inr (.inl f))))) (ht : tys[t0]? = some (cA, .float)) {i : Int32} {x : UInt32} (hout : ¬ vp_in i n) (hdg : decode cc pc = .ok (.fastore, 1))
    (k : ∀ tx : String, tx = (toString "Index " ++ toString i ++ toString " out of bounds for length " ++ toString n : String) → vx_Note p l e R s m args below meth c H locs cells slots Q (F0 m pc ls rest) "java/lang/ArrayIndexOutOfBoundsException" tx) : W p l e R s m args below meth c H locs cells slots Q (F0 m pc ls (.float x :: .int i :: .ref a :: rest)) := by
  intro T hT X
  obtain ⟨t, st, q⟩ := k _ rfl T hT X
  refine ⟨t, ?_, q⟩
  have h1 := X.fastoreOut hexec (by rw [hT]; exact hP q0 _ ha) ((hK.2 t0 _ ht).1 n (fun j => .float (f j))) (j := i) (by show (i < 0 ∨ (arrV _ _ _).slots.size ≤ _); rw [arrV_size]; exact Classical.byContradiction hout) (g := F0 m pc ls (.float x :: .int i :: .ref a :: rest)) rfl (rest := rest) rfl (by rw [hb]; exact hdg) t
  simp only [arrV_size] at h1
  exact h1 st
theorem vx_daldZ {D : va_G} {cl : List vw_C} {ws : va_W} {tys : List (ClassId × FieldType)} {a : Nat} (hexec : p.tables.exec = Jvm.exec) (hb : c.code = cc) (hK : va_K D cl tys s) (hP : va_P D cl ws H) (q0 t0 : Nat) {cA : ClassId} {n : Nat} {f : Nat → UInt64} (ha : ws[q0]? = some (a, .inl (cA, n, .inr (.inr (.inr (.inl f)))))) (ht : tys[t0]? = some (cA, .double)) {i : Int32} (hout : ¬ vp_in i n) (hdg : decode cc pc = .ok (.daload, 1))
    (k : ∀ tx : String, tx = (toString "Index " ++ toString i ++ toString " out of bounds for length " ++ toString n : String) → vx_Note p l e R s m args below meth c H locs cells slots Q (F0 m pc ls rest) "java/lang/ArrayIndexOutOfBoundsException" tx) : W p l e R s m args below meth c H locs cells slots Q (F0 m pc ls (.int i :: .ref a :: rest)) := by
  intro T hT X
  obtain ⟨t, st, q⟩ := k _ rfl T hT X
  refine ⟨t, ?_, q⟩
  have h1 := X.daloadOut hexec (by rw [hT]; exact hP q0 _ ha) ((hK.2 t0 _ ht).1 n (fun j => .double (f j))) (j := i) (by show (i < 0 ∨ (arrV _ _ _).slots.size ≤ _); rw [arrV_size]; exact Classical.byContradiction hout) (g := F0 m pc ls (.int i :: .ref a :: rest)) rfl (rest := rest) rfl (by rw [hb]; exact hdg) t
  simp only [arrV_size] at h1
  exact h1 st
theorem vx_dastZ {D : va_G} {cl : List vw_C} {ws : va_W} {tys : List (ClassId × FieldType)} {a : Nat} (hexec : p.tables.exec = Jvm.exec) (hb : c.code = cc) (hK : va_K D cl tys s) (hP : va_P D cl ws H) (q0 t0 : Nat) {cA : ClassId} {n : Nat} {f : Nat → UInt64} (ha : ws[q0]? = some (a, .inl (cA, n, .inr (.inr (.inr (.inl f)))))) (ht : tys[t0]? = some (cA, .double)) {i : Int32} {x : UInt64} (hout : ¬ vp_in i n) (hdg : decode cc pc = .ok (.dastore, 1))
    (k : ∀ tx : String, tx = (toString "Index " ++ toString i ++ toString " out of bounds for length " ++ toString n : String) → vx_Note p l e R s m args below meth c H locs cells slots Q (F0 m pc ls rest) "java/lang/ArrayIndexOutOfBoundsException" tx) : W p l e R s m args below meth c H locs cells slots Q (F0 m pc ls (.double x :: .int i :: .ref a :: rest)) := by
  intro T hT X
  obtain ⟨t, st, q⟩ := k _ rfl T hT X
  refine ⟨t, ?_, q⟩
  have h1 := X.dastoreOut hexec (by rw [hT]; exact hP q0 _ ha) ((hK.2 t0 _ ht).1 n (fun j => .double (f j))) (j := i) (by show (i < 0 ∨ (arrV _ _ _).slots.size ≤ _); rw [arrV_size]; exact Classical.byContradiction hout) (g := F0 m pc ls (.double x :: .int i :: .ref a :: rest)) rfl (rest := rest) rfl (by rw [hb]; exact hdg) t
  simp only [arrV_size] at h1
  exact h1 st
theorem vx_arraylengthN (hexec : p.tables.exec = Jvm.exec) (hb : c.code = cc) (hdg : decode cc pc = .ok (.arraylength, 1)) (k : vx_NoteN p l e R s m args below meth c H locs cells slots Q (F0 m pc ls rest)) : W p l e R s m args below meth c H locs cells slots Q (F0 m pc ls (.null :: rest)) := by
  intro T hT X
  obtain ⟨t, st, q⟩ := k T hT X
  exact ⟨t, X.arraylengthNull hexec (g := F0 m pc ls (.null :: rest)) rfl (rest := rest) rfl (by rw [hb]; exact hdg) t st, q⟩
theorem vx_ialoadN (hexec : p.tables.exec = Jvm.exec) (hb : c.code = cc) {i : Int32} (hdg : decode cc pc = .ok (.iaload, 1)) (k : vx_NoteN p l e R s m args below meth c H locs cells slots Q (F0 m pc ls rest)) : W p l e R s m args below meth c H locs cells slots Q (F0 m pc ls (.int i :: .null :: rest)) := by
  intro T hT X
  obtain ⟨t, st, q⟩ := k T hT X
  exact ⟨t, X.ialoadNull hexec (g := F0 m pc ls (.int i :: .null :: rest)) rfl (rest := rest) rfl (by rw [hb]; exact hdg) t st, q⟩
theorem vx_laloadN (hexec : p.tables.exec = Jvm.exec) (hb : c.code = cc) {i : Int32} (hdg : decode cc pc = .ok (.laload, 1)) (k : vx_NoteN p l e R s m args below meth c H locs cells slots Q (F0 m pc ls rest)) : W p l e R s m args below meth c H locs cells slots Q (F0 m pc ls (.int i :: .null :: rest)) := by
  intro T hT X
  obtain ⟨t, st, q⟩ := k T hT X
  exact ⟨t, X.laloadNull hexec (g := F0 m pc ls (.int i :: .null :: rest)) rfl (rest := rest) rfl (by rw [hb]; exact hdg) t st, q⟩
theorem vx_faloadN (hexec : p.tables.exec = Jvm.exec) (hb : c.code = cc) {i : Int32} (hdg : decode cc pc = .ok (.faload, 1)) (k : vx_NoteN p l e R s m args below meth c H locs cells slots Q (F0 m pc ls rest)) : W p l e R s m args below meth c H locs cells slots Q (F0 m pc ls (.int i :: .null :: rest)) := by
  intro T hT X
  obtain ⟨t, st, q⟩ := k T hT X
  exact ⟨t, X.faloadNull hexec (g := F0 m pc ls (.int i :: .null :: rest)) rfl (rest := rest) rfl (by rw [hb]; exact hdg) t st, q⟩
theorem vx_daloadN (hexec : p.tables.exec = Jvm.exec) (hb : c.code = cc) {i : Int32} (hdg : decode cc pc = .ok (.daload, 1)) (k : vx_NoteN p l e R s m args below meth c H locs cells slots Q (F0 m pc ls rest)) : W p l e R s m args below meth c H locs cells slots Q (F0 m pc ls (.int i :: .null :: rest)) := by
  intro T hT X
  obtain ⟨t, st, q⟩ := k T hT X
  exact ⟨t, X.daloadNull hexec (g := F0 m pc ls (.int i :: .null :: rest)) rfl (rest := rest) rfl (by rw [hb]; exact hdg) t st, q⟩
theorem vx_aaloadN (hexec : p.tables.exec = Jvm.exec) (hb : c.code = cc) {i : Int32} (hdg : decode cc pc = .ok (.aaload, 1)) (k : vx_NoteN p l e R s m args below meth c H locs cells slots Q (F0 m pc ls rest)) : W p l e R s m args below meth c H locs cells slots Q (F0 m pc ls (.int i :: .null :: rest)) := by
  intro T hT X
  obtain ⟨t, st, q⟩ := k T hT X
  exact ⟨t, X.aaloadNull hexec (g := F0 m pc ls (.int i :: .null :: rest)) rfl (rest := rest) rfl (by rw [hb]; exact hdg) t st, q⟩
theorem vx_baloadN (hexec : p.tables.exec = Jvm.exec) (hb : c.code = cc) {i : Int32} (hdg : decode cc pc = .ok (.baload, 1)) (k : vx_NoteN p l e R s m args below meth c H locs cells slots Q (F0 m pc ls rest)) : W p l e R s m args below meth c H locs cells slots Q (F0 m pc ls (.int i :: .null :: rest)) := by
  intro T hT X
  obtain ⟨t, st, q⟩ := k T hT X
  exact ⟨t, X.baloadNull hexec (g := F0 m pc ls (.int i :: .null :: rest)) rfl (rest := rest) rfl (by rw [hb]; exact hdg) t st, q⟩
theorem vx_caloadN (hexec : p.tables.exec = Jvm.exec) (hb : c.code = cc) {i : Int32} (hdg : decode cc pc = .ok (.caload, 1)) (k : vx_NoteN p l e R s m args below meth c H locs cells slots Q (F0 m pc ls rest)) : W p l e R s m args below meth c H locs cells slots Q (F0 m pc ls (.int i :: .null :: rest)) := by
  intro T hT X
  obtain ⟨t, st, q⟩ := k T hT X
  exact ⟨t, X.caloadNull hexec (g := F0 m pc ls (.int i :: .null :: rest)) rfl (rest := rest) rfl (by rw [hb]; exact hdg) t st, q⟩
theorem vx_saloadN (hexec : p.tables.exec = Jvm.exec) (hb : c.code = cc) {i : Int32} (hdg : decode cc pc = .ok (.saload, 1)) (k : vx_NoteN p l e R s m args below meth c H locs cells slots Q (F0 m pc ls rest)) : W p l e R s m args below meth c H locs cells slots Q (F0 m pc ls (.int i :: .null :: rest)) := by
  intro T hT X
  obtain ⟨t, st, q⟩ := k T hT X
  exact ⟨t, X.saloadNull hexec (g := F0 m pc ls (.int i :: .null :: rest)) rfl (rest := rest) rfl (by rw [hb]; exact hdg) t st, q⟩
theorem vx_iastoreN (hexec : p.tables.exec = Jvm.exec) (hb : c.code = cc) {x : Int32} {i : Int32} (hdg : decode cc pc = .ok (.iastore, 1)) (k : vx_NoteN p l e R s m args below meth c H locs cells slots Q (F0 m pc ls rest)) : W p l e R s m args below meth c H locs cells slots Q (F0 m pc ls (.int x :: .int i :: .null :: rest)) := by
  intro T hT X
  obtain ⟨t, st, q⟩ := k T hT X
  exact ⟨t, X.iastoreNull hexec (g := F0 m pc ls (.int x :: .int i :: .null :: rest)) rfl (rest := rest) rfl (by rw [hb]; exact hdg) t st, q⟩
theorem vx_lastoreN (hexec : p.tables.exec = Jvm.exec) (hb : c.code = cc) {x : Int64} {i : Int32} (hdg : decode cc pc = .ok (.lastore, 1)) (k : vx_NoteN p l e R s m args below meth c H locs cells slots Q (F0 m pc ls rest)) : W p l e R s m args below meth c H locs cells slots Q (F0 m pc ls (.long x :: .int i :: .null :: rest)) := by
  intro T hT X
  obtain ⟨t, st, q⟩ := k T hT X
  exact ⟨t, X.lastoreNull hexec (g := F0 m pc ls (.long x :: .int i :: .null :: rest)) rfl (rest := rest) rfl (by rw [hb]; exact hdg) t st, q⟩
theorem vx_fastoreN (hexec : p.tables.exec = Jvm.exec) (hb : c.code = cc) {x : UInt32} {i : Int32} (hdg : decode cc pc = .ok (.fastore, 1)) (k : vx_NoteN p l e R s m args below meth c H locs cells slots Q (F0 m pc ls rest)) : W p l e R s m args below meth c H locs cells slots Q (F0 m pc ls (.float x :: .int i :: .null :: rest)) := by
  intro T hT X
  obtain ⟨t, st, q⟩ := k T hT X
  exact ⟨t, X.fastoreNull hexec (g := F0 m pc ls (.float x :: .int i :: .null :: rest)) rfl (rest := rest) rfl (by rw [hb]; exact hdg) t st, q⟩
theorem vx_dastoreN (hexec : p.tables.exec = Jvm.exec) (hb : c.code = cc) {x : UInt64} {i : Int32} (hdg : decode cc pc = .ok (.dastore, 1)) (k : vx_NoteN p l e R s m args below meth c H locs cells slots Q (F0 m pc ls rest)) : W p l e R s m args below meth c H locs cells slots Q (F0 m pc ls (.double x :: .int i :: .null :: rest)) := by
  intro T hT X
  obtain ⟨t, st, q⟩ := k T hT X
  exact ⟨t, X.dastoreNull hexec (g := F0 m pc ls (.double x :: .int i :: .null :: rest)) rfl (rest := rest) rfl (by rw [hb]; exact hdg) t st, q⟩
theorem vx_bastoreN (hexec : p.tables.exec = Jvm.exec) (hb : c.code = cc) {x : Int32} {i : Int32} (hdg : decode cc pc = .ok (.bastore, 1)) (k : vx_NoteN p l e R s m args below meth c H locs cells slots Q (F0 m pc ls rest)) : W p l e R s m args below meth c H locs cells slots Q (F0 m pc ls (.int x :: .int i :: .null :: rest)) := by
  intro T hT X
  obtain ⟨t, st, q⟩ := k T hT X
  exact ⟨t, X.bastoreNull hexec (g := F0 m pc ls (.int x :: .int i :: .null :: rest)) rfl (rest := rest) rfl (by rw [hb]; exact hdg) t st, q⟩
theorem vx_castoreN (hexec : p.tables.exec = Jvm.exec) (hb : c.code = cc) {x : Int32} {i : Int32} (hdg : decode cc pc = .ok (.castore, 1)) (k : vx_NoteN p l e R s m args below meth c H locs cells slots Q (F0 m pc ls rest)) : W p l e R s m args below meth c H locs cells slots Q (F0 m pc ls (.int x :: .int i :: .null :: rest)) := by
  intro T hT X
  obtain ⟨t, st, q⟩ := k T hT X
  exact ⟨t, X.castoreNull hexec (g := F0 m pc ls (.int x :: .int i :: .null :: rest)) rfl (rest := rest) rfl (by rw [hb]; exact hdg) t st, q⟩
theorem vx_sastoreN (hexec : p.tables.exec = Jvm.exec) (hb : c.code = cc) {x : Int32} {i : Int32} (hdg : decode cc pc = .ok (.sastore, 1)) (k : vx_NoteN p l e R s m args below meth c H locs cells slots Q (F0 m pc ls rest)) : W p l e R s m args below meth c H locs cells slots Q (F0 m pc ls (.int x :: .int i :: .null :: rest)) := by
  intro T hT X
  obtain ⟨t, st, q⟩ := k T hT X
  exact ⟨t, X.sastoreNull hexec (g := F0 m pc ls (.int x :: .int i :: .null :: rest)) rfl (rest := rest) rfl (by rw [hb]; exact hdg) t st, q⟩
theorem vx_invokeN {own C : String} {index maxL : Nat} {y : MethodName} {bytes : ByteArray} {ret : Option FieldType} (hexec : p.tables.exec = Jvm.exec) (hb : c.code = cc) (hown : s.vm.findClass own = some m.cls) (hlink : (Cond.methodLink own index y).before args s = true) (hinst : (Cond.instanceMethod y).before args s = true) (hcode : (Cond.code y bytes maxL ret).before args s = true) (hsel : (Cond.selects C y y).before args s = true)
    (hx : y.cls ≠ "java/lang/invoke/MethodHandle" ∧ y.cls ≠ "java/lang/invoke/VarHandle") {As : List Value} (hlen : (parseMethodDescriptor y.desc).map (fun d => d.parameters.length) = some As.length) (hdg : decode cc pc = .ok (.invokevirtual index, 3))
    (k : vx_NoteN p l e R s m args below meth c H locs cells slots Q (F0 m pc ls rest)) {st0 : List Value} (hst : st0 = As.reverse ++ .null :: rest) : W p l e R s m args below meth c H locs cells slots Q (F0 m pc ls st0) := by
  intro T hT X
  obtain ⟨r0, r, hn, hrm, hstR, hsigR⟩ := va_Decl.of hinst hcode
  obtain ⟨c2, r2, m2, q1, q2, q3, q4, kP, hkP, hkPi⟩ := Cond.selects_spec hsel
  cases hn.symm.trans q3
  have hl9 : As.length = r.sig.parameters.length := by
    rw [hsigR] at hlen
    exact (Option.some.inj hlen).symm
  obtain ⟨vm', X1, st1⟩ := X.invokevirtualNull hexec hown hlink hn hrm hstR hkP hkPi hx (g := F0 m pc ls st0) rfl (argsL := As) (rest := rest) hl9 hst (by rw [hb]; exact hdg)
  obtain ⟨t, st, q⟩ := k (T.setVm vm') hT X1
  exact ⟨t, st1 t st, q⟩
theorem vx_newarrayZ {atype : ArrayType} (hexec : p.tables.exec = Jvm.exec) (hb : c.code = cc) {n : Int32} (h0 : n < 0) (hdg : decode cc pc = .ok (.newarray atype, 2)) (k : ∀ tx : String, tx = toString n → vx_Note p l e R s m args below meth c H locs cells slots Q (F0 m pc ls rest) "java/lang/NegativeArraySizeException" tx) : W p l e R s m args below meth c H locs cells slots Q (F0 m pc ls (.int n :: rest)) := by
  intro T hT X
  obtain ⟨t, st, q⟩ := k _ rfl T hT X
  exact ⟨t, X.newarrayNegative hexec (g := F0 m pc ls (.int n :: rest)) rfl h0 (rest := rest) rfl (by rw [hb]; exact hdg) t st, q⟩
end
end VXM
/-! ===== END ===== -/
/-! ===== BEGIN an exception as an object: made, kept, thrown later (no traces kept) ===== -/
section VXK
variable {p : Program} {l : Launch} {e : Env} {R : Room} {s : State} {m₀ : MethodId} {args : Array Value} {below : List Frame} {meth : Method} {c : Code} {W : State} {locs : List Loc} {cells slots : Nat}
set_option maxHeartbeats 1000000 in
theorem vx_ctorMadeS (X : Stand p l e R s m₀ args below meth c W locs cells slots) (hexec : p.tables.exec = Jvm.exec) (htr : e.platform.stackTraces = false) {own cls : String} {names : List String} {ic : Nat}
    (hown : s.vm.findClass own = some m₀.cls) (hcls : Bundle.fit cls = true) (hnames : ∀ n ∈ names, Bundle.fit n = true)
    (h : ∀ a ∈ Bundle.ownAtoms own ic cls names, a.before args s = true)
    (hlocs : ∀ x ∈ locs, ∀ cell, s.heap[x.base]? = some cell → cell.vm.isStatics = false)
    {a : Addr} {cX : ClassId} {kX : Class} (hfoundX : s.vm.findClass cls = some cX) (hkX : s.vm.classes[cX]? = some kX) (hcell : W.heap[a]? = some (freshCell cX kX)) (hnew : s.heap.size ≤ a)
    {msg : Value} (hmsg : msg.isRef = true)
    {g : JFrame} (hg : g.method = m₀) (hsize : g.locals.size = c.maxLocals) {rest : List Value} (hstack : g.stack = msg :: .ref a :: .ref a :: rest)
    (hd6 : decode c.code g.pc = .ok (.invokespecial ic, 3))
    (hRframes : names.length + 3 < R.frames) (hRlocals : 2 * g.monitorRoom + ((Value.ref a :: rest).map fun v => v.category).sum + (13 * (names.length + 1) + 42) ≤ R.locals) :
    ∃ (V : State) (ce : Cell) (L : List Loc), Stand p l e R s m₀ args below meth c (V.setCell a ce) (locs ++ L) cells slots ∧ (∀ y ∈ L, y.base = a) ∧ a < V.heap.size ∧ ce.cls = cX ∧ ce.vm = .none ∧
      ∀ target, Steps p.tables e below ((V.setCell a ce).setTop { g with stack := .ref a :: rest, pc := g.pc + 3 }) target → Steps p.tables e below (W.setTop g) target := by
  have howns : e.platform.frameOwnsMonitors = true := by rw [X.admits.platform]
  have hfin : e.platform.finalization = false := by rw [X.admits.platform]
  have hpl : e.platform.magicAccessors = ({} : Platform).magicAccessors := by rw [X.admits.platform]
  have a' : ∀ x, x ∈ Bundle.ownAtoms own ic cls names → x.holds args s none s [] = true := fun x hx => h x hx
  obtain ⟨T, Z0, L, -, Y⟩ := ThrowableC.of_atoms (args := args) howns hfin hpl (fun x hx => h x (by simp [Bundle.ownAtoms, hx]))
  obtain ⟨Z, M, LZ, LM, hnZ⟩ := Init0T.ofS_atoms (args := args) hpl L Y (fun x hx => h x (by simp [Bundle.ownAtoms, hx]))
  obtain ⟨P1, Ps, hlen, L1, hL, hP1m, hlink1, hlink⟩ := Bundle.chainS (args := args) hpl hnZ names cls hcls hnames (fun x hx => h x (by simp [Bundle.ownAtoms, hx]))
  have hfound : s.vm.findClass cls = some P1.m.cls := findClass_of_methodNamed hP1m
  cases Option.some.inj (hfoundX.symm.trans hfound)
  obtain ⟨c1, kX', hc1, hk, hord, -, -, hn6⟩ := Cond.instantiable_spec (a' (.instantiable cls 6) (by simp [Bundle.ownAtoms]))
  cases Option.some.inj (hc1.symm.trans hfound)
  cases Option.some.inj (hkX.symm.trans hk)
  have hsel0 : selectMethod e.platform s.vm P1.m.cls T.fill0 = .method T.fill0 := by
    obtain ⟨c2, r2, m2, q1, q2, q3, q4, -⟩ := Cond.selects_spec (a' (.selects cls Bundle.tFill0 Bundle.tFill0) (by simp [Bundle.ownAtoms]))
    cases Option.some.inj (q1.symm.trans hfound)
    cases Option.some.inj (q2.symm.trans (State.methodFound?_of_named Y.fill0 (by decide)))
    cases Option.some.inj (q3.symm.trans Y.fill0)
    rw [Launch.admits_selectMethod X.admits]; exact q4
  have hselF : selectMethod e.platform s.vm P1.m.cls T.fill = .method T.fill := by
    obtain ⟨c2, r2, m2, q1, q2, q3, q4, -⟩ := Cond.selects_spec (a' (.selects cls Bundle.tFill Bundle.tFill) (by simp [Bundle.ownAtoms]))
    cases Option.some.inj (q1.symm.trans hfound)
    cases Option.some.inj (q2.symm.trans (State.methodFound?_of_named Y.fill (by decide)))
    cases Option.some.inj (q3.symm.trans Y.fill)
    rw [Launch.admits_selectMethod X.admits]; exact q4
  obtain ⟨cellS0, hcS0, hiss⟩ := Y.statics
  obtain ⟨u0, hu0⟩ := Cond.staticRefV Y.unassigned L.unassignedStatic L.statics hcS0 hiss (a' (.isRef (.static Bundle.tN "UNASSIGNED_STACK" Bundle.steD)) (by simp [Bundle.ownAtoms]))
  obtain ⟨sen, hsen⟩ := Cond.staticRefV Y.sentinel L.sentinelStatic L.statics hcS0 hiss (a' (.isRef (.static Bundle.tN "SUPPRESSED_SENTINEL" Bundle.listD)) (by simp [Bundle.ownAtoms]))
  obtain ⟨ci198, i198, fB, hk198, hg198, ha198, hsB, -, hnB, htB, hffB⟩ := Cond.ownField (t := .object "java/lang/Object") Y.found L.cls (by decide +kernel) (a' (.fieldLink Bundle.tN 198 Bundle.tN "backtrace" "Ljava/lang/Object;") (by simp [Bundle.ownAtoms])) (a' (.lays Bundle.tN Bundle.tN "backtrace" "Ljava/lang/Object;") (by simp [Bundle.ownAtoms])) e.platform hpl
  obtain ⟨cellS, hcS', heS, -, hkeep⟩ := X.same.2.2.2.2.2 T.aS cellS0 hcS0
  have hcellS : W.heap[T.aS]? = some cellS := hcS'
  have hout' : ∀ i, (⟨T.aS, i⟩ : Loc) ∉ locs := fun i hmem => by
    have := hlocs _ hmem cellS0 hcS0
    rw [hiss] at this; cases this
  have hknownS : cellS.vm ≠ .unknown := by
    rw [heS]; intro hu
    rw [show cellS0.vm = .unknown from hu] at hiss
    cases hiss
  have hneS : T.aS ≠ a := Nat.ne_of_lt (Nat.lt_of_lt_of_le (Array.getElem?_eq_some_iff.mp hcS0).1 hnew)
  obtain ⟨iM, hffM⟩ := Y.msg
  obtain ⟨tyC, dC, hdC, hdnC⟩ := Cond.laysAt hfound hk Y.cause (a' (.lays cls Bundle.tN "cause" "Ljava/lang/Throwable;") (by simp [Bundle.ownAtoms]))
  obtain ⟨tyS, dS, hdS, hdnS⟩ := Cond.laysAt hfound hk Y.stack (a' (.lays cls Bundle.tN "stackTrace" Bundle.steD) (by simp [Bundle.ownAtoms]))
  obtain ⟨tyP, dP, hdP, hdnP⟩ := Cond.laysAt hfound hk Y.supp (a' (.lays cls Bundle.tN "suppressedExceptions" Bundle.listD) (by simp [Bundle.ownAtoms]))
  obtain ⟨tyM, dM, hdM, hdnM⟩ := Cond.laysAt hfound hk hffM (a' (.lays cls Bundle.tN "detailMessage" "Ljava/lang/String;") (by simp [Bundle.ownAtoms]))
  obtain ⟨tyB, dB, hdB, hdnB⟩ := Cond.laysAt hfound hk hffB (a' (.lays cls Bundle.tN "backtrace" "Ljava/lang/Object;") (by simp [Bundle.ownAtoms]))
  have bC := Cond.laysApart hdB hdC hdnB hdnC (by rw [hnB, Y.causeName]; decide)
  have bS := Cond.laysApart hdB hdS hdnB hdnS (by rw [hnB, Y.stackName]; decide)
  have bP := Cond.laysApart hdB hdP hdnB hdnP (by rw [hnB, Y.suppName]; decide)
  have hskip : SkipFacts T e.platform s (fun u => u) u0 ((preparedCellV T.toThrowableT (freshCell P1.m.cls kX) a u0 sen).withEntry W.cur) :=
    ⟨{ ci198 := ci198, i198 := i198, fBack := fB }, ⟨hk198, hg198, ha198, hsB⟩, by
      have := fresh_default (c := P1.m.cls) tyB
      rw [htB] at this
      simpa [preparedCellV, Cell.setSlot, Cell.withEntry, Array.getElem?_setIfInBounds, bC, bS, bP, bC.symm, bS.symm, bP.symm, defaultValue] using this, fun _ _ => rfl⟩
  obtain ⟨tm, methC, cdC, kC, vm₁, hnC, -, -, -, -, -, -, -, hW₁, st1⟩ := Steps.initColdS (tb := p.tables) (e := e) (below := below) (s := s) (U := W) X.here hexec X.warmed hpl hown (t := Bundle.initS cls) rfl rfl (Bundle.fit_spec hcls).2
    (a' (.methodLink own ic (Bundle.initS cls)) (by simp [Bundle.ownAtoms])) (h (.instanceMethod (Bundle.initS cls)) (by cases names <;> simp [Bundle.ownAtoms, Bundle.chainSAtoms, Bundle.passSAtoms])) (bytes := Bundle.six) (maxL := 2) (h (.code (Bundle.initS cls) Bundle.six 2 none) (by cases names <;> simp [Bundle.ownAtoms, Bundle.chainSAtoms, Bundle.passSAtoms]))
    (f := g) hg (a := a) (msg := msg) (rest := .ref a :: rest) hstack hd6
  cases Option.some.inj (hnC.symm.trans hP1m)
  have X₁ := X.noted hW₁
  obtain ⟨vm₂, X₂, st2⟩ := X₁.ctorMessageOffV hexec (g := { g with stack := .ref a :: rest }) hg hsize T L Z LZ M LM (P1 :: Ps)
    (fun P hP => by rcases List.mem_cons.mp hP with rfl | hP; exact L1; exact hL P hP) ⟨hlink1, hlink⟩ (u0 := u0) (sen := sen) (self := a) hmsg (cell := freshCell P1.m.cls kX) (cellS := cellS)
    hcell (fun _ => by simp) (by simp) rfl rfl hsel0 hselF hcellS hneS hknownS (by rw [hkeep _ (hout' _)]; exact hu0) (by rw [hkeep _ (hout' _)]; exact hsen)
    (Takes.of_laid hk hord tyC (by rw [Y.causeType]; rfl)) (Takes.of_laid hk hord tyS (by rw [Y.stackType]; exact fits_refV_array _ u0)) (Takes.of_laid hk hord tyP (by rw [Y.suppType]; exact fits_refV_object _ sen))
    (Takes.of_laid hk hord tyM (by rw [Y.msgType]; exact fits_refV_object _ ⟨msg, hmsg⟩)) Y.objLocals hskip htr [] hd6
    (by simp only [List.length_cons, hlen]; omega) (by simp only [List.length_cons, hlen]; exact hRlocals)
  have hlt : a < ((W.setVm vm₁).setVm vm₂).heap.size := (Array.getElem?_eq_some_iff.mp hcell).1
  refine ⟨(W.setVm vm₁).setVm vm₂, _, _, X₂, fun y hy => ?_, hlt, rfl, rfl, fun target hwalk => st1 _ (fun acts => ?_)⟩
  · simp only [List.mem_cons, List.not_mem_nil, or_false] at hy
    rcases hy with rfl | rfl | rfl | rfl | rfl <;> rfl
  · rw [doInvoke_state]
    exact st2 _ hwalk
set_option maxHeartbeats 1000000 in
theorem vx_ctorMade0 (X : Stand p l e R s m₀ args below meth c W locs cells slots) (hexec : p.tables.exec = Jvm.exec) (htr : e.platform.stackTraces = false) {own cls : String} {names : List String} {ic : Nat}
    (hown : s.vm.findClass own = some m₀.cls) (hcls : Bundle.fit cls = true) (hnames : ∀ n ∈ names, Bundle.fit n = true)
    (h : ∀ a ∈ Bundle.ownAtoms0 own ic cls names, a.before args s = true)
    (hlocs : ∀ x ∈ locs, ∀ cell, s.heap[x.base]? = some cell → cell.vm.isStatics = false)
    {a : Addr} {cX : ClassId} {kX : Class} (hfoundX : s.vm.findClass cls = some cX) (hkX : s.vm.classes[cX]? = some kX) (hcell : W.heap[a]? = some (freshCell cX kX)) (hnew : s.heap.size ≤ a)
    {g : JFrame} (hg : g.method = m₀) (hsize : g.locals.size = c.maxLocals) {rest : List Value} (hstack : g.stack = .ref a :: .ref a :: rest)
    (hd6 : decode c.code g.pc = .ok (.invokespecial ic, 3))
    (hRframes : names.length + 3 < R.frames) (hRlocals : 2 * g.monitorRoom + ((Value.ref a :: rest).map fun v => v.category).sum + (13 * (names.length + 1) + 41) ≤ R.locals) :
    ∃ (V : State) (ce : Cell) (L : List Loc), Stand p l e R s m₀ args below meth c (V.setCell a ce) (locs ++ L) cells slots ∧ (∀ y ∈ L, y.base = a) ∧ a < V.heap.size ∧ ce.cls = cX ∧ ce.vm = .none ∧
      ∀ target, Steps p.tables e below ((V.setCell a ce).setTop { g with stack := .ref a :: rest, pc := g.pc + 3 }) target → Steps p.tables e below (W.setTop g) target := by
  have howns : e.platform.frameOwnsMonitors = true := by rw [X.admits.platform]
  have hfin : e.platform.finalization = false := by rw [X.admits.platform]
  have hpl : e.platform.magicAccessors = ({} : Platform).magicAccessors := by rw [X.admits.platform]
  have a' : ∀ x, x ∈ Bundle.ownAtoms0 own ic cls names → x.holds args s none s [] = true := fun x hx => h x hx
  obtain ⟨T, Z, L, LZ, Y⟩ := ThrowableC.of_atoms (args := args) howns hfin hpl (fun x hx => h x (by simp [Bundle.ownAtoms0, hx]))
  obtain ⟨P1, Ps, hlen, L1, hL, hP1m, hlink1, hlink⟩ := Bundle.chain0 (args := args) hpl Y.init0 names cls hcls hnames (fun x hx => h x (by simp [Bundle.ownAtoms0, hx]))
  have hfound : s.vm.findClass cls = some P1.m.cls := findClass_of_methodNamed hP1m
  cases Option.some.inj (hfoundX.symm.trans hfound)
  obtain ⟨c1, kX', hc1, hk, hord, -, -, hn6⟩ := Cond.instantiable_spec (a' (.instantiable cls 6) (by simp [Bundle.ownAtoms0]))
  cases Option.some.inj (hc1.symm.trans hfound)
  cases Option.some.inj (hkX.symm.trans hk)
  have hsel0 : selectMethod e.platform s.vm P1.m.cls T.fill0 = .method T.fill0 := by
    obtain ⟨c2, r2, m2, q1, q2, q3, q4, -⟩ := Cond.selects_spec (a' (.selects cls Bundle.tFill0 Bundle.tFill0) (by simp [Bundle.ownAtoms0]))
    cases Option.some.inj (q1.symm.trans hfound)
    cases Option.some.inj (q2.symm.trans (State.methodFound?_of_named Y.fill0 (by decide)))
    cases Option.some.inj (q3.symm.trans Y.fill0)
    rw [Launch.admits_selectMethod X.admits]; exact q4
  have hselF : selectMethod e.platform s.vm P1.m.cls T.fill = .method T.fill := by
    obtain ⟨c2, r2, m2, q1, q2, q3, q4, -⟩ := Cond.selects_spec (a' (.selects cls Bundle.tFill Bundle.tFill) (by simp [Bundle.ownAtoms0]))
    cases Option.some.inj (q1.symm.trans hfound)
    cases Option.some.inj (q2.symm.trans (State.methodFound?_of_named Y.fill (by decide)))
    cases Option.some.inj (q3.symm.trans Y.fill)
    rw [Launch.admits_selectMethod X.admits]; exact q4
  obtain ⟨cellS0, hcS0, hiss⟩ := Y.statics
  obtain ⟨u0, hu0⟩ := Cond.staticRefV Y.unassigned L.unassignedStatic L.statics hcS0 hiss (a' (.isRef (.static Bundle.tN "UNASSIGNED_STACK" Bundle.steD)) (by simp [Bundle.ownAtoms0]))
  obtain ⟨sen, hsen⟩ := Cond.staticRefV Y.sentinel L.sentinelStatic L.statics hcS0 hiss (a' (.isRef (.static Bundle.tN "SUPPRESSED_SENTINEL" Bundle.listD)) (by simp [Bundle.ownAtoms0]))
  obtain ⟨ci198, i198, fB, hk198, hg198, ha198, hsB, -, hnB, htB, hffB⟩ := Cond.ownField (t := .object "java/lang/Object") Y.found L.cls (by decide +kernel) (a' (.fieldLink Bundle.tN 198 Bundle.tN "backtrace" "Ljava/lang/Object;") (by simp [Bundle.ownAtoms0])) (a' (.lays Bundle.tN Bundle.tN "backtrace" "Ljava/lang/Object;") (by simp [Bundle.ownAtoms0])) e.platform hpl
  obtain ⟨cellS, hcS', heS, -, hkeep⟩ := X.same.2.2.2.2.2 T.aS cellS0 hcS0
  have hcellS : W.heap[T.aS]? = some cellS := hcS'
  have hout' : ∀ i, (⟨T.aS, i⟩ : Loc) ∉ locs := fun i hmem => by
    have := hlocs _ hmem cellS0 hcS0
    rw [hiss] at this; cases this
  have hknownS : cellS.vm ≠ .unknown := by
    rw [heS]; intro hu
    rw [show cellS0.vm = .unknown from hu] at hiss
    cases hiss
  have hneS : T.aS ≠ a := Nat.ne_of_lt (Nat.lt_of_lt_of_le (Array.getElem?_eq_some_iff.mp hcS0).1 hnew)
  obtain ⟨iM, hffM⟩ := Y.msg
  obtain ⟨tyC, dC, hdC, hdnC⟩ := Cond.laysAt hfound hk Y.cause (a' (.lays cls Bundle.tN "cause" "Ljava/lang/Throwable;") (by simp [Bundle.ownAtoms0]))
  obtain ⟨tyS, dS, hdS, hdnS⟩ := Cond.laysAt hfound hk Y.stack (a' (.lays cls Bundle.tN "stackTrace" Bundle.steD) (by simp [Bundle.ownAtoms0]))
  obtain ⟨tyP, dP, hdP, hdnP⟩ := Cond.laysAt hfound hk Y.supp (a' (.lays cls Bundle.tN "suppressedExceptions" Bundle.listD) (by simp [Bundle.ownAtoms0]))
  obtain ⟨tyM, dM, hdM, hdnM⟩ := Cond.laysAt hfound hk hffM (a' (.lays cls Bundle.tN "detailMessage" "Ljava/lang/String;") (by simp [Bundle.ownAtoms0]))
  obtain ⟨tyB, dB, hdB, hdnB⟩ := Cond.laysAt hfound hk hffB (a' (.lays cls Bundle.tN "backtrace" "Ljava/lang/Object;") (by simp [Bundle.ownAtoms0]))
  have bC := Cond.laysApart hdB hdC hdnB hdnC (by rw [hnB, Y.causeName]; decide)
  have bS := Cond.laysApart hdB hdS hdnB hdnS (by rw [hnB, Y.stackName]; decide)
  have bP := Cond.laysApart hdB hdP hdnB hdnP (by rw [hnB, Y.suppName]; decide)
  have hskip : SkipFacts T e.platform s (fun u => u) u0 ((preparedCellV T.toThrowableT (freshCell P1.m.cls kX) a u0 sen).withEntry W.cur) :=
    ⟨{ ci198 := ci198, i198 := i198, fBack := fB }, ⟨hk198, hg198, ha198, hsB⟩, by
      have := fresh_default (c := P1.m.cls) tyB
      rw [htB] at this
      simpa [preparedCellV, Cell.setSlot, Cell.withEntry, Array.getElem?_setIfInBounds, bC, bS, bP, bC.symm, bS.symm, bP.symm, defaultValue] using this, fun _ _ => rfl⟩
  obtain ⟨tm, methC, cdC, kC, vm₁, hnC, -, -, -, -, -, -, -, hW₁, st1⟩ := Steps.initCold (tb := p.tables) (e := e) (below := below) (s := s) (U := W) X.here hexec X.warmed hpl hown (t := Bundle.init0 cls) rfl rfl (Bundle.fit_spec hcls).2
    (a' (.methodLink own ic (Bundle.init0 cls)) (by simp [Bundle.ownAtoms0])) (h (.instanceMethod (Bundle.init0 cls)) (by cases names <;> simp [Bundle.ownAtoms0, Bundle.chain0Atoms, Bundle.passAtoms])) (bytes := Bundle.five) (maxL := 1) (h (.code (Bundle.init0 cls) Bundle.five 1 none) (by cases names <;> simp [Bundle.ownAtoms0, Bundle.chain0Atoms, Bundle.passAtoms]))
    (f := g) hg (a := a) (rest := .ref a :: rest) hstack hd6
  cases Option.some.inj (hnC.symm.trans hP1m)
  have X₁ := X.noted hW₁
  obtain ⟨vm₂, X₂, st2⟩ := X₁.ctorPlainOffV hexec (g := { g with stack := .ref a :: rest }) hg hsize T L Z LZ (P1 :: Ps)
    (fun P hP => by rcases List.mem_cons.mp hP with rfl | hP; exact L1; exact hL P hP) ⟨hlink1, hlink⟩ (u0 := u0) (sen := sen) (self := a) (cell := freshCell P1.m.cls kX) (cellS := cellS)
    hcell (fun _ => by simp) (by simp) rfl rfl hsel0 hselF hcellS hneS hknownS (by rw [hkeep _ (hout' _)]; exact hu0) (by rw [hkeep _ (hout' _)]; exact hsen)
    (Takes.of_laid hk hord tyC (by rw [Y.causeType]; rfl)) (Takes.of_laid hk hord tyS (by rw [Y.stackType]; exact fits_refV_array _ u0)) (Takes.of_laid hk hord tyP (by rw [Y.suppType]; exact fits_refV_object _ sen)) Y.objLocals hskip htr [] hd6
    (by simp only [List.length_cons, hlen]; omega) (by simp only [List.length_cons, hlen]; exact hRlocals)
  have hlt : a < ((W.setVm vm₁).setVm vm₂).heap.size := (Array.getElem?_eq_some_iff.mp hcell).1
  refine ⟨(W.setVm vm₁).setVm vm₂, _, _, X₂, fun y hy => ?_, hlt, rfl, rfl, fun target hwalk => st1 _ (fun acts => ?_)⟩
  · simp only [List.mem_cons, List.not_mem_nil, or_false] at hy
    rcases hy with rfl | rfl | rfl | rfl <;> rfl
  · rw [doInvoke_state]
    exact st2 _ hwalk
end VXK
section VXK2
variable {p : Program} {l : Launch} {e : Env} {R : Room} {s : State} {m : MethodId} {args : Array Value} {below : List Frame} {meth : Method} {c : Code} {H : Heap} {locs : List Loc} {cells slots : Nat} {Q : State → Prop}
variable {ls : Array Slot} {rest : List Value} {D : va_G} {cl : List vw_C} {tys : List (ClassId × FieldType)} {ws : va_W}
/-- 'new E("text")' that isn't thrown at once: the object goes on the stack -/
theorem vx_makeS {cc : ByteArray} {pc : Nat} (hexec : p.tables.exec = Jvm.exec) (hb : c.code = cc) (hl : l.stackTraces = false) {own cls text : String} {names : List String} {ik is ic sa ci : Nat} {A : Nat → Prop} {T0 : u_T}
    (hown : s.vm.findClass own = some m.cls) (hcls : Bundle.fit cls = true) (hnames : ∀ n ∈ names, Bundle.fit n = true)
    (hk : (Cond.classLink own ik cls).before args s = true) (hini : (Cond.initialized cls).before args s = true) (hstr : vk_R own is text sa s) (hat : ∀ w ∈ vx_atS own ic cls names, w.before args s = true)
    (hgood : ∀ w ∈ Cond.classLink own ik cls :: Cond.initialized cls :: vx_atS own ic cls names, vx_ot w = true)
    (hU : vx_Zq Bundle.tN "UNASSIGNED_STACK" Bundle.steD A s s.heap) (hN : vx_Zq Bundle.tN "SUPPRESSED_SENTINEL" Bundle.listD A s s.heap) (hS : va_S A s.heap H locs) (hsize : ls.size = c.maxLocals)
    (d0 : decode cc pc = .ok (.new ik, 3)) (d3 : decode cc (pc + 3) = .ok (.dup, 1)) (d4 : decode cc (pc + 4) = .ok (.ldc is, 2)) (d6 : decode cc (pc + 6) = .ok (.invokespecial ic, 3))
    (hK : va_K D cl tys s) (hP : va_P D cl ws H) (hD : va_D A ws) (hA : ∀ q, s.heap.size ≤ q → A q) (hc : cl[ci]? = some (cls, T0, 0))
    (hRframes : names.length + 3 < R.frames) (hRlocals : (rest.map fun v => v.category).sum + (13 * (names.length + 1) + 43) ≤ R.locals) (hRcells : cells + 1 ≤ R.cells) (hRslots : slots + 6 ≤ R.slots)
    (kk : ∀ (q : Nat) (H1 : Heap), va_P D cl (ws ++ [(q, .inr (ci, []))]) H1 → va_D A (ws ++ [(q, .inr (ci, []))]) → va_S A s.heap H1 locs → W p l e R s m args below meth c H1 locs (cells + 1) (slots + 6) Q (F0 m (pc + 9) ls (.ref q :: rest))) :
    W p l e R s m args below meth c H locs cells slots Q (F0 m pc ls rest) := by
  intro T hT X
  subst hT
  have htr : e.platform.stackTraces = false := (show e.platform.stackTraces = l.stackTraces by rw [X.admits.platform]).trans hl
  have Y := vx_rebase X (R' := { frames := R.frames, locals := R.locals, cells := 1, slots := 6 }) (Nat.le_refl _) (Nat.le_refl _) hRcells hRslots
  obtain ⟨s', hA'⟩ : ∃ z, z = (T.setVm s.vm).setFrames (.invoking m args :: below) := ⟨_, rfl⟩
  rw [← hA'] at Y
  have hvm : s'.vm = s.vm := by rw [hA']; rfl
  have hhp : s'.heap = T.heap := by rw [hA']; rfl
  have hW0 : s.WarmedH s'.vm := by rw [hvm]; exact State.WarmedH.refl s
  have hat' : ∀ w ∈ vx_atS own ic cls names, w.before args s' = true := fun w hw => vx_ot_at hW0 hvm.symm (hgood w (List.mem_cons_of_mem _ (List.mem_cons_of_mem _ hw))) (hat w hw)
  have hk' : (Cond.classLink own ik cls).before args s' = true := vx_ot_at hW0 hvm.symm (hgood _ List.mem_cons_self) hk
  have hini' : (Cond.initialized cls).before args s' = true := vx_ot_at hW0 hvm.symm (hgood _ (List.mem_cons_of_mem _ List.mem_cons_self)) hini
  have hU' : vx_Zq Bundle.tN "UNASSIGNED_STACK" Bundle.steD A s' s'.heap := by rw [hhp]; exact vx_Zq.moved hW0.alike (hU.kept hS.2.1)
  have hN' : vx_Zq Bundle.tN "SUPPRESSED_SENTINEL" Bundle.listD A s' s'.heap := by rw [hhp]; exact vx_Zq.moved hW0.alike (hN.kept hS.2.1)
  have h : ∀ w ∈ Bundle.ownAtoms own ic cls names, w.before args s' = true := vx_own hat' (vx_isRefq hU'.1) (vx_isRefq hN'.1) hU'.2.word hN'.2.word
  have hown' : s'.vm.findClass own = some m.cls := by rw [hvm]; exact hown
  have hins : (Cond.instantiable cls 6).before args s' = true := h _ (by simp [Bundle.ownAtoms])
  obtain ⟨vm₁, cX, kX, hfX, hkX, -, -, X₁, st1⟩ := Y.newCold hexec (own := own) (C := cls) (index := ik) (n := 6) hown' hk' hins hini'
    (g := F0 m pc ls rest) rfl (by rw [hb]; exact d0) (Nat.le_refl _) (Nat.le_refl _)
  generalize hT1 : (T.setVm vm₁).pushCell { cls := cX, slots := kX.instanceTypes.map defaultValue, vm := .none } = T1 at X₁ st1
  have hcat : (Value.ref T.heap.size).category = 1 := rfl
  have hcellA : T1.heap[T.heap.size]? = some (freshCell cX kX) := by rw [← hT1]; exact State.heap_pushCell_size _ _
  have d3' : decode c.code (pc + 3) = .ok (.dup, 1) := by rw [hb]; exact d3
  have d4' : decode c.code (pc + 4) = .ok (.ldc is, 2) := by rw [hb]; exact d4
  have hstr' : vk_R own is text sa s' := vk_R.warm hW0 hstr
  obtain ⟨V, ce, L, Z, hL, hlt, hcl9, hvm9, st⟩ := vx_ctorMadeS X₁ hexec htr (own := own) (cls := cls) (names := names) (ic := ic) hown' hcls hnames h (fun x hx => nomatch hx) hfX hkX hcellA (by rw [hhp]; exact Nat.le_refl _) (msg := .ref sa) rfl
    (g := { method := m, pc := pc + 6, locals := ls, stack := .ref sa :: .ref T.heap.size :: .ref T.heap.size :: rest, locked := none }) rfl hsize (rest := rest) rfl
    (by rw [hb]; exact d6) hRframes (by simp only [List.map_cons, List.sum_cons, hcat]; omega)
  have Z0 := Stand.forget (locs := []) Z (fun y hy => by rw [hL y hy, hhp]; exact Nat.le_refl _)
  obtain ⟨f1, f2⟩ := vx_frame Z0.same
  rw [hhp] at f1 f2
  have hcid : ce.cls = D.1 ci := by
    rw [hcl9]
    have h1 := (hK.1 ci _ hc).2.1
    rw [hvm] at hfX
    exact Option.some.inj (hfX.symm.trans h1)
  have hh : (V.setCell T.heap.size ce).heap[T.heap.size]? = some ce := heapAt_setCell_self (s := V) ce hlt
  subst hA'
  have X5 := vx_back9 X Y Z0
  have X6 : Stand p l e R s m args below meth c (V.setCell T.heap.size ce) locs (cells + 1) (slots + 6) := { X5 with same := X5.same.mono (by omega) (by omega) }
  have hk9 : ∀ (k : Nat) (x : Nat × va_E), ws[k]? = some x → (V.setCell T.heap.size ce).heap[x.1]? = T.heap[x.1]? := fun k x hx => f2 x.1 ((hP k x hx).lt) (fun z hz => nomatch hz)
  obtain ⟨t, a1, b1⟩ := kk T.heap.size (V.setCell T.heap.size ce).heap ((hP.kept hk9).app (fun k x hx => by
      have hz : k < 1 := (List.getElem?_eq_some_iff.mp hx).1
      rw [show k = 0 by omega] at hx
      cases hx
      exact ⟨_, hc, ce, hh, hcid, hvm9, fun k hk => absurd hk (Nat.not_lt_zero k)⟩)) (hD.push hP rfl (hA _ hS.1)) ⟨Nat.le_trans hS.1 f1, fun q h1 h2 => (f2 q (Nat.lt_of_lt_of_le h1 hS.1) (fun z hz => nomatch hz)).trans (hS.2.1 q h1 h2), hS.2.2⟩ _ rfl X6
  refine ⟨t, st1 _ ?_, b1⟩
  show Steps p.tables e below (T1.setTop { method := m, pc := pc + 3, locals := ls, stack := .ref T.heap.size :: rest, locked := none }) _
  jvm_step X₁.here [X₁.here.top, hexec, d3', Value.category]
  exact X₁.ldcString hexec (own := own) (text := text) (index := is) (a := sa) hown' hstr'.1 hstr'.2
    (g := { method := m, pc := pc + 4, locals := ls, stack := .ref T.heap.size :: .ref T.heap.size :: rest, locked := none }) rfl d4' _ (st _ a1)
/-- 'new E()' that isn't thrown at once: the object goes on the stack -/
theorem vx_make0 {cc : ByteArray} {pc : Nat} (hexec : p.tables.exec = Jvm.exec) (hb : c.code = cc) (hl : l.stackTraces = false) {own cls : String} {names : List String} {ik ic ci : Nat} {A : Nat → Prop} {T0 : u_T}
    (hown : s.vm.findClass own = some m.cls) (hcls : Bundle.fit cls = true) (hnames : ∀ n ∈ names, Bundle.fit n = true)
    (hk : (Cond.classLink own ik cls).before args s = true) (hini : (Cond.initialized cls).before args s = true) (hat : ∀ w ∈ vx_at0 own ic cls names, w.before args s = true)
    (hgood : ∀ w ∈ Cond.classLink own ik cls :: Cond.initialized cls :: vx_at0 own ic cls names, vx_ot w = true)
    (hU : vx_Zq Bundle.tN "UNASSIGNED_STACK" Bundle.steD A s s.heap) (hN : vx_Zq Bundle.tN "SUPPRESSED_SENTINEL" Bundle.listD A s s.heap) (hS : va_S A s.heap H locs) (hsize : ls.size = c.maxLocals)
    (d0 : decode cc pc = .ok (.new ik, 3)) (d3 : decode cc (pc + 3) = .ok (.dup, 1)) (d4 : decode cc (pc + 4) = .ok (.invokespecial ic, 3))
    (hK : va_K D cl tys s) (hP : va_P D cl ws H) (hD : va_D A ws) (hA : ∀ q, s.heap.size ≤ q → A q) (hc : cl[ci]? = some (cls, T0, 0))
    (hRframes : names.length + 3 < R.frames) (hRlocals : (rest.map fun v => v.category).sum + (13 * (names.length + 1) + 42) ≤ R.locals) (hRcells : cells + 1 ≤ R.cells) (hRslots : slots + 6 ≤ R.slots)
    (kk : ∀ (q : Nat) (H1 : Heap), va_P D cl (ws ++ [(q, .inr (ci, []))]) H1 → va_D A (ws ++ [(q, .inr (ci, []))]) → va_S A s.heap H1 locs → W p l e R s m args below meth c H1 locs (cells + 1) (slots + 6) Q (F0 m (pc + 7) ls (.ref q :: rest))) :
    W p l e R s m args below meth c H locs cells slots Q (F0 m pc ls rest) := by
  intro T hT X
  subst hT
  have htr : e.platform.stackTraces = false := (show e.platform.stackTraces = l.stackTraces by rw [X.admits.platform]).trans hl
  have Y := vx_rebase X (R' := { frames := R.frames, locals := R.locals, cells := 1, slots := 6 }) (Nat.le_refl _) (Nat.le_refl _) hRcells hRslots
  obtain ⟨s', hA'⟩ : ∃ z, z = (T.setVm s.vm).setFrames (.invoking m args :: below) := ⟨_, rfl⟩
  rw [← hA'] at Y
  have hvm : s'.vm = s.vm := by rw [hA']; rfl
  have hhp : s'.heap = T.heap := by rw [hA']; rfl
  have hW0 : s.WarmedH s'.vm := by rw [hvm]; exact State.WarmedH.refl s
  have hat' : ∀ w ∈ vx_at0 own ic cls names, w.before args s' = true := fun w hw => vx_ot_at hW0 hvm.symm (hgood w (List.mem_cons_of_mem _ (List.mem_cons_of_mem _ hw))) (hat w hw)
  have hk' : (Cond.classLink own ik cls).before args s' = true := vx_ot_at hW0 hvm.symm (hgood _ List.mem_cons_self) hk
  have hini' : (Cond.initialized cls).before args s' = true := vx_ot_at hW0 hvm.symm (hgood _ (List.mem_cons_of_mem _ List.mem_cons_self)) hini
  have hU' : vx_Zq Bundle.tN "UNASSIGNED_STACK" Bundle.steD A s' s'.heap := by rw [hhp]; exact vx_Zq.moved hW0.alike (hU.kept hS.2.1)
  have hN' : vx_Zq Bundle.tN "SUPPRESSED_SENTINEL" Bundle.listD A s' s'.heap := by rw [hhp]; exact vx_Zq.moved hW0.alike (hN.kept hS.2.1)
  have h : ∀ w ∈ Bundle.ownAtoms0 own ic cls names, w.before args s' = true := vx_own hat' (vx_isRefq hU'.1) (vx_isRefq hN'.1) hU'.2.word hN'.2.word
  have hown' : s'.vm.findClass own = some m.cls := by rw [hvm]; exact hown
  have hins : (Cond.instantiable cls 6).before args s' = true := h _ (by simp [Bundle.ownAtoms0])
  obtain ⟨vm₁, cX, kX, hfX, hkX, -, -, X₁, st1⟩ := Y.newCold hexec (own := own) (C := cls) (index := ik) (n := 6) hown' hk' hins hini'
    (g := F0 m pc ls rest) rfl (by rw [hb]; exact d0) (Nat.le_refl _) (Nat.le_refl _)
  generalize hT1 : (T.setVm vm₁).pushCell { cls := cX, slots := kX.instanceTypes.map defaultValue, vm := .none } = T1 at X₁ st1
  have hcat : (Value.ref T.heap.size).category = 1 := rfl
  have hcellA : T1.heap[T.heap.size]? = some (freshCell cX kX) := by rw [← hT1]; exact State.heap_pushCell_size _ _
  have d3' : decode c.code (pc + 3) = .ok (.dup, 1) := by rw [hb]; exact d3
  obtain ⟨V, ce, L, Z, hL, hlt, hcl9, hvm9, st⟩ := vx_ctorMade0 X₁ hexec htr (own := own) (cls := cls) (names := names) (ic := ic) hown' hcls hnames h (fun x hx => nomatch hx) hfX hkX hcellA (by rw [hhp]; exact Nat.le_refl _)
    (g := { method := m, pc := pc + 4, locals := ls, stack := .ref T.heap.size :: .ref T.heap.size :: rest, locked := none }) rfl hsize (rest := rest) rfl
    (by rw [hb]; exact d4) hRframes (by simp only [List.map_cons, List.sum_cons, hcat]; omega)
  have Z0 := Stand.forget (locs := []) Z (fun y hy => by rw [hL y hy, hhp]; exact Nat.le_refl _)
  obtain ⟨f1, f2⟩ := vx_frame Z0.same
  rw [hhp] at f1 f2
  have hcid : ce.cls = D.1 ci := by
    rw [hcl9]
    have h1 := (hK.1 ci _ hc).2.1
    rw [hvm] at hfX
    exact Option.some.inj (hfX.symm.trans h1)
  have hh : (V.setCell T.heap.size ce).heap[T.heap.size]? = some ce := heapAt_setCell_self (s := V) ce hlt
  subst hA'
  have X5 := vx_back9 X Y Z0
  have X6 : Stand p l e R s m args below meth c (V.setCell T.heap.size ce) locs (cells + 1) (slots + 6) := { X5 with same := X5.same.mono (by omega) (by omega) }
  have hk9 : ∀ (k : Nat) (x : Nat × va_E), ws[k]? = some x → (V.setCell T.heap.size ce).heap[x.1]? = T.heap[x.1]? := fun k x hx => f2 x.1 ((hP k x hx).lt) (fun z hz => nomatch hz)
  obtain ⟨t, a1, b1⟩ := kk T.heap.size (V.setCell T.heap.size ce).heap ((hP.kept hk9).app (fun k x hx => by
      have hz : k < 1 := (List.getElem?_eq_some_iff.mp hx).1
      rw [show k = 0 by omega] at hx
      cases hx
      exact ⟨_, hc, ce, hh, hcid, hvm9, fun k hk => absurd hk (Nat.not_lt_zero k)⟩)) (hD.push hP rfl (hA _ hS.1)) ⟨Nat.le_trans hS.1 f1, fun q h1 h2 => (f2 q (Nat.lt_of_lt_of_le h1 hS.1) (fun z hz => nomatch hz)).trans (hS.2.1 q h1 h2), hS.2.2⟩ _ rfl X6
  refine ⟨t, st1 _ ?_, b1⟩
  show Steps p.tables e below (T1.setTop { method := m, pc := pc + 3, locals := ls, stack := .ref T.heap.size :: rest, locked := none }) _
  jvm_step X₁.here [X₁.here.top, hexec, d3', Value.category]
  exact st _ a1
/-- 'throw x' of an object that was made before -/
theorem vx_athrow {cc : ByteArray} {pc : Nat} (hexec : p.tables.exec = Jvm.exec) (hb : c.code = cc) {q : Addr} (hdg : decode cc pc = .ok (.athrow, 1)) (k : vx_W p l e R s m args below meth c H locs cells slots Q (F0 m pc ls rest) q) : W p l e R s m args below meth c H locs cells slots Q (F0 m pc ls (.ref q :: rest)) := by
  intro T hT X
  obtain ⟨t, st, hq⟩ := k T hT X
  refine ⟨t, ?_, hq⟩
  have hdg' : decode c.code pc = .ok (.athrow, 1) := by rw [hb]; exact hdg
  jvm_step X.here [X.here.top, hexec, hdg', athrow.wp_sem]
  exact st
end VXK2
/-! ===== END ===== -/
/-! ===== BEGIN a constructor that throws (launches without stack traces) ===== -/
section VXIA
variable {p : Program} {l : Launch} {e : Env} {R : Room} {s : State} {m : MethodId} {args : Array Value} {below : List Frame} {meth : Method} {c : Code} {T : State} {locs : List Loc} {cells slots : Nat}
theorem vx_callI (X : Stand p l e R s m args below meth c T locs cells slots) (hexec : p.tables.exec = Jvm.exec) {own : String} {index : Nat} {y : MethodName} {bytes : ByteArray} {maxL : Nat}
    (hown : s.vm.findClass own = some m.cls) (hy1 : y.name = "<init>") (hlink : (Cond.methodLink own index y).before args s = true) (hinst : (Cond.instanceMethod y).before args s = true)
    (hcode : (Cond.code y bytes maxL none).before args s = true) (hy : y.cls ≠ "java/lang/invoke/MethodHandle" ∧ y.cls ≠ "java/lang/invoke/VarHandle")
    {W9 : Nat} {Pre : Pt → Array Value → Prop} {Post : Pt → Array Value → Option Value → Pt → Prop} {PostX : Pt → Array Value → Addr → Pt → Prop} (hK : vx_Back l R p e below s args y 3 W9 Pre Post PostX)
    {g : JFrame} (hg : g.method = m) (hsize : g.locals.size = c.maxLocals) {a : Addr} {argsL rest : List Value} (hlen : ∀ sig, parseMethodDescriptor y.desc = some sig → argsL.length = sig.parameters.length)
    (hstack : g.stack = argsL.reverse ++ .ref a :: rest) (hW : 2 * g.monitorRoom + (rest.map fun v => v.category).sum ≤ W9) (hdg : decode c.code g.pc = .ok (.invokespecial index, 3))
    (hpre : ∀ vm₁, s.WarmedH vm₁ → Pre ⟨T.setVm vm₁, locs, cells, slots⟩ (Value.ref a :: argsL).toArray) :
    (∃ (v : Option Value) (vm₁ : Vm) (B : Pt), s.WarmedH vm₁ ∧ Stand p l e R s m args below meth c B.U B.locs B.cells B.slots ∧ Post ⟨T.setVm vm₁, locs, cells, slots⟩ (Value.ref a :: argsL).toArray v B ∧
      ∀ target, Steps p.tables e below (B.U.setTop { g with pc := g.pc + 3, stack := v.toList ++ rest }) target → Steps p.tables e below (T.setTop g) target) ∨
    (∃ (q : Addr) (vm₁ : Vm) (B : Pt), s.WarmedH vm₁ ∧ Stand p l e R s m args below meth c B.U B.locs B.cells B.slots ∧ PostX ⟨T.setVm vm₁, locs, cells, slots⟩ (Value.ref a :: argsL).toArray q B ∧
      Steps p.tables e below (T.setTop g) ((B.U.setTop { g with stack := rest }).pushFrame (.throwing q))) := by
  subst hg
  have hpl : e.platform.magicAccessors = ({} : Platform).magicAccessors := by rw [X.admits.platform]
  obtain ⟨mk, methM, cM, kP, vm₁, hnamed, hmethM, hcodeM, -, hlocalsM, -, hkP, -, hW₁, hstep₁⟩ := Steps.initColdArgs (e := e) X.here hexec X.warmed hpl hown hy1 hy hlink hinst hcode (f := g) rfl hlen hstack hdg
  have X₁ := X.noted hW₁
  rcases hK g.method meth c ⟨T.setVm vm₁, locs, cells, slots⟩ { g with stack := rest } (.invokespecial index) mk (Value.ref a :: argsL).toArray X₁ rfl hsize hdg hW (X₁.named hnamed) (hpre vm₁ X₁.warmed) with ⟨v, B, X', hpost, hsteps⟩ | ⟨q, B, X', hpost, hsteps⟩
  · exact Or.inl ⟨v, vm₁, B, X₁.warmed, X', hpost, fun target h => hstep₁ _ fun acts => by rw [doInvoke_state]; exact hsteps.trans h⟩
  · exact Or.inr ⟨q, vm₁, B, X₁.warmed, X', hpost, hstep₁ _ fun acts => by rw [doInvoke_state]; exact hsteps⟩
end VXIA
section VXIB
variable {p : Program} {l : Launch} {e : Env} {R : Room} {s : State} {m : MethodId} {args : Array Value} {below : List Frame} {meth : Method} {c : Code} {H : Heap} {locs : List Loc} {cells slots : Nat}
variable {y : MethodName} {bytes cc : ByteArray} {maxL nL mc ms n index : Nat} {ret : Option FieldType} {ws : List Cond} {rm : Room} {Pc : Array Value → State → Prop} {Qc : Array Value → State → Outcome → State → Prop} {XC : String → State → State → Prop} {free : Addr → Prop} {Ts : List Cond} {own C : String} {b : Addr} {As rest : List Value} {g : JFrame}
theorem vx_runI (S : CallFix p m c cc nL s args Ts own) (hM : vx_Met l y ws rm Pc Qc XC mc ms free) (cw : CallB R s args own index y bytes maxL none ws rm mc ms n ∧ y.name = "<init>" ∧ (Cond.instanceMethod y).before args s = true) (hp : PreS s H Pc (.ref b :: As))
    (hg : g.method = m) (hn : As.length = n) (hsize : g.locals.size = nL) (hstack : g.stack = As.reverse ++ .ref b :: rest) (hW : 2 * g.monitorRoom + (rest.map fun v => v.category).sum ≤ 8) (hdg : decode cc g.pc = .ok (.invokespecial index, 3)) (hf : cells + mc ≤ R.cells ∧ slots + ms ≤ R.slots) :
    vx_Run p l e R s m args below meth c H locs cells slots mc ms g rest (Qc (Value.ref b :: As).toArray) XC free := by
  have hK : vx_Back l R p e below s args y 3 8 (PreOf R mc ms Pc) (PostOf Qc mc ms free) (vx_Post XC mc ms free) := vx_callBack cw.1 hM hp.1
  obtain ⟨⟨-, -, -, -, -, -, hcode, -, hy, hlen, hl⟩, hy1, hin⟩ := cw
  obtain ⟨hx, hb, hml, ho, -⟩ := S
  have hPc := hp.2
  intro T hT X
  rcases vx_callI X hx (bytes := bytes) (maxL := maxL) ho hy1 hl hin hcode hy hK hg (hsize.trans hml.symm) (a := b) (argsL := As) (rest := rest) (fun sig h => hn.trans (hlen sig h)) hstack hW (by rw [hb]; exact hdg)
    (fun vm₁ hW₁ => ⟨hf.1, hf.2, hPc (T.setVm vm₁) hT hW₁⟩) with ⟨v, vm₁, ⟨U', l2, c2, s2⟩, hW₁, X', ⟨g', mk, t, L, e1, e2, hq, h1, hL, h2, h3⟩, st⟩ | ⟨q, vm₁, ⟨U', l2, c2, s2⟩, hW₁, X', ⟨g', mk, t, L, E, ce, e1, e2, hq, hce, hcv, hcl, h1, hL, h2, h3⟩, st⟩
  · dsimp only [Pt.U, Pt.locs, Pt.cells, Pt.slots] at X' e1 e2 h1 h2 h3 st
    subst h1; subst h2; subst h3
    exact Or.inl ⟨v, (T.setVm vm₁).calling g' mk (Value.ref b :: As).toArray, t, U', L, hT, X', hL, e1, e2, hq, st⟩
  · dsimp only [Pt.U, Pt.locs, Pt.cells, Pt.slots] at X' e1 e2 h1 h2 h3 st hcl
    subst h1; subst h2; subst h3
    exact Or.inr ⟨q, (T.setVm vm₁).calling g' mk (Value.ref b :: As).toArray, t, U', L, E, ce, hT, X', hL, e1, e2, hq, hce, hcv, vx_cls hW₁ hcl, st⟩
end VXIB
/-! ===== END ===== -/
/-! ===== BEGIN a private constructor of a nest mate that throws ===== -/
section VXIC
variable {p : Program} {l : Launch} {e : Env} {R : Room} {s : State} {m : MethodId} {args : Array Value} {below : List Frame} {meth : Method} {c : Code} {T : State} {locs : List Loc} {cells slots : Nat}
theorem vx_callIN (X : Stand p l e R s m args below meth c T locs cells slots) (hexec : p.tables.exec = Jvm.exec) {own : String} {index : Nat} {host : String} {y : MethodName} {bytes : ByteArray} {maxL : Nat}
    (hown : s.vm.findClass own = some m.cls) (hy1 : y.name = "<init>") (hlink : (Cond.methodLinkNest own index y host).before args s = true) (hinst : (Cond.instanceMethod y).before args s = true)
    (hcode : (Cond.code y bytes maxL none).before args s = true) (hy : y.cls ≠ "java/lang/invoke/MethodHandle" ∧ y.cls ≠ "java/lang/invoke/VarHandle")
    {W9 : Nat} {Pre : Pt → Array Value → Prop} {Post : Pt → Array Value → Option Value → Pt → Prop} {PostX : Pt → Array Value → Addr → Pt → Prop} (hK : vx_Back l R p e below s args y 3 W9 Pre Post PostX)
    {g : JFrame} (hg : g.method = m) (hsize : g.locals.size = c.maxLocals) {a : Addr} {argsL rest : List Value} (hlen : ∀ sig, parseMethodDescriptor y.desc = some sig → argsL.length = sig.parameters.length)
    (hstack : g.stack = argsL.reverse ++ .ref a :: rest) (hW : 2 * g.monitorRoom + (rest.map fun v => v.category).sum ≤ W9) (hdg : decode c.code g.pc = .ok (.invokespecial index, 3))
    (hpre : ∀ vm₁, s.WarmedH vm₁ → Pre ⟨T.setVm vm₁, locs, cells, slots⟩ (Value.ref a :: argsL).toArray) :
    (∃ (v : Option Value) (vm₁ : Vm) (B : Pt), s.WarmedH vm₁ ∧ Stand p l e R s m args below meth c B.U B.locs B.cells B.slots ∧ Post ⟨T.setVm vm₁, locs, cells, slots⟩ (Value.ref a :: argsL).toArray v B ∧
      ∀ target, Steps p.tables e below (B.U.setTop { g with pc := g.pc + 3, stack := v.toList ++ rest }) target → Steps p.tables e below (T.setTop g) target) ∨
    (∃ (q : Addr) (vm₁ : Vm) (B : Pt), s.WarmedH vm₁ ∧ Stand p l e R s m args below meth c B.U B.locs B.cells B.slots ∧ PostX ⟨T.setVm vm₁, locs, cells, slots⟩ (Value.ref a :: argsL).toArray q B ∧
      Steps p.tables e below (T.setTop g) ((B.U.setTop { g with stack := rest }).pushFrame (.throwing q))) := by
  subst hg
  have hpl : e.platform.magicAccessors = ({} : Platform).magicAccessors := by rw [X.admits.platform]
  obtain ⟨mk, methM, cM, kP, vm₁, hnamed, hmethM, hcodeM, -, hlocalsM, -, hkP, -, hW₁, hstep₁⟩ := Steps.initColdArgsNest (e := e) X.here hexec X.warmed hpl hown hy1 hy hlink hinst hcode (f := g) rfl hlen hstack hdg
  have X₁ := X.noted hW₁
  rcases hK g.method meth c ⟨T.setVm vm₁, locs, cells, slots⟩ { g with stack := rest } (.invokespecial index) mk (Value.ref a :: argsL).toArray X₁ rfl hsize hdg hW (X₁.named hnamed) (hpre vm₁ X₁.warmed) with ⟨v, B, X', hpost, hsteps⟩ | ⟨q, B, X', hpost, hsteps⟩
  · exact Or.inl ⟨v, vm₁, B, X₁.warmed, X', hpost, fun target h => hstep₁ _ fun acts => by rw [doInvoke_state]; exact hsteps.trans h⟩
  · exact Or.inr ⟨q, vm₁, B, X₁.warmed, X', hpost, hstep₁ _ fun acts => by rw [doInvoke_state]; exact hsteps⟩
end VXIC
section VXID
variable {p : Program} {l : Launch} {e : Env} {R : Room} {s : State} {m : MethodId} {args : Array Value} {below : List Frame} {meth : Method} {c : Code} {H : Heap} {locs : List Loc} {cells slots : Nat}
theorem vx_runIN {y : MethodName} {bytes cc : ByteArray} {maxL nL mc ms n index : Nat} {ws : List Cond} {rm : Room} {Pc : Array Value → State → Prop} {Qc : Array Value → State → Outcome → State → Prop} {XC : String → State → State → Prop} {free : Addr → Prop} {Ts : List Cond} {own host : String} {b : Addr} {As rest : List Value} {g : JFrame}
    (S : CallFix p m c cc nL s args Ts own) (hM : vx_Met l y ws rm Pc Qc XC mc ms free) (cw : va_CN R s args own index y host bytes maxL none ws rm mc ms n ∧ y.name = "<init>" ∧ (Cond.instanceMethod y).before args s = true) (hp : PreS s H Pc (.ref b :: As))
    (hg : g.method = m) (hn : As.length = n) (hsize : g.locals.size = nL) (hstack : g.stack = As.reverse ++ .ref b :: rest) (hW : 2 * g.monitorRoom + (rest.map fun v => v.category).sum ≤ 8) (hdg : decode cc g.pc = .ok (.invokespecial index, 3)) (hf : cells + mc ≤ R.cells ∧ slots + ms ≤ R.slots) :
    vx_Run p l e R s m args below meth c H locs cells slots mc ms g rest (Qc (Value.ref b :: As).toArray) XC free := by
  obtain ⟨⟨⟨hrc, hrs, hfr, hlo, hws, hcw⟩, hcode, hini, hy, hlen, hl⟩, hx1, hx2⟩ := cw
  have hK : vx_Back l R p e below s args y 3 8 (PreOf R mc ms Pc) (PostOf Qc mc ms free) (vx_Post XC mc ms free) := vx_back (bytes := bytes) (maxL := maxL) (ret := none) hM hp.1 hrc hrs hfr hlo hws hcw (fun a' U hW => word_at hW (Or.inl (by first | rfl | simp [Cond.onTables, Cond.keeps, Cond.steady])) hini)
  obtain ⟨hx, hb, hml, ho, -⟩ := S
  have hPc := hp.2
  intro T hT X
  rcases vx_callIN X hx (bytes := bytes) (maxL := maxL) ho hx1 hl hx2 hcode hy hK hg (hsize.trans hml.symm) (a := b) (argsL := As) (rest := rest) (fun sig h => hn.trans (hlen sig h)) hstack hW (by rw [hb]; exact hdg)
    (fun vm₁ hW₁ => ⟨hf.1, hf.2, hPc (T.setVm vm₁) hT hW₁⟩) with ⟨v, vm₁, ⟨U', l2, c2, s2⟩, hW₁, X', ⟨g', mk, t, L, e1, e2, hq, h1, hL, h2, h3⟩, st⟩ | ⟨q, vm₁, ⟨U', l2, c2, s2⟩, hW₁, X', ⟨g', mk, t, L, E, ce, e1, e2, hq, hce, hcv, hcl, h1, hL, h2, h3⟩, st⟩
  · dsimp only [Pt.U, Pt.locs, Pt.cells, Pt.slots] at X' e1 e2 h1 h2 h3 st
    subst h1; subst h2; subst h3
    exact Or.inl ⟨v, (T.setVm vm₁).calling g' mk (Value.ref b :: As).toArray, t, U', L, hT, X', hL, e1, e2, hq, st⟩
  · dsimp only [Pt.U, Pt.locs, Pt.cells, Pt.slots] at X' e1 e2 h1 h2 h3 st hcl
    subst h1; subst h2; subst h3
    exact Or.inr ⟨q, (T.setVm vm₁).calling g' mk (Value.ref b :: As).toArray, t, U', L, E, ce, hT, X', hL, e1, e2, hq, hce, hcv, vx_cls hW₁ hcl, st⟩
end VXID
/-! ===== END ===== -/
/-! ===== BEGIN a method of a class above, found by the receiver, that may throw (follows va_callVU, va_runU of this kit) ===== -/
section
variable {p : Program} {l : Launch} {e : Env} {R : Room} {s : State} {m : MethodId} {args : Array Value} {below : List Frame} {meth : Method} {c : Code} {H : Heap} {locs : List Loc} {cells slots : Nat}
theorem vx_callVU {T : State} {locs : List Loc} {cells slots : Nat} (X : Stand p l e R s m args below meth c T locs cells slots) (hexec : p.tables.exec = Jvm.exec) {own C owner : String} {index : Nat} {x y : MethodName} {bytes : ByteArray} {maxL : Nat} {ret : Option FieldType}
    (hown : s.vm.findClass own = some m.cls) (hlink : (Cond.methodLink own index x).before args s = true) (hsame : (Cond.sameMethod x.cls owner x.name x.desc).before args s = true)
    (hd0 : va_Decl s ⟨owner, x.name, x.desc⟩) (howner : owner ≠ "java/lang/invoke/MethodHandle" ∧ owner ≠ "java/lang/invoke/VarHandle")
    (hsel : (Cond.selects C x y).before args s = true) (hinst : (Cond.instanceMethod y).before args s = true) (hcode : (Cond.code y bytes maxL ret).before args s = true)
    {W : Nat} {Pre : Pt → Array Value → Prop} {Post : Pt → Array Value → Option Value → Pt → Prop} {PostX : Pt → Array Value → Addr → Pt → Prop} (hK : vx_Back l R p e below s args y 3 W Pre Post PostX)
    {b : Addr} {cellB : Cell} (hcell : T.heap[b]? = some cellB) (hobj : cellB.vm.isStatics = false) (hcls : s.vm.findClass C = some cellB.cls)
    {g : JFrame} (hg : g.method = m) (hsize : g.locals.size = c.maxLocals) {argsL rest : List Value} (hlen : ∀ sig, parseMethodDescriptor x.desc = some sig → argsL.length = sig.parameters.length)
    (hstack : g.stack = argsL.reverse ++ .ref b :: rest) (hW : 2 * g.monitorRoom + (rest.map fun v => v.category).sum ≤ W) (hdg : decode c.code g.pc = .ok (.invokevirtual index, 3))
    (hpre : ∀ vm₁, s.WarmedH vm₁ → Pre ⟨T.setVm vm₁, locs, cells, slots⟩ (Value.ref b :: argsL).toArray) :
    (∃ (v : Option Value) (vm₁ : Vm) (B : Pt), s.WarmedH vm₁ ∧ Stand p l e R s m args below meth c B.U B.locs B.cells B.slots ∧ Post ⟨T.setVm vm₁, locs, cells, slots⟩ (Value.ref b :: argsL).toArray v B ∧
      ∀ target, Steps p.tables e below (B.U.setTop { g with pc := g.pc + 3, stack := v.toList ++ rest }) target → Steps p.tables e below (T.setTop g) target) ∨
    (∃ (q : Addr) (vm₁ : Vm) (B : Pt), s.WarmedH vm₁ ∧ Stand p l e R s m args below meth c B.U B.locs B.cells B.slots ∧ PostX ⟨T.setVm vm₁, locs, cells, slots⟩ (Value.ref b :: argsL).toArray q B ∧
      Steps p.tables e below (T.setTop g) ((B.U.setTop { g with stack := rest }).pushFrame (.throwing q))) := by
  obtain ⟨r0, r, hn, hrm, hstR, hsigR⟩ := hd0
  obtain ⟨cn, ck, r1, hcn, hck, hni, hf, hn1⟩ := Cond.sameMethod_found hsame
  cases hn.symm.trans hn1
  obtain ⟨mk, methM, hnamed, hmethM, -, habM⟩ := Cond.instanceMethod_spec hinst
  obtain ⟨c2, r2, m2, q1, q2, q3, q4, kP, hkP, hkPi⟩ := Cond.selects_spec hsel
  cases hcls.symm.trans q1
  cases hf.symm.trans q2
  cases hnamed.symm.trans q3
  have hselP : selectMethod e.platform s.vm cellB.cls r0 = .method mk := by rw [Launch.admits_selectMethod X.admits]; exact q4
  obtain ⟨vm₁, X₁, hstep₁⟩ := X.invokevirtualUp hexec hown hlink hsame howner hn hrm hstR (a := b) (cell := cellB) hcell
    (fun z h => by rw [h] at hobj; cases hobj) hselP hmethM habM hkP hkPi (g := g) hg (argsL := argsL) (rest := rest) (hlen _ hsigR) hstack hdg
  rcases hK m meth c ⟨T.setVm vm₁, locs, cells, slots⟩ { g with stack := rest } (.invokevirtual index) mk (Value.ref b :: argsL).toArray X₁ hg hsize hdg hW (X₁.named hnamed) (hpre vm₁ X₁.warmed) with ⟨v, B, X', hpost, hsteps⟩ | ⟨q, B, X', hpost, hsteps⟩
  · exact Or.inl ⟨v, vm₁, B, X₁.warmed, X', hpost, fun target h => hstep₁ _ fun acts => by rw [doInvoke_state]; exact hsteps.trans h⟩
  · exact Or.inr ⟨q, vm₁, B, X₁.warmed, X', hpost, hstep₁ _ fun acts => by rw [doInvoke_state]; exact hsteps⟩
theorem vx_runU {x y : MethodName} {bytes cc : ByteArray} {maxL nL mc ms n index : Nat} {ret : Option FieldType} {ws : List Cond} {rm : Room} {Pc : Array Value → State → Prop} {Qc : Array Value → State → Outcome → State → Prop} {XC : String → State → State → Prop} {free : Addr → Prop} {Ts : List Cond} {own C owner : String} {b : Addr} {As rest : List Value} {g : JFrame}
    (S : CallFix p m c cc nL s args Ts own) (hM : vx_Met l y ws rm Pc Qc XC mc ms free) (cw : va_CU R s args own C owner index x y bytes maxL ret ws rm mc ms n) (hp : PreV s H C b Pc As)
    (hg : g.method = m) (hn : As.length = n) (hsize : g.locals.size = nL) (hstack : g.stack = As.reverse ++ .ref b :: rest) (hW : 2 * g.monitorRoom + (rest.map fun v => v.category).sum ≤ 8) (hdg : decode cc g.pc = .ok (.invokevirtual index, 3)) (hf : cells + mc ≤ R.cells ∧ slots + ms ≤ R.slots) :
    vx_Run p l e R s m args below meth c H locs cells slots mc ms g rest (Qc (Value.ref b :: As).toArray) XC free := by
  obtain ⟨hrc, hrs, hfr, hlo, hws, hcw⟩ := cw.back
  have hini := cw.init
  have hK : vx_Back l R p e below s args y 3 8 (PreOf R mc ms Pc) (PostOf Qc mc ms free) (vx_Post XC mc ms free) := vx_back (bytes := bytes) (maxL := maxL) (ret := ret) hM hp.1 hrc hrs hfr hlo hws hcw (fun a' U hW => word_at hW (Or.inl (by first | rfl | simp [Cond.onTables, Cond.keeps, Cond.steady])) hini)
  obtain ⟨hx, hb, hml, ho, -⟩ := S
  obtain ⟨-, ⟨cellB, hcB, hoB, hclB⟩, hPc⟩ := hp
  intro T hT X
  rcases vx_callVU X hx (C := C) (owner := owner) (bytes := bytes) (maxL := maxL) (ret := ret) ho cw.link cw.same cw.decl cw.notMH cw.sel cw.inst cw.code hK (by rw [hT]; exact hcB) hoB hclB hg (hsize.trans hml.symm) (argsL := As) (rest := rest) (fun sig h => hn.trans (cw.len sig h)) hstack hW (by rw [hb]; exact hdg)
    (fun vm₁ hW₁ => ⟨hf.1, hf.2, hPc (T.setVm vm₁) hT hW₁⟩) with ⟨v, vm₁, ⟨U', l2, c2, s2⟩, hW₁, X', ⟨g', mk, t, L, e1, e2, hq, h1, hL, h2, h3⟩, st⟩ | ⟨q, vm₁, ⟨U', l2, c2, s2⟩, hW₁, X', ⟨g', mk, t, L, E, ce, e1, e2, hq, hce, hcv, hcl, h1, hL, h2, h3⟩, st⟩
  · dsimp only [Pt.U, Pt.locs, Pt.cells, Pt.slots] at X' e1 e2 h1 h2 h3 st
    subst h1; subst h2; subst h3
    exact Or.inl ⟨v, (T.setVm vm₁).calling g' mk (Value.ref b :: As).toArray, t, U', L, hT, X', hL, e1, e2, hq, st⟩
  · dsimp only [Pt.U, Pt.locs, Pt.cells, Pt.slots] at X' e1 e2 h1 h2 h3 st hcl
    subst h1; subst h2; subst h3
    exact Or.inr ⟨q, (T.setVm vm₁).calling g' mk (Value.ref b :: As).toArray, t, U', L, E, ce, hT, X', hL, e1, e2, hq, hce, hcv, vx_cls hW₁ hcl, st⟩
end
/-! ===== END ===== -/
/-! ===== BEGIN super.m(..) that may throw (follows va_callSU, va_runSU) ===== -/
section
variable {p : Program} {l : Launch} {e : Env} {R : Room} {s : State} {m : MethodId} {args : Array Value} {below : List Frame} {meth : Method} {c : Code} {H : Heap} {locs : List Loc} {cells slots : Nat}
theorem vx_callSU {T : State} {locs : List Loc} {cells slots : Nat} (X : Stand p l e R s m args below meth c T locs cells slots) (hexec : p.tables.exec = Jvm.exec) {own : String} {index : Nat} {y : MethodName} {bytes : ByteArray} {maxL : Nat} {ret : Option FieldType}
    (hown : s.vm.findClass own = some m.cls) (hlink : (Cond.methodLink own index y).before args s = true) (hsame : (Cond.sameMethod y.cls y.cls y.name y.desc).before args s = true) (hsup : (Cond.superclass own y.cls).before args s = true)
    (hinst : (Cond.instanceMethod y).before args s = true) (hcode : (Cond.code y bytes maxL ret).before args s = true) (hno : y.name ≠ "<init>")
    {W : Nat} {Pre : Pt → Array Value → Prop} {Post : Pt → Array Value → Option Value → Pt → Prop} {PostX : Pt → Array Value → Addr → Pt → Prop} (hK : vx_Back l R p e below s args y 3 W Pre Post PostX)
    {b : Addr} {cellB : Cell} {kB : Class} (hcell : T.heap[b]? = some cellB) (hobj : cellB.vm.isStatics = false) (hkB : s.vm.classes[cellB.cls]? = some kB)
    {g : JFrame} (hg : g.method = m) (hsize : g.locals.size = c.maxLocals) {argsL rest : List Value} (hlen : ∀ sig, parseMethodDescriptor y.desc = some sig → argsL.length = sig.parameters.length)
    (hstack : g.stack = argsL.reverse ++ .ref b :: rest) (hW : 2 * g.monitorRoom + (rest.map fun v => v.category).sum ≤ W) (hdg : decode c.code g.pc = .ok (.invokespecial index, 3))
    (hpre : ∀ vm₁, s.WarmedH vm₁ → Pre ⟨T.setVm vm₁, locs, cells, slots⟩ (Value.ref b :: argsL).toArray) :
    (∃ (v : Option Value) (vm₁ : Vm) (B : Pt), s.WarmedH vm₁ ∧ Stand p l e R s m args below meth c B.U B.locs B.cells B.slots ∧ Post ⟨T.setVm vm₁, locs, cells, slots⟩ (Value.ref b :: argsL).toArray v B ∧
      ∀ target, Steps p.tables e below (B.U.setTop { g with pc := g.pc + 3, stack := v.toList ++ rest }) target → Steps p.tables e below (T.setTop g) target) ∨
    (∃ (q : Addr) (vm₁ : Vm) (B : Pt), s.WarmedH vm₁ ∧ Stand p l e R s m args below meth c B.U B.locs B.cells B.slots ∧ PostX ⟨T.setVm vm₁, locs, cells, slots⟩ (Value.ref b :: argsL).toArray q B ∧
      Steps p.tables e below (T.setTop g) ((B.U.setTop { g with stack := rest }).pushFrame (.throwing q))) := by
  obtain ⟨mk, methM, hnamed, hmethM, hstM, habM⟩ := Cond.instanceMethod_spec hinst
  obtain ⟨methM', cM, hmethM', -, -, -, -, -, -, hsigM⟩ := Cond.code_spec hnamed hcode
  cases hmethM.symm.trans hmethM'
  obtain ⟨ps, dk, kp, hps, hdk, hkp, hsuper, -, -, hnid⟩ := Cond.superclass_spec hown hsup
  have hn : s.methodNamed? ⟨y.cls, y.name, y.desc⟩ = some mk := hnamed
  have hpm : ps = mk.cls := Option.some.inj (hps.symm.trans (findClass_of_methodNamed hnamed))
  have hsub : s.vm.isSubclass ps mk.cls = true := by rw [hpm]; simp [Vm.isSubclass, Vm.isSubclassAux]
  obtain ⟨vm₁, X₁, hstep₁⟩ := X.invokespecialUp hexec hown hlink hsame hn hmethM hstM habM hno hdk hnid hps hsuper hsub (a := b) (cell := cellB) hcell
    (fun z h => by rw [h] at hobj; cases hobj) hkB (g := g) hg (argsL := argsL) (rest := rest) (hlen _ hsigM) hstack hdg
  rcases hK m meth c ⟨T.setVm vm₁, locs, cells, slots⟩ { g with stack := rest } (.invokespecial index) mk (Value.ref b :: argsL).toArray X₁ hg hsize hdg hW (X₁.named hnamed) (hpre vm₁ X₁.warmed) with ⟨v, B, X', hpost, hsteps⟩ | ⟨q, B, X', hpost, hsteps⟩
  · exact Or.inl ⟨v, vm₁, B, X₁.warmed, X', hpost, fun target h => hstep₁ _ (by rw [doInvoke_state]; exact hsteps.trans h)⟩
  · exact Or.inr ⟨q, vm₁, B, X₁.warmed, X', hpost, hstep₁ _ (by rw [doInvoke_state]; exact hsteps)⟩
theorem vx_runSU {y : MethodName} {bytes cc : ByteArray} {maxL nL mc ms n index : Nat} {ret : Option FieldType} {ws : List Cond} {rm : Room} {Pc : Array Value → State → Prop} {Qc : Array Value → State → Outcome → State → Prop} {XC : String → State → State → Prop} {free : Addr → Prop} {Ts : List Cond} {own C : String} {cC : ClassId} {b : Addr} {As rest : List Value} {g : JFrame}
    (hat : ClassAt s C cC) (S : CallFix p m c cc nL s args Ts own) (hM : vx_Met l y ws rm Pc Qc XC mc ms free) (cw : va_CS R s args own index y bytes maxL ret ws rm mc ms n) (hp : PreV s H C b Pc As)
    (hg : g.method = m) (hn : As.length = n) (hsize : g.locals.size = nL) (hstack : g.stack = As.reverse ++ .ref b :: rest) (hW : 2 * g.monitorRoom + (rest.map fun v => v.category).sum ≤ 8) (hdg : decode cc g.pc = .ok (.invokespecial index, 3)) (hf : cells + mc ≤ R.cells ∧ slots + ms ≤ R.slots) :
    vx_Run p l e R s m args below meth c H locs cells slots mc ms g rest (Qc (Value.ref b :: As).toArray) XC free := by
  obtain ⟨⟨hrc, hrs, hfr, hlo, hws, hcw⟩, hl1, hl2, hl3, hl4, hini, hcode, hno, hlen⟩ := cw
  have hK : vx_Back l R p e below s args y 3 8 (PreOf R mc ms Pc) (PostOf Qc mc ms free) (vx_Post XC mc ms free) := vx_back (bytes := bytes) (maxL := maxL) (ret := ret) hM hp.1 hrc hrs hfr hlo hws hcw (fun a' U hW => word_at hW (Or.inl (by first | rfl | simp [Cond.onTables, Cond.keeps, Cond.steady])) hini)
  obtain ⟨hx, hb, hml, ho, -⟩ := S
  obtain ⟨-, ⟨cellB, hcB, hoB, hclB⟩, hPc⟩ := hp
  obtain ⟨hfc, kB, hkB, -⟩ := hat
  cases hfc.symm.trans hclB
  intro T hT X
  rcases vx_callSU X hx (bytes := bytes) (maxL := maxL) (ret := ret) ho hl1 hl2 hl3 hl4 hcode hno hK (by rw [hT]; exact hcB) hoB hkB hg (hsize.trans hml.symm) (argsL := As) (rest := rest) (fun sig h => hn.trans (hlen sig h)) hstack hW (by rw [hb]; exact hdg)
    (fun vm₁ hW₁ => ⟨hf.1, hf.2, hPc (T.setVm vm₁) hT hW₁⟩) with ⟨v, vm₁, ⟨U', l2, c2, s2⟩, hW₁, X', ⟨g', mk, t, L, e1, e2, hq, h1, hL, h2, h3⟩, st⟩ | ⟨q, vm₁, ⟨U', l2, c2, s2⟩, hW₁, X', ⟨g', mk, t, L, E, ce, e1, e2, hq, hce, hcv, hcl, h1, hL, h2, h3⟩, st⟩
  · dsimp only [Pt.U, Pt.locs, Pt.cells, Pt.slots] at X' e1 e2 h1 h2 h3 st
    subst h1; subst h2; subst h3
    exact Or.inl ⟨v, (T.setVm vm₁).calling g' mk (Value.ref b :: As).toArray, t, U', L, hT, X', hL, e1, e2, hq, st⟩
  · dsimp only [Pt.U, Pt.locs, Pt.cells, Pt.slots] at X' e1 e2 h1 h2 h3 st hcl
    subst h1; subst h2; subst h3
    exact Or.inr ⟨q, (T.setVm vm₁).calling g' mk (Value.ref b :: As).toArray, t, U', L, E, ce, hT, X', hL, e1, e2, hq, hce, hcv, vx_cls hW₁ hcl, st⟩
end
/-! ===== END ===== -/
/-! ===== BEGIN a private method of a nest mate that may throw (follows va_callVN, va_callSN, va_runVN, va_runSN) ===== -/
section
variable {p : Program} {l : Launch} {e : Env} {R : Room} {s : State} {m : MethodId} {args : Array Value} {below : List Frame} {meth : Method} {c : Code} {H : Heap} {locs : List Loc} {cells slots : Nat}
variable {T : State}
theorem vx_callVN (X : Stand p l e R s m args below meth c T locs cells slots) (hexec : p.tables.exec = Jvm.exec) {own C : String} {index : Nat} {host : String} {y : MethodName} {bytes : ByteArray} {maxL : Nat} {ret : Option FieldType}
    (hown : s.vm.findClass own = some m.cls) (hlink : (Cond.methodLinkNest own index y host).before args s = true) (hinst : (Cond.instanceMethod y).before args s = true) (hsel : (Cond.selects C y y).before args s = true)
    (hcode : (Cond.code y bytes maxL ret).before args s = true) (hy : y.cls ≠ "java/lang/invoke/MethodHandle" ∧ y.cls ≠ "java/lang/invoke/VarHandle")
    {W : Nat} {Pre : Pt → Array Value → Prop} {Post : Pt → Array Value → Option Value → Pt → Prop} {PostX : Pt → Array Value → Addr → Pt → Prop} (hK : vx_Back l R p e below s args y 3 W Pre Post PostX)
    {b : Addr} {cellB : Cell} (hcell : T.heap[b]? = some cellB) (hobj : cellB.vm.isStatics = false) (hcls : s.vm.findClass C = some cellB.cls)
    {g : JFrame} (hg : g.method = m) (hsize : g.locals.size = c.maxLocals) {argsL rest : List Value} (hlen : ∀ sig, parseMethodDescriptor y.desc = some sig → argsL.length = sig.parameters.length)
    (hstack : g.stack = argsL.reverse ++ .ref b :: rest) (hW : 2 * g.monitorRoom + (rest.map fun v => v.category).sum ≤ W) (hdg : decode c.code g.pc = .ok (.invokevirtual index, 3))
    (hpre : ∀ vm₁, s.WarmedH vm₁ → Pre ⟨T.setVm vm₁, locs, cells, slots⟩ (Value.ref b :: argsL).toArray) :
    (∃ (v : Option Value) (vm₁ : Vm) (B : Pt), s.WarmedH vm₁ ∧ Stand p l e R s m args below meth c B.U B.locs B.cells B.slots ∧ Post ⟨T.setVm vm₁, locs, cells, slots⟩ (Value.ref b :: argsL).toArray v B ∧
      ∀ target, Steps p.tables e below (B.U.setTop { g with pc := g.pc + 3, stack := v.toList ++ rest }) target → Steps p.tables e below (T.setTop g) target) ∨
    (∃ (q : Addr) (vm₁ : Vm) (B : Pt), s.WarmedH vm₁ ∧ Stand p l e R s m args below meth c B.U B.locs B.cells B.slots ∧ PostX ⟨T.setVm vm₁, locs, cells, slots⟩ (Value.ref b :: argsL).toArray q B ∧
      Steps p.tables e below (T.setTop g) ((B.U.setTop { g with stack := rest }).pushFrame (.throwing q))) := by
  obtain ⟨mk, methM, hnamed, hmethM, hstM, habM⟩ := Cond.instanceMethod_spec hinst
  obtain ⟨methM', cM, hmethM', -, -, -, -, -, -, hsigM⟩ := Cond.code_spec hnamed hcode
  cases hmethM.symm.trans hmethM'
  obtain ⟨c2, r2, m2, q1, q2, q3, q4, kP, hkP, hkPi⟩ := Cond.selects_spec hsel
  cases hcls.symm.trans q1
  cases (State.methodFound?_of_named hnamed hy).symm.trans q2
  cases hnamed.symm.trans q3
  have hselP : selectMethod e.platform s.vm cellB.cls mk = .method mk := by rw [Launch.admits_selectMethod X.admits]; exact q4
  obtain ⟨vm₁, X₁, hstep₁⟩ := X.invokevirtualNest hexec hown hlink hnamed hmethM hstM hkP hkPi hy (a := b) (cell := cellB) hcell
    (fun z h => by rw [h] at hobj; cases hobj) hselP hmethM habM hkP hkPi (g := g) hg (argsL := argsL) (rest := rest) (hlen _ hsigM) hstack hdg
  rcases hK m meth c ⟨T.setVm vm₁, locs, cells, slots⟩ { g with stack := rest } (.invokevirtual index) mk (Value.ref b :: argsL).toArray X₁ hg hsize hdg hW (X₁.named hnamed) (hpre vm₁ X₁.warmed) with ⟨v, B, X', hpost, hsteps⟩ | ⟨q, B, X', hpost, hsteps⟩
  · exact Or.inl ⟨v, vm₁, B, X₁.warmed, X', hpost, fun target h => hstep₁ _ fun acts => by rw [doInvoke_state]; exact hsteps.trans h⟩
  · exact Or.inr ⟨q, vm₁, B, X₁.warmed, X', hpost, hstep₁ _ fun acts => by rw [doInvoke_state]; exact hsteps⟩
theorem vx_callSN (X : Stand p l e R s m args below meth c T locs cells slots) (hexec : p.tables.exec = Jvm.exec) {own : String} {index : Nat} {host : String} {y : MethodName} {bytes : ByteArray} {maxL : Nat} {ret : Option FieldType}
    (hown : s.vm.findClass own = some m.cls) (hlink : (Cond.methodLinkNest own index y host).before args s = true) (hstat : (Cond.static y).before args s = true) (hinit : (Cond.initialized y.cls).before args s = true)
    (hcode : (Cond.code y bytes maxL ret).before args s = true) (hy : y.cls ≠ "java/lang/invoke/MethodHandle" ∧ y.cls ≠ "java/lang/invoke/VarHandle")
    {W : Nat} {Pre : Pt → Array Value → Prop} {Post : Pt → Array Value → Option Value → Pt → Prop} {PostX : Pt → Array Value → Addr → Pt → Prop} (hK : vx_Back l R p e below s args y 3 W Pre Post PostX)
    {g : JFrame} (hg : g.method = m) (hsize : g.locals.size = c.maxLocals) {argsL rest : List Value} (hlen : ∀ sig, parseMethodDescriptor y.desc = some sig → argsL.length = sig.parameters.length)
    (hstack : g.stack = argsL.reverse ++ rest) (hW : 2 * g.monitorRoom + (rest.map fun v => v.category).sum ≤ W) (hdg : decode c.code g.pc = .ok (.invokestatic index, 3))
    (hpre : ∀ vm₁, s.WarmedH vm₁ → Pre ⟨T.setVm vm₁, locs, cells, slots⟩ argsL.toArray) :
    (∃ (v : Option Value) (vm₁ : Vm) (B : Pt), s.WarmedH vm₁ ∧ Stand p l e R s m args below meth c B.U B.locs B.cells B.slots ∧ Post ⟨T.setVm vm₁, locs, cells, slots⟩ argsL.toArray v B ∧
      ∀ target, Steps p.tables e below (B.U.setTop { g with pc := g.pc + 3, stack := v.toList ++ rest }) target → Steps p.tables e below (T.setTop g) target) ∨
    (∃ (q : Addr) (vm₁ : Vm) (B : Pt), s.WarmedH vm₁ ∧ Stand p l e R s m args below meth c B.U B.locs B.cells B.slots ∧ PostX ⟨T.setVm vm₁, locs, cells, slots⟩ argsL.toArray q B ∧
      Steps p.tables e below (T.setTop g) ((B.U.setTop { g with stack := rest }).pushFrame (.throwing q))) := by
  obtain ⟨mk, hnamed⟩ := Cond.code_named hcode
  obtain ⟨methM, cM, hmethM, -, -, -, -, -, -, hsigM⟩ := Cond.code_spec hnamed hcode
  have hstatic : methM.isStatic = true := Cond.static_spec hnamed hmethM hstat
  obtain ⟨kP, hkP, -⟩ := className_of_methodNamed hnamed
  have hinitP : kP.init = .initialized := Cond.initialized_spec (findClass_of_methodNamed hnamed) hkP hinit
  obtain ⟨vm₁, X₁, hstep₁⟩ := X.invokestaticNest hexec hown hlink hnamed hmethM hstatic hkP hinitP hy (g := g) hg (argsL := argsL) (rest := rest) (hlen _ hsigM) hstack hdg
  rcases hK m meth c ⟨T.setVm vm₁, locs, cells, slots⟩ { g with stack := rest } (.invokestatic index) mk argsL.toArray X₁ hg hsize hdg hW (X₁.named hnamed) (hpre vm₁ X₁.warmed) with ⟨v, B, X', hpost, hsteps⟩ | ⟨q, B, X', hpost, hsteps⟩
  · exact Or.inl ⟨v, vm₁, B, X₁.warmed, X', hpost, fun target h => hstep₁ _ fun acts => by rw [doInvoke_state]; exact hsteps.trans h⟩
  · exact Or.inr ⟨q, vm₁, B, X₁.warmed, X', hpost, hstep₁ _ fun acts => by rw [doInvoke_state]; exact hsteps⟩
theorem vx_runVN {y : MethodName} {bytes cc : ByteArray} {maxL nL mc ms n index : Nat} {ret : Option FieldType} {ws : List Cond} {rm : Room} {Pc : Array Value → State → Prop} {Qc : Array Value → State → Outcome → State → Prop} {XC : String → State → State → Prop} {free : Addr → Prop} {Ts : List Cond} {own C host : String} {b : Addr} {As rest : List Value} {g : JFrame}
    (S : CallFix p m c cc nL s args Ts own) (hM : vx_Met l y ws rm Pc Qc XC mc ms free) (cw : va_CN R s args own index y host bytes maxL ret ws rm mc ms n ∧ (Cond.instanceMethod y).before args s = true ∧ (Cond.selects C y y).before args s = true) (hp : PreV s H C b Pc As)
    (hg : g.method = m) (hn : As.length = n) (hsize : g.locals.size = nL) (hstack : g.stack = As.reverse ++ .ref b :: rest) (hW : 2 * g.monitorRoom + (rest.map fun v => v.category).sum ≤ 8) (hdg : decode cc g.pc = .ok (.invokevirtual index, 3)) (hf : cells + mc ≤ R.cells ∧ slots + ms ≤ R.slots) :
    vx_Run p l e R s m args below meth c H locs cells slots mc ms g rest (Qc (Value.ref b :: As).toArray) XC free := by
  obtain ⟨⟨⟨hrc, hrs, hfr, hlo, hws, hcw⟩, hcode, hini, hy, hlen, hl⟩, hx1, hx2⟩ := cw
  have hK : vx_Back l R p e below s args y 3 8 (PreOf R mc ms Pc) (PostOf Qc mc ms free) (vx_Post XC mc ms free) := vx_back (bytes := bytes) (maxL := maxL) (ret := ret) hM hp.1 hrc hrs hfr hlo hws hcw (fun a' U hW => word_at hW (Or.inl (by first | rfl | simp [Cond.onTables, Cond.keeps, Cond.steady])) hini)
  obtain ⟨hx, hb, hml, ho, -⟩ := S
  obtain ⟨-, ⟨cellB, hcB, hoB, hclB⟩, hPc⟩ := hp
  intro T hT X
  rcases vx_callVN X hx (C := C) (bytes := bytes) (maxL := maxL) (ret := ret) ho hl hx1 hx2 hcode hy hK (by rw [hT]; exact hcB) hoB hclB hg (hsize.trans hml.symm) (argsL := As) (rest := rest) (fun sig h => hn.trans (hlen sig h)) hstack hW (by rw [hb]; exact hdg)
    (fun vm₁ hW₁ => ⟨hf.1, hf.2, hPc (T.setVm vm₁) hT hW₁⟩) with ⟨v, vm₁, ⟨U', l2, c2, s2⟩, hW₁, X', ⟨g', mk, t, L, e1, e2, hq, h1, hL, h2, h3⟩, st⟩ | ⟨q, vm₁, ⟨U', l2, c2, s2⟩, hW₁, X', ⟨g', mk, t, L, E, ce, e1, e2, hq, hce, hcv, hcl, h1, hL, h2, h3⟩, st⟩
  · dsimp only [Pt.U, Pt.locs, Pt.cells, Pt.slots] at X' e1 e2 h1 h2 h3 st
    subst h1; subst h2; subst h3
    exact Or.inl ⟨v, (T.setVm vm₁).calling g' mk (Value.ref b :: As).toArray, t, U', L, hT, X', hL, e1, e2, hq, st⟩
  · dsimp only [Pt.U, Pt.locs, Pt.cells, Pt.slots] at X' e1 e2 h1 h2 h3 st hcl
    subst h1; subst h2; subst h3
    exact Or.inr ⟨q, (T.setVm vm₁).calling g' mk (Value.ref b :: As).toArray, t, U', L, E, ce, hT, X', hL, e1, e2, hq, hce, hcv, vx_cls hW₁ hcl, st⟩
theorem vx_runSN {y : MethodName} {bytes cc : ByteArray} {maxL nL mc ms n index : Nat} {ret : Option FieldType} {ws : List Cond} {rm : Room} {Pc : Array Value → State → Prop} {Qc : Array Value → State → Outcome → State → Prop} {XC : String → State → State → Prop} {free : Addr → Prop} {Ts : List Cond} {own host : String} {As rest : List Value} {g : JFrame}
    (S : CallFix p m c cc nL s args Ts own) (hM : vx_Met l y ws rm Pc Qc XC mc ms free) (cw : va_CN R s args own index y host bytes maxL ret ws rm mc ms n ∧ (Cond.static y).before args s = true ∧ True) (hp : PreS s H Pc As)
    (hg : g.method = m) (hn : As.length = n) (hsize : g.locals.size = nL) (hstack : g.stack = As.reverse ++ rest) (hW : 2 * g.monitorRoom + (rest.map fun v => v.category).sum ≤ 8) (hdg : decode cc g.pc = .ok (.invokestatic index, 3)) (hf : cells + mc ≤ R.cells ∧ slots + ms ≤ R.slots) :
    vx_Run p l e R s m args below meth c H locs cells slots mc ms g rest (Qc As.toArray) XC free := by
  obtain ⟨⟨⟨hrc, hrs, hfr, hlo, hws, hcw⟩, hcode, hini, hy, hlen, hl⟩, hx1, hx2⟩ := cw
  have hK : vx_Back l R p e below s args y 3 8 (PreOf R mc ms Pc) (PostOf Qc mc ms free) (vx_Post XC mc ms free) := vx_back (bytes := bytes) (maxL := maxL) (ret := ret) hM hp.1 hrc hrs hfr hlo hws hcw (fun a' U hW => word_at hW (Or.inl (by first | rfl | simp [Cond.onTables, Cond.keeps, Cond.steady])) hini)
  obtain ⟨hx, hb, hml, ho, -⟩ := S
  have hPc := hp.2
  intro T hT X
  rcases vx_callSN X hx (bytes := bytes) (maxL := maxL) (ret := ret) ho hl hx1 hini hcode hy hK hg (hsize.trans hml.symm) (argsL := As) (rest := rest) (fun sig h => hn.trans (hlen sig h)) hstack hW (by rw [hb]; exact hdg)
    (fun vm₁ hW₁ => ⟨hf.1, hf.2, hPc (T.setVm vm₁) hT hW₁⟩) with ⟨v, vm₁, ⟨U', l2, c2, s2⟩, hW₁, X', ⟨g', mk, t, L, e1, e2, hq, h1, hL, h2, h3⟩, st⟩ | ⟨q, vm₁, ⟨U', l2, c2, s2⟩, hW₁, X', ⟨g', mk, t, L, E, ce, e1, e2, hq, hce, hcv, hcl, h1, hL, h2, h3⟩, st⟩
  · dsimp only [Pt.U, Pt.locs, Pt.cells, Pt.slots] at X' e1 e2 h1 h2 h3 st
    subst h1; subst h2; subst h3
    exact Or.inl ⟨v, (T.setVm vm₁).calling g' mk As.toArray, t, U', L, hT, X', hL, e1, e2, hq, st⟩
  · dsimp only [Pt.U, Pt.locs, Pt.cells, Pt.slots] at X' e1 e2 h1 h2 h3 st hcl
    subst h1; subst h2; subst h3
    exact Or.inr ⟨q, (T.setVm vm₁).calling g' mk As.toArray, t, U', L, E, ce, hT, X', hL, e1, e2, hq, hce, hcv, vx_cls hW₁ hcl, st⟩
end
/-! ===== END ===== -/
/-! ===== BEGIN calls by an interface of methods that may throw (vx_callIF, vx_runF follow va_callIF, va_runF of this kit) ===== -/
section
variable {p : Program} {l : Launch} {e : Env} {R : Room} {s : State} {m : MethodId} {args : Array Value} {below : List Frame} {meth : Method} {c : Code} {H : Heap} {locs : List Loc} {cells slots : Nat} {Q : State → Prop}
variable {mc ms : Nat} {free : Addr → Prop} {A0 A1 : Nat → Prop} {H0 : Heap} {a : Array Value} {pc : Nat} {ls : Array Slot} {st0 rest : List Value}
def vx_Run5 (p : Program) (l : Launch) (e : Env) (R : Room) (s : State) (m : MethodId) (args : Array Value) (below : List Frame) (meth : Method) (c : Code) (H : Heap) (locs : List Loc) (cells slots mc ms : Nat) (g : JFrame) (rest : List Value) (Qa : State → Outcome → State → Prop) (XC : String → State → State → Prop) (free : Addr → Prop) : Prop :=
  ∀ T : State, T.heap = H → Stand p l e R s m args below meth c T locs cells slots →
    (∃ (v : Option Value) (st₀ t T' : State) (L : List Loc), st₀.heap = H ∧ Stand p l e R s m args below meth c T' (locs ++ L) (cells + mc) (slots + ms) ∧ (∀ q ∈ L, free q.base) ∧ T'.heap = t.heap ∧ T'.vm = t.vm ∧ Qa st₀ (.returned v) t ∧
      Goes p e below T g T' { g with pc := g.pc + 5, stack := v.toList ++ rest }) ∨
    (∃ (q : Addr) (st₀ t T' : State) (L : List Loc) (E : String) (ce : Cell), st₀.heap = H ∧ Stand p l e R s m args below meth c T' (locs ++ L) (cells + mc) (slots + ms) ∧ (∀ z ∈ L, free z.base) ∧ T'.heap = t.heap ∧ T'.vm = t.vm ∧ XC E st₀ t ∧ t.heap[q]? = some ce ∧ ce.vm = .none ∧ s.vm.findClass E = some ce.cls ∧
      Steps p.tables e below (T.setTop g) ((T'.setTop { g with stack := rest }).pushFrame (.throwing q)))
theorem vx_callIF {T : State} (X : Stand p l e R s m args below meth c T locs cells slots) (hexec : p.tables.exec = Jvm.exec) {own C : String} {index count : Nat} {x y : MethodName} {bytes : ByteArray} {maxL : Nat} {ret : Option FieldType}
    (hown : s.vm.findClass own = some m.cls) (hlink : (Cond.methodLink own index x).before args s = true) (hdecl : (Cond.declares x).before args s = true) (hface : (Cond.interfaceMethod x.cls x.cls x.name x.desc).before args s = true)
    (hsel : (Cond.selects C x y).before args s = true) (hinst : (Cond.instanceMethod y).before args s = true) (hpub : (Cond.publicMethod y).before args s = true) (hunh : (Cond.unhidden C x.name x.desc).before args s = true)
    (hcast : (Cond.castable C x.cls).before args s = true) (hcode : (Cond.code y bytes maxL ret).before args s = true) (hx : x.cls ≠ "java/lang/invoke/MethodHandle" ∧ x.cls ≠ "java/lang/invoke/VarHandle")
    {W9 : Nat} {Pre : Pt → Array Value → Prop} {Post : Pt → Array Value → Option Value → Pt → Prop} {PostX : Pt → Array Value → Addr → Pt → Prop} (hK : vx_Back l R p e below s args y 5 W9 Pre Post PostX)
    {b : Addr} {cellB : Cell} {kB : Class} (hcell : T.heap[b]? = some cellB) (hobj : cellB.vm.isStatics = false) (hcls : s.vm.findClass C = some cellB.cls) (hkB : s.vm.classes[cellB.cls]? = some kB)
    {g : JFrame} (hg : g.method = m) (hsize : g.locals.size = c.maxLocals) {argsL rest : List Value} (hlen : ∀ sig, parseMethodDescriptor x.desc = some sig → argsL.length = sig.parameters.length)
    (hstack : g.stack = argsL.reverse ++ .ref b :: rest) (hW : 2 * g.monitorRoom + (rest.map fun v => v.category).sum ≤ W9) (hdg : decode c.code g.pc = .ok (.invokeinterface index count, 5))
    (hpre : ∀ vm₁, s.WarmedH vm₁ → Pre ⟨T.setVm vm₁, locs, cells, slots⟩ (Value.ref b :: argsL).toArray) :
    (∃ (v : Option Value) (vm₁ : Vm) (B : Pt), s.WarmedH vm₁ ∧ Stand p l e R s m args below meth c B.U B.locs B.cells B.slots ∧ Post ⟨T.setVm vm₁, locs, cells, slots⟩ (Value.ref b :: argsL).toArray v B ∧
      ∀ target, Steps p.tables e below (B.U.setTop { g with pc := g.pc + 5, stack := v.toList ++ rest }) target → Steps p.tables e below (T.setTop g) target) ∨
    (∃ (q : Addr) (vm₁ : Vm) (B : Pt), s.WarmedH vm₁ ∧ Stand p l e R s m args below meth c B.U B.locs B.cells B.slots ∧ PostX ⟨T.setVm vm₁, locs, cells, slots⟩ (Value.ref b :: argsL).toArray q B ∧
      Steps p.tables e below (T.setTop g) ((B.U.setTop { g with stack := rest }).pushFrame (.throwing q))) := by
  obtain ⟨r0, r, hn, hrm, hstR, hsigR⟩ := Cond.declares_spec hdecl
  obtain ⟨cL, kL, r1, hcL, hkL, hiL, hfoundL, hn1⟩ := Cond.interfaceMethod_spec hface
  cases hn.symm.trans hn1
  have hr0cls : r0.cls = cL := Option.some.inj ((findClass_of_methodNamed hn).symm.trans hcL)
  obtain ⟨hnameR, hdescR⟩ := name_of_methodNamed hn hrm
  obtain ⟨mk, methM, hnamed, hmethM, -, habM⟩ := Cond.instanceMethod_spec hinst
  obtain ⟨c2, r2, m2, q1, q2, q3, q4, -⟩ := Cond.selects_spec hsel
  cases hcls.symm.trans q1
  cases hfoundL.symm.trans q2
  cases hnamed.symm.trans q3
  have hselP : selectMethod e.platform s.vm cellB.cls r0 = .method mk := by rw [Launch.admits_selectMethod X.admits]; exact q4
  have hpubM : hasFlag methM.accessFlags Acc.public_ = true := Cond.publicMethod_spec hnamed hmethM hpub
  have hway : ((cellB.cls :: s.vm.superclasses cellB.cls).any fun k => (declaredIn s.vm r.name r.desc k).any fun (_, z) => z.isPrivate || z.isStatic) = false := by
    rw [hnameR, hdescR]; exact Cond.unhidden_spec hcls hunh
  obtain ⟨c3, t3, w1, w2, w3⟩ := Cond.castable_spec hcast
  cases hcls.symm.trans w1
  cases hcL.symm.trans w2
  obtain ⟨vm₁, X₁, hstep₁⟩ := X.invokeinterface hexec hown hlink hn hrm hstR (by rw [hr0cls]; exact hkL) hiL hx (a := b) (cell := cellB) (kcell := kB) hcell
    (fun z h => by rw [h] at hobj; cases hobj) hkB (by rw [hr0cls]; exact w3) hselP hmethM hway hpubM habM (g := g) hg (argsL := argsL) (rest := rest) (hlen _ hsigR) hstack hdg
  rcases hK m meth c ⟨T.setVm vm₁, locs, cells, slots⟩ { g with stack := rest } (.invokeinterface index count) mk (Value.ref b :: argsL).toArray X₁ hg hsize hdg hW (X₁.named hnamed) (hpre vm₁ X₁.warmed) with ⟨v, B, X', hpost, hsteps⟩ | ⟨q, B, X', hpost, hsteps⟩
  · exact Or.inl ⟨v, vm₁, B, X₁.warmed, X', hpost, fun target h => hstep₁ _ fun acts => by rw [doInvoke_state]; exact hsteps.trans h⟩
  · exact Or.inr ⟨q, vm₁, B, X₁.warmed, X', hpost, hstep₁ _ fun acts => by rw [doInvoke_state]; exact hsteps⟩
theorem vx_runF {x y : MethodName} {bytes cc : ByteArray} {maxL nL mc ms n index count : Nat} {ret : Option FieldType} {ws : List Cond} {rm : Room} {Pc : Array Value → State → Prop} {Qc : Array Value → State → Outcome → State → Prop} {XC : String → State → State → Prop} {free : Addr → Prop} {Ts : List Cond} {own C : String} {cC : ClassId} {b : Addr} {As rest : List Value} {g : JFrame}
    (hat : ClassAt s C cC) (S : CallFix p m c cc nL s args Ts own) (hM : vx_Met l y ws rm Pc Qc XC mc ms free) (cw : va_CI R s args own C index x y bytes maxL ret ws rm mc ms n) (hp : PreV s H C b Pc As)
    (hg : g.method = m) (hn : As.length = n) (hsize : g.locals.size = nL) (hstack : g.stack = As.reverse ++ .ref b :: rest) (hW : 2 * g.monitorRoom + (rest.map fun v => v.category).sum ≤ 8) (hdg : decode cc g.pc = .ok (.invokeinterface index count, 5)) (hf : cells + mc ≤ R.cells ∧ slots + ms ≤ R.slots) :
    vx_Run5 p l e R s m args below meth c H locs cells slots mc ms g rest (Qc (Value.ref b :: As).toArray) XC free := by
  obtain ⟨hrc, hrs, hfr, hlo, hws, hcw⟩ := cw.back
  have hini := cw.init
  have hK : vx_Back l R p e below s args y 5 8 (PreOf R mc ms Pc) (PostOf Qc mc ms free) (vx_Post XC mc ms free) := vx_back (bytes := bytes) (maxL := maxL) (ret := ret) hM hp.1 hrc hrs hfr hlo hws hcw (fun a' U hW => word_at hW (Or.inl (by first | rfl | simp [Cond.onTables, Cond.keeps, Cond.steady])) hini)
  obtain ⟨hx, hb, hml, ho, -⟩ := S
  obtain ⟨-, ⟨cellB, hcB, hoB, hclB⟩, hPc⟩ := hp
  obtain ⟨hfc, kB, hkB, -⟩ := hat
  cases hfc.symm.trans hclB
  intro T hT X
  rcases vx_callIF X hx (C := C) (bytes := bytes) (maxL := maxL) (ret := ret) ho cw.link cw.decl cw.face cw.sel cw.inst cw.pub cw.unh cw.cast cw.code cw.notMH hK (by rw [hT]; exact hcB) hoB hclB hkB hg (hsize.trans hml.symm) (argsL := As) (rest := rest) (fun sig h => hn.trans (cw.len sig h)) hstack hW (by rw [hb]; exact hdg)
    (fun vm₁ hW₁ => ⟨hf.1, hf.2, hPc (T.setVm vm₁) hT hW₁⟩) with ⟨v, vm₁, ⟨U', l2, c2, s2⟩, hW₁, X', ⟨g', mk, t, L, e1, e2, hq, h1, hL, h2, h3⟩, st⟩ | ⟨q, vm₁, ⟨U', l2, c2, s2⟩, hW₁, X', ⟨g', mk, t, L, E, ce, e1, e2, hq, hce, hcv, hcl, h1, hL, h2, h3⟩, st⟩
  · dsimp only [Pt.U, Pt.locs, Pt.cells, Pt.slots] at X' e1 e2 h1 h2 h3 st
    subst h1; subst h2; subst h3
    exact Or.inl ⟨v, (T.setVm vm₁).calling g' mk (Value.ref b :: As).toArray, t, U', L, hT, X', hL, e1, e2, hq, st⟩
  · dsimp only [Pt.U, Pt.locs, Pt.cells, Pt.slots] at X' e1 e2 h1 h2 h3 st hcl
    subst h1; subst h2; subst h3
    exact Or.inr ⟨q, (T.setVm vm₁).calling g' mk (Value.ref b :: As).toArray, t, U', L, E, ce, hT, X', hL, e1, e2, hq, hce, hcv, vx_cls hW₁ hcl, st⟩
theorem vx_callFv {S SX : Type} {post : S → Prop} {px : SX → Prop} {B : S → State → Prop} {BX : String → SX → State → Prop} {AX : Nat → Prop} (hr : vx_Run5 p l e R s m args below meth c H locs cells slots mc ms (F0 m pc ls st0) rest (va_Qv post B A1 a) (vx_X px BX AX) free) (hS : va_S A0 H0 H locs) (hA : ∀ q, q < H.size → A1 q → A0 q) (hf : ∀ q, free q → A0 q) (hAX : ∀ q, q < H.size → AX q → A0 q)
    (kx : ∀ (E : String) (ce : Cell) (q9 : Addr) (u : SX) (t : State) (H1 : Heap) (locs1 : List Loc), t.heap = H1 → s.vm.Alike t.vm → px u → BX E u t → H.size ≤ H1.size → (∀ q : Nat, q < H.size → ¬ AX q → H1[q]? = H[q]?) → va_S A0 H0 H1 locs1 → H1[q9]? = some ce → ce.vm = .none → s.vm.findClass E = some ce.cls → vx_W p l e R s m args below meth c H1 locs1 (cells + mc) (slots + ms) Q (F0 m pc ls rest) q9)
    (kk : ∀ (u : S) (t : State) (H1 : Heap) (locs1 : List Loc), t.heap = H1 → s.vm.Alike t.vm → post u → B u t → H.size ≤ H1.size → (∀ q : Nat, q < H.size → ¬ A1 q → H1[q]? = H[q]?) → va_S A0 H0 H1 locs1 → W p l e R s m args below meth c H1 locs1 (cells + mc) (slots + ms) Q (F0 m (pc + 5) ls (rest))) : W p l e R s m args below meth c H locs cells slots Q (F0 m pc ls st0) := by
  intro T hT X
  rcases hr T hT X with ⟨v, st₀, t, T', L, h0, X', hL, e1, e2, ⟨⟨u, hv, hp, hb⟩, hF⟩, st⟩ | ⟨q, st₀, t, T', L, E, ce, h0, X', hL, e1, e2, ⟨u, hp, hb, hF⟩, hce, hcv, hcl, st⟩
  · cases hv
    obtain ⟨k1, k2, k3⟩ := vx_keep h0 e1 hS hA hf hL hF
    obtain ⟨t2, a1, b1⟩ := kk u t T'.heap (locs ++ L) e1.symm (by rw [← e2]; exact X'.warmed.alike) hp hb k1 k2 k3 T' rfl X'
    exact ⟨t2, st t2 a1, b1⟩
  · obtain ⟨k1, k2, k3⟩ := vx_keep h0 e1 hS hAX hf hL hF
    obtain ⟨t2, a1, b1⟩ := kx E ce q u t T'.heap (locs ++ L) e1.symm (by rw [← e2]; exact X'.warmed.alike) hp hb k1 k2 k3 (by rw [e1]; exact hce) hcv hcl T' rfl X'
    exact ⟨t2, st.trans a1, b1⟩
theorem vx_callFi {S SX : Type} {post : Int32 → S → Prop} {px : SX → Prop} {B : S → State → Prop} {BX : String → SX → State → Prop} {AX : Nat → Prop} (hr : vx_Run5 p l e R s m args below meth c H locs cells slots mc ms (F0 m pc ls st0) rest (va_Qi post B A1 a) (vx_X px BX AX) free) (hS : va_S A0 H0 H locs) (hA : ∀ q, q < H.size → A1 q → A0 q) (hf : ∀ q, free q → A0 q) (hAX : ∀ q, q < H.size → AX q → A0 q)
    (kx : ∀ (E : String) (ce : Cell) (q9 : Addr) (u : SX) (t : State) (H1 : Heap) (locs1 : List Loc), t.heap = H1 → s.vm.Alike t.vm → px u → BX E u t → H.size ≤ H1.size → (∀ q : Nat, q < H.size → ¬ AX q → H1[q]? = H[q]?) → va_S A0 H0 H1 locs1 → H1[q9]? = some ce → ce.vm = .none → s.vm.findClass E = some ce.cls → vx_W p l e R s m args below meth c H1 locs1 (cells + mc) (slots + ms) Q (F0 m pc ls rest) q9)
    (kk : ∀ (r : Int32) (u : S) (t : State) (H1 : Heap) (locs1 : List Loc), t.heap = H1 → s.vm.Alike t.vm → post r u → B u t → H.size ≤ H1.size → (∀ q : Nat, q < H.size → ¬ A1 q → H1[q]? = H[q]?) → va_S A0 H0 H1 locs1 → W p l e R s m args below meth c H1 locs1 (cells + mc) (slots + ms) Q (F0 m (pc + 5) ls (.int r :: rest))) : W p l e R s m args below meth c H locs cells slots Q (F0 m pc ls st0) := by
  intro T hT X
  rcases hr T hT X with ⟨v, st₀, t, T', L, h0, X', hL, e1, e2, ⟨⟨r, u, hv, hp, hb⟩, hF⟩, st⟩ | ⟨q, st₀, t, T', L, E, ce, h0, X', hL, e1, e2, ⟨u, hp, hb, hF⟩, hce, hcv, hcl, st⟩
  · cases hv
    obtain ⟨k1, k2, k3⟩ := vx_keep h0 e1 hS hA hf hL hF
    obtain ⟨t2, a1, b1⟩ := kk r u t T'.heap (locs ++ L) e1.symm (by rw [← e2]; exact X'.warmed.alike) hp hb k1 k2 k3 T' rfl X'
    exact ⟨t2, st t2 a1, b1⟩
  · obtain ⟨k1, k2, k3⟩ := vx_keep h0 e1 hS hAX hf hL hF
    obtain ⟨t2, a1, b1⟩ := kx E ce q u t T'.heap (locs ++ L) e1.symm (by rw [← e2]; exact X'.warmed.alike) hp hb k1 k2 k3 (by rw [e1]; exact hce) hcv hcl T' rfl X'
    exact ⟨t2, st.trans a1, b1⟩
theorem vx_callFl {S SX : Type} {post : Int64 → S → Prop} {px : SX → Prop} {B : S → State → Prop} {BX : String → SX → State → Prop} {AX : Nat → Prop} (hr : vx_Run5 p l e R s m args below meth c H locs cells slots mc ms (F0 m pc ls st0) rest (va_Ql post B A1 a) (vx_X px BX AX) free) (hS : va_S A0 H0 H locs) (hA : ∀ q, q < H.size → A1 q → A0 q) (hf : ∀ q, free q → A0 q) (hAX : ∀ q, q < H.size → AX q → A0 q)
    (kx : ∀ (E : String) (ce : Cell) (q9 : Addr) (u : SX) (t : State) (H1 : Heap) (locs1 : List Loc), t.heap = H1 → s.vm.Alike t.vm → px u → BX E u t → H.size ≤ H1.size → (∀ q : Nat, q < H.size → ¬ AX q → H1[q]? = H[q]?) → va_S A0 H0 H1 locs1 → H1[q9]? = some ce → ce.vm = .none → s.vm.findClass E = some ce.cls → vx_W p l e R s m args below meth c H1 locs1 (cells + mc) (slots + ms) Q (F0 m pc ls rest) q9)
    (kk : ∀ (r : Int64) (u : S) (t : State) (H1 : Heap) (locs1 : List Loc), t.heap = H1 → s.vm.Alike t.vm → post r u → B u t → H.size ≤ H1.size → (∀ q : Nat, q < H.size → ¬ A1 q → H1[q]? = H[q]?) → va_S A0 H0 H1 locs1 → W p l e R s m args below meth c H1 locs1 (cells + mc) (slots + ms) Q (F0 m (pc + 5) ls (.long r :: rest))) : W p l e R s m args below meth c H locs cells slots Q (F0 m pc ls st0) := by
  intro T hT X
  rcases hr T hT X with ⟨v, st₀, t, T', L, h0, X', hL, e1, e2, ⟨⟨r, u, hv, hp, hb⟩, hF⟩, st⟩ | ⟨q, st₀, t, T', L, E, ce, h0, X', hL, e1, e2, ⟨u, hp, hb, hF⟩, hce, hcv, hcl, st⟩
  · cases hv
    obtain ⟨k1, k2, k3⟩ := vx_keep h0 e1 hS hA hf hL hF
    obtain ⟨t2, a1, b1⟩ := kk r u t T'.heap (locs ++ L) e1.symm (by rw [← e2]; exact X'.warmed.alike) hp hb k1 k2 k3 T' rfl X'
    exact ⟨t2, st t2 a1, b1⟩
  · obtain ⟨k1, k2, k3⟩ := vx_keep h0 e1 hS hAX hf hL hF
    obtain ⟨t2, a1, b1⟩ := kx E ce q u t T'.heap (locs ++ L) e1.symm (by rw [← e2]; exact X'.warmed.alike) hp hb k1 k2 k3 (by rw [e1]; exact hce) hcv hcl T' rfl X'
    exact ⟨t2, st.trans a1, b1⟩
theorem vx_callFf {S SX : Type} {post : UInt32 → S → Prop} {px : SX → Prop} {B : S → State → Prop} {BX : String → SX → State → Prop} {AX : Nat → Prop} (hr : vx_Run5 p l e R s m args below meth c H locs cells slots mc ms (F0 m pc ls st0) rest (va_Qf post B A1 a) (vx_X px BX AX) free) (hS : va_S A0 H0 H locs) (hA : ∀ q, q < H.size → A1 q → A0 q) (hf : ∀ q, free q → A0 q) (hAX : ∀ q, q < H.size → AX q → A0 q)
    (kx : ∀ (E : String) (ce : Cell) (q9 : Addr) (u : SX) (t : State) (H1 : Heap) (locs1 : List Loc), t.heap = H1 → s.vm.Alike t.vm → px u → BX E u t → H.size ≤ H1.size → (∀ q : Nat, q < H.size → ¬ AX q → H1[q]? = H[q]?) → va_S A0 H0 H1 locs1 → H1[q9]? = some ce → ce.vm = .none → s.vm.findClass E = some ce.cls → vx_W p l e R s m args below meth c H1 locs1 (cells + mc) (slots + ms) Q (F0 m pc ls rest) q9)
    (kk : ∀ (r : UInt32) (u : S) (t : State) (H1 : Heap) (locs1 : List Loc), t.heap = H1 → s.vm.Alike t.vm → post r u → B u t → H.size ≤ H1.size → (∀ q : Nat, q < H.size → ¬ A1 q → H1[q]? = H[q]?) → va_S A0 H0 H1 locs1 → W p l e R s m args below meth c H1 locs1 (cells + mc) (slots + ms) Q (F0 m (pc + 5) ls (.float r :: rest))) : W p l e R s m args below meth c H locs cells slots Q (F0 m pc ls st0) := by
  intro T hT X
  rcases hr T hT X with ⟨v, st₀, t, T', L, h0, X', hL, e1, e2, ⟨⟨r, u, hv, hp, hb⟩, hF⟩, st⟩ | ⟨q, st₀, t, T', L, E, ce, h0, X', hL, e1, e2, ⟨u, hp, hb, hF⟩, hce, hcv, hcl, st⟩
  · cases hv
    obtain ⟨k1, k2, k3⟩ := vx_keep h0 e1 hS hA hf hL hF
    obtain ⟨t2, a1, b1⟩ := kk r u t T'.heap (locs ++ L) e1.symm (by rw [← e2]; exact X'.warmed.alike) hp hb k1 k2 k3 T' rfl X'
    exact ⟨t2, st t2 a1, b1⟩
  · obtain ⟨k1, k2, k3⟩ := vx_keep h0 e1 hS hAX hf hL hF
    obtain ⟨t2, a1, b1⟩ := kx E ce q u t T'.heap (locs ++ L) e1.symm (by rw [← e2]; exact X'.warmed.alike) hp hb k1 k2 k3 (by rw [e1]; exact hce) hcv hcl T' rfl X'
    exact ⟨t2, st.trans a1, b1⟩
theorem vx_callFd {S SX : Type} {post : UInt64 → S → Prop} {px : SX → Prop} {B : S → State → Prop} {BX : String → SX → State → Prop} {AX : Nat → Prop} (hr : vx_Run5 p l e R s m args below meth c H locs cells slots mc ms (F0 m pc ls st0) rest (va_Qd post B A1 a) (vx_X px BX AX) free) (hS : va_S A0 H0 H locs) (hA : ∀ q, q < H.size → A1 q → A0 q) (hf : ∀ q, free q → A0 q) (hAX : ∀ q, q < H.size → AX q → A0 q)
    (kx : ∀ (E : String) (ce : Cell) (q9 : Addr) (u : SX) (t : State) (H1 : Heap) (locs1 : List Loc), t.heap = H1 → s.vm.Alike t.vm → px u → BX E u t → H.size ≤ H1.size → (∀ q : Nat, q < H.size → ¬ AX q → H1[q]? = H[q]?) → va_S A0 H0 H1 locs1 → H1[q9]? = some ce → ce.vm = .none → s.vm.findClass E = some ce.cls → vx_W p l e R s m args below meth c H1 locs1 (cells + mc) (slots + ms) Q (F0 m pc ls rest) q9)
    (kk : ∀ (r : UInt64) (u : S) (t : State) (H1 : Heap) (locs1 : List Loc), t.heap = H1 → s.vm.Alike t.vm → post r u → B u t → H.size ≤ H1.size → (∀ q : Nat, q < H.size → ¬ A1 q → H1[q]? = H[q]?) → va_S A0 H0 H1 locs1 → W p l e R s m args below meth c H1 locs1 (cells + mc) (slots + ms) Q (F0 m (pc + 5) ls (.double r :: rest))) : W p l e R s m args below meth c H locs cells slots Q (F0 m pc ls st0) := by
  intro T hT X
  rcases hr T hT X with ⟨v, st₀, t, T', L, h0, X', hL, e1, e2, ⟨⟨r, u, hv, hp, hb⟩, hF⟩, st⟩ | ⟨q, st₀, t, T', L, E, ce, h0, X', hL, e1, e2, ⟨u, hp, hb, hF⟩, hce, hcv, hcl, st⟩
  · cases hv
    obtain ⟨k1, k2, k3⟩ := vx_keep h0 e1 hS hA hf hL hF
    obtain ⟨t2, a1, b1⟩ := kk r u t T'.heap (locs ++ L) e1.symm (by rw [← e2]; exact X'.warmed.alike) hp hb k1 k2 k3 T' rfl X'
    exact ⟨t2, st t2 a1, b1⟩
  · obtain ⟨k1, k2, k3⟩ := vx_keep h0 e1 hS hAX hf hL hF
    obtain ⟨t2, a1, b1⟩ := kx E ce q u t T'.heap (locs ++ L) e1.symm (by rw [← e2]; exact X'.warmed.alike) hp hb k1 k2 k3 (by rw [e1]; exact hce) hcv hcl T' rfl X'
    exact ⟨t2, st.trans a1, b1⟩
end
/-! ===== END ===== -/
/-! ===== BEGIN by an interface, a method with a table of its own that may throw (follows va_callIFW, va_runFW) ===== -/
section
variable {p : Program} {l : Launch} {e : Env} {R : Room} {s : State} {m : MethodId} {args : Array Value} {below : List Frame} {meth : Method} {c : Code} {H : Heap} {locs : List Loc} {cells slots : Nat}
theorem vx_callIFW {T : State} (X : Stand p l e R s m args below meth c T locs cells slots) (hexec : p.tables.exec = Jvm.exec) {own C : String} {index count : Nat} {x y : MethodName} {bytes : ByteArray} {maxL : Nat} {ret : Option FieldType} {hh : List (Nat × Nat × Nat × Nat)}
    (hown : s.vm.findClass own = some m.cls) (hlink : (Cond.methodLink own index x).before args s = true) (hdecl : (Cond.declares x).before args s = true) (hface : (Cond.interfaceMethod x.cls x.cls x.name x.desc).before args s = true)
    (hsel : (Cond.selects C x y).before args s = true) (hinst : (Cond.instanceMethod y).before args s = true) (hpub : (Cond.publicMethod y).before args s = true) (hunh : (Cond.unhidden C x.name x.desc).before args s = true)
    (hcast : (Cond.castable C x.cls).before args s = true) (hcode : (Cond.codeWith y bytes maxL ret hh).before args s = true) (hx : x.cls ≠ "java/lang/invoke/MethodHandle" ∧ x.cls ≠ "java/lang/invoke/VarHandle")
    {W : Nat} {Pre : Pt → Array Value → Prop} {Post : Pt → Array Value → Option Value → Pt → Prop} {PostX : Pt → Array Value → Addr → Pt → Prop} (hK : vx_Back l R p e below s args y 5 W Pre Post PostX)
    {b : Addr} {cellB : Cell} {kB : Class} (hcell : T.heap[b]? = some cellB) (hobj : cellB.vm.isStatics = false) (hcls : s.vm.findClass C = some cellB.cls) (hkB : s.vm.classes[cellB.cls]? = some kB)
    {g : JFrame} (hg : g.method = m) (hsize : g.locals.size = c.maxLocals) {argsL rest : List Value} (hlen : ∀ sig, parseMethodDescriptor x.desc = some sig → argsL.length = sig.parameters.length)
    (hstack : g.stack = argsL.reverse ++ .ref b :: rest) (hW : 2 * g.monitorRoom + (rest.map fun v => v.category).sum ≤ W) (hdg : decode c.code g.pc = .ok (.invokeinterface index count, 5))
    (hpre : ∀ vm₁, s.WarmedH vm₁ → Pre ⟨T.setVm vm₁, locs, cells, slots⟩ (Value.ref b :: argsL).toArray) :
    (∃ (v : Option Value) (vm₁ : Vm) (B : Pt), s.WarmedH vm₁ ∧ Stand p l e R s m args below meth c B.U B.locs B.cells B.slots ∧ Post ⟨T.setVm vm₁, locs, cells, slots⟩ (Value.ref b :: argsL).toArray v B ∧
      ∀ target, Steps p.tables e below (B.U.setTop { g with pc := g.pc + 5, stack := v.toList ++ rest }) target → Steps p.tables e below (T.setTop g) target) ∨
    (∃ (q : Addr) (vm₁ : Vm) (B : Pt), s.WarmedH vm₁ ∧ Stand p l e R s m args below meth c B.U B.locs B.cells B.slots ∧ PostX ⟨T.setVm vm₁, locs, cells, slots⟩ (Value.ref b :: argsL).toArray q B ∧
      Steps p.tables e below (T.setTop g) ((B.U.setTop { g with stack := rest }).pushFrame (.throwing q))) := by
  obtain ⟨r0, r, hn, hrm, hstR, hsigR⟩ := Cond.declares_spec hdecl
  obtain ⟨cL, kL, r1, hcL, hkL, hiL, hfoundL, hn1⟩ := Cond.interfaceMethod_spec hface
  cases hn.symm.trans hn1
  have hr0cls : r0.cls = cL := Option.some.inj ((findClass_of_methodNamed hn).symm.trans hcL)
  obtain ⟨hnameR, hdescR⟩ := name_of_methodNamed hn hrm
  obtain ⟨mk, methM, hnamed, hmethM, -, habM⟩ := Cond.instanceMethod_spec hinst
  obtain ⟨c2, r2, m2, q1, q2, q3, q4, -⟩ := Cond.selects_spec hsel
  cases hcls.symm.trans q1
  cases hfoundL.symm.trans q2
  cases hnamed.symm.trans q3
  have hselP : selectMethod e.platform s.vm cellB.cls r0 = .method mk := by rw [Launch.admits_selectMethod X.admits]; exact q4
  have hpubM : hasFlag methM.accessFlags Acc.public_ = true := Cond.publicMethod_spec hnamed hmethM hpub
  have hway : ((cellB.cls :: s.vm.superclasses cellB.cls).any fun k => (declaredIn s.vm r.name r.desc k).any fun (_, z) => z.isPrivate || z.isStatic) = false := by
    rw [hnameR, hdescR]; exact Cond.unhidden_spec hcls hunh
  obtain ⟨c3, t3, w1, w2, w3⟩ := Cond.castable_spec hcast
  cases hcls.symm.trans w1
  cases hcL.symm.trans w2
  obtain ⟨vm₁, X₁, hstep₁⟩ := X.invokeinterface hexec hown hlink hn hrm hstR (by rw [hr0cls]; exact hkL) hiL hx (a := b) (cell := cellB) (kcell := kB) hcell
    (fun z h => by rw [h] at hobj; cases hobj) hkB (by rw [hr0cls]; exact w3) hselP hmethM hway hpubM habM (g := g) hg (argsL := argsL) (rest := rest) (hlen _ hsigR) hstack hdg
  rcases hK m meth c ⟨T.setVm vm₁, locs, cells, slots⟩ { g with stack := rest } (.invokeinterface index count) mk (Value.ref b :: argsL).toArray X₁ hg hsize hdg hW (X₁.named hnamed) (hpre vm₁ X₁.warmed) with ⟨v, B, X', hpost, hsteps⟩ | ⟨q, B, X', hpost, hsteps⟩
  · exact Or.inl ⟨v, vm₁, B, X₁.warmed, X', hpost, fun target h => hstep₁ _ fun acts => by rw [doInvoke_state]; exact hsteps.trans h⟩
  · exact Or.inr ⟨q, vm₁, B, X₁.warmed, X', hpost, hstep₁ _ fun acts => by rw [doInvoke_state]; exact hsteps⟩
theorem vx_runFW {x y : MethodName} {bytes cc : ByteArray} {maxL nL mc ms n index count : Nat} {ret : Option FieldType} {hh : List (Nat × Nat × Nat × Nat)} {ws : List Cond} {rm : Room} {Pc : Array Value → State → Prop} {Qc : Array Value → State → Outcome → State → Prop} {XC : String → State → State → Prop} {free : Addr → Prop} {Ts : List Cond} {own C : String} {cC : ClassId} {b : Addr} {As rest : List Value} {g : JFrame}
    (hat : ClassAt s C cC) (S : CallFix p m c cc nL s args Ts own) (hM : vx_Met l y ws rm Pc Qc XC mc ms free) (cw : va_CIW R s args own C index x y bytes maxL ret hh ws rm mc ms n) (hp : PreV s H C b Pc As)
    (hg : g.method = m) (hn : As.length = n) (hsize : g.locals.size = nL) (hstack : g.stack = As.reverse ++ .ref b :: rest) (hW : 2 * g.monitorRoom + (rest.map fun v => v.category).sum ≤ 8) (hdg : decode cc g.pc = .ok (.invokeinterface index count, 5)) (hf : cells + mc ≤ R.cells ∧ slots + ms ≤ R.slots) :
    vx_Run5 p l e R s m args below meth c H locs cells slots mc ms g rest (Qc (Value.ref b :: As).toArray) XC free := by
  obtain ⟨hrc, hrs, hfr, hlo, hws, hcw⟩ := cw.back
  have hini := cw.init
  have hK : vx_Back l R p e below s args y 5 8 (PreOf R mc ms Pc) (PostOf Qc mc ms free) (vx_Post XC mc ms free) := vx_backW (hh := hh) (bytes := bytes) (maxL := maxL) (ret := ret) hM hp.1 hrc hrs hfr hlo hws hcw (fun a' U hW => word_at hW (Or.inl (by first | rfl | simp [Cond.onTables, Cond.keeps, Cond.steady])) hini)
  obtain ⟨hx, hb, hml, ho, -⟩ := S
  obtain ⟨-, ⟨cellB, hcB, hoB, hclB⟩, hPc⟩ := hp
  obtain ⟨hfc, kB, hkB, -⟩ := hat
  cases hfc.symm.trans hclB
  intro T hT X
  rcases vx_callIFW X hx (C := C) (hh := hh) (bytes := bytes) (maxL := maxL) (ret := ret) ho cw.link cw.decl cw.face cw.sel cw.inst cw.pub cw.unh cw.cast cw.code cw.notMH hK (by rw [hT]; exact hcB) hoB hclB hkB hg (hsize.trans hml.symm) (argsL := As) (rest := rest) (fun sig h => hn.trans (cw.len sig h)) hstack hW (by rw [hb]; exact hdg)
    (fun vm₁ hW₁ => ⟨hf.1, hf.2, hPc (T.setVm vm₁) hT hW₁⟩) with ⟨v, vm₁, ⟨U', l2, c2, s2⟩, hW₁, X', ⟨g', mk, t, L, e1, e2, hq, h1, hL, h2, h3⟩, st⟩ | ⟨q, vm₁, ⟨U', l2, c2, s2⟩, hW₁, X', ⟨g', mk, t, L, E, ce, e1, e2, hq, hce, hcv, hcl, h1, hL, h2, h3⟩, st⟩
  · dsimp only [Pt.U, Pt.locs, Pt.cells, Pt.slots] at X' e1 e2 h1 h2 h3 st
    subst h1; subst h2; subst h3
    exact Or.inl ⟨v, (T.setVm vm₁).calling g' mk (Value.ref b :: As).toArray, t, U', L, hT, X', hL, e1, e2, hq, st⟩
  · dsimp only [Pt.U, Pt.locs, Pt.cells, Pt.slots] at X' e1 e2 h1 h2 h3 st hcl
    subst h1; subst h2; subst h3
    exact Or.inr ⟨q, (T.setVm vm₁).calling g' mk (Value.ref b :: As).toArray, t, U', L, E, ce, hT, X', hL, e1, e2, hq, hce, hcv, vx_cls hW₁ hcl, st⟩
end
/-! ===== END ===== -/
/-! ===== BEGIN .. of methods that hand back an object of the pool ===== -/
section
variable {p : Program} {l : Launch} {e : Env} {R : Room} {s : State} {m : MethodId} {args : Array Value} {below : List Frame} {meth : Method} {c : Code} {H : Heap} {locs : List Loc} {cells slots : Nat} {Q : State → Prop}
variable {mc ms : Nat} {free : Addr → Prop} {A0 A1 : Nat → Prop} {H0 : Heap} {a : Array Value} {pc : Nat} {ls : Array Slot} {st0 rest : List Value}
theorem vx_callq {S SX : Type} {post : Option Nat → S → Prop} {px : SX → Prop} {B : S → State → Prop} {BX : String → SX → State → Prop} {AX : Nat → Prop} (hr : vx_Run p l e R s m args below meth c H locs cells slots mc ms (F0 m pc ls st0) rest (va_Qq post B A1 a) (vx_X px BX AX) free) (hS : va_S A0 H0 H locs) (hA : ∀ q, q < H.size → A1 q → A0 q) (hf : ∀ q, free q → A0 q) (hAX : ∀ q, q < H.size → AX q → A0 q)
    (kx : ∀ (E : String) (ce : Cell) (q9 : Addr) (u : SX) (t : State) (H1 : Heap) (locs1 : List Loc), t.heap = H1 → s.vm.Alike t.vm → px u → BX E u t → H.size ≤ H1.size → (∀ q : Nat, q < H.size → ¬ AX q → H1[q]? = H[q]?) → va_S A0 H0 H1 locs1 → H1[q9]? = some ce → ce.vm = .none → s.vm.findClass E = some ce.cls → vx_W p l e R s m args below meth c H1 locs1 (cells + mc) (slots + ms) Q (F0 m pc ls rest) q9)
    (kk : ∀ (r : Option Nat) (u : S) (t : State) (H1 : Heap) (locs1 : List Loc), t.heap = H1 → s.vm.Alike t.vm → post r u → B u t → H.size ≤ H1.size → (∀ q : Nat, q < H.size → ¬ A1 q → H1[q]? = H[q]?) → va_S A0 H0 H1 locs1 → W p l e R s m args below meth c H1 locs1 (cells + mc) (slots + ms) Q (F0 m (pc + 3) ls (va_rf r :: rest))) : W p l e R s m args below meth c H locs cells slots Q (F0 m pc ls st0) := by
  intro T hT X
  rcases hr T hT X with ⟨v, st₀, t, T', L, h0, X', hL, e1, e2, ⟨⟨r, u, hv, hp, hb⟩, hF⟩, st⟩ | ⟨q, st₀, t, T', L, E, ce, h0, X', hL, e1, e2, ⟨u, hp, hb, hF⟩, hce, hcv, hcl, st⟩
  · cases hv
    obtain ⟨k1, k2, k3⟩ := vx_keep h0 e1 hS hA hf hL hF
    obtain ⟨t2, a1, b1⟩ := kk r u t T'.heap (locs ++ L) e1.symm (by rw [← e2]; exact X'.warmed.alike) hp hb k1 k2 k3 T' rfl X'
    exact ⟨t2, st t2 a1, b1⟩
  · obtain ⟨k1, k2, k3⟩ := vx_keep h0 e1 hS hAX hf hL hF
    obtain ⟨t2, a1, b1⟩ := kx E ce q u t T'.heap (locs ++ L) e1.symm (by rw [← e2]; exact X'.warmed.alike) hp hb k1 k2 k3 (by rw [e1]; exact hce) hcv hcl T' rfl X'
    exact ⟨t2, st.trans a1, b1⟩
end
/-! ===== END ===== -/
/-! ===== BEGIN .. a constant ===== -/
section
variable {p : Program} {l : Launch} {e : Env} {R : Room} {s : State} {m : MethodId} {args : Array Value} {below : List Frame} {meth : Method} {c : Code} {H : Heap} {locs : List Loc} {cells slots : Nat} {Q : State → Prop}
variable {mc ms : Nat} {free : Addr → Prop} {A0 A1 : Nat → Prop} {H0 : Heap} {a : Array Value} {pc : Nat} {ls : Array Slot} {st0 rest : List Value}
theorem vx_calle {ad : Nat → Nat} {S SX : Type} {post : Option Nat → S → Prop} {px : SX → Prop} {B : S → State → Prop} {BX : String → SX → State → Prop} {AX : Nat → Prop} (hr : vx_Run p l e R s m args below meth c H locs cells slots mc ms (F0 m pc ls st0) rest (va_Qe ad post B A1 a) (vx_X px BX AX) free) (hS : va_S A0 H0 H locs) (hA : ∀ q, q < H.size → A1 q → A0 q) (hf : ∀ q, free q → A0 q) (hAX : ∀ q, q < H.size → AX q → A0 q)
    (kx : ∀ (E : String) (ce : Cell) (q9 : Addr) (u : SX) (t : State) (H1 : Heap) (locs1 : List Loc), t.heap = H1 → s.vm.Alike t.vm → px u → BX E u t → H.size ≤ H1.size → (∀ q : Nat, q < H.size → ¬ AX q → H1[q]? = H[q]?) → va_S A0 H0 H1 locs1 → H1[q9]? = some ce → ce.vm = .none → s.vm.findClass E = some ce.cls → vx_W p l e R s m args below meth c H1 locs1 (cells + mc) (slots + ms) Q (F0 m pc ls rest) q9)
    (kk : ∀ (r : Option Nat) (u : S) (t : State) (H1 : Heap) (locs1 : List Loc), t.heap = H1 → s.vm.Alike t.vm → post r u → B u t → H.size ≤ H1.size → (∀ q : Nat, q < H.size → ¬ A1 q → H1[q]? = H[q]?) → va_S A0 H0 H1 locs1 → W p l e R s m args below meth c H1 locs1 (cells + mc) (slots + ms) Q (F0 m (pc + 3) ls (va_re ad r :: rest))) : W p l e R s m args below meth c H locs cells slots Q (F0 m pc ls st0) := by
  intro T hT X
  rcases hr T hT X with ⟨v, st₀, t, T', L, h0, X', hL, e1, e2, ⟨⟨r, u, hv, hp, hb⟩, hF⟩, st⟩ | ⟨q, st₀, t, T', L, E, ce, h0, X', hL, e1, e2, ⟨u, hp, hb, hF⟩, hce, hcv, hcl, st⟩
  · cases hv
    obtain ⟨k1, k2, k3⟩ := vx_keep h0 e1 hS hA hf hL hF
    obtain ⟨t2, a1, b1⟩ := kk r u t T'.heap (locs ++ L) e1.symm (by rw [← e2]; exact X'.warmed.alike) hp hb k1 k2 k3 T' rfl X'
    exact ⟨t2, st t2 a1, b1⟩
  · obtain ⟨k1, k2, k3⟩ := vx_keep h0 e1 hS hAX hf hL hF
    obtain ⟨t2, a1, b1⟩ := kx E ce q u t T'.heap (locs ++ L) e1.symm (by rw [← e2]; exact X'.warmed.alike) hp hb k1 k2 k3 (by rw [e1]; exact hce) hcv hcl T' rfl X'
    exact ⟨t2, st.trans a1, b1⟩
end
/-! ===== END ===== -/
/-! ===== BEGIN .. by an interface, an object ===== -/
section
variable {p : Program} {l : Launch} {e : Env} {R : Room} {s : State} {m : MethodId} {args : Array Value} {below : List Frame} {meth : Method} {c : Code} {H : Heap} {locs : List Loc} {cells slots : Nat} {Q : State → Prop}
variable {mc ms : Nat} {free : Addr → Prop} {A0 A1 : Nat → Prop} {H0 : Heap} {a : Array Value} {pc : Nat} {ls : Array Slot} {st0 rest : List Value}
theorem vx_callFq {S SX : Type} {post : Option Nat → S → Prop} {px : SX → Prop} {B : S → State → Prop} {BX : String → SX → State → Prop} {AX : Nat → Prop} (hr : vx_Run5 p l e R s m args below meth c H locs cells slots mc ms (F0 m pc ls st0) rest (va_Qq post B A1 a) (vx_X px BX AX) free) (hS : va_S A0 H0 H locs) (hA : ∀ q, q < H.size → A1 q → A0 q) (hf : ∀ q, free q → A0 q) (hAX : ∀ q, q < H.size → AX q → A0 q)
    (kx : ∀ (E : String) (ce : Cell) (q9 : Addr) (u : SX) (t : State) (H1 : Heap) (locs1 : List Loc), t.heap = H1 → s.vm.Alike t.vm → px u → BX E u t → H.size ≤ H1.size → (∀ q : Nat, q < H.size → ¬ AX q → H1[q]? = H[q]?) → va_S A0 H0 H1 locs1 → H1[q9]? = some ce → ce.vm = .none → s.vm.findClass E = some ce.cls → vx_W p l e R s m args below meth c H1 locs1 (cells + mc) (slots + ms) Q (F0 m pc ls rest) q9)
    (kk : ∀ (r : Option Nat) (u : S) (t : State) (H1 : Heap) (locs1 : List Loc), t.heap = H1 → s.vm.Alike t.vm → post r u → B u t → H.size ≤ H1.size → (∀ q : Nat, q < H.size → ¬ A1 q → H1[q]? = H[q]?) → va_S A0 H0 H1 locs1 → W p l e R s m args below meth c H1 locs1 (cells + mc) (slots + ms) Q (F0 m (pc + 5) ls (va_rf r :: rest))) : W p l e R s m args below meth c H locs cells slots Q (F0 m pc ls st0) := by
  intro T hT X
  rcases hr T hT X with ⟨v, st₀, t, T', L, h0, X', hL, e1, e2, ⟨⟨r, u, hv, hp, hb⟩, hF⟩, st⟩ | ⟨q, st₀, t, T', L, E, ce, h0, X', hL, e1, e2, ⟨u, hp, hb, hF⟩, hce, hcv, hcl, st⟩
  · cases hv
    obtain ⟨k1, k2, k3⟩ := vx_keep h0 e1 hS hA hf hL hF
    obtain ⟨t2, a1, b1⟩ := kk r u t T'.heap (locs ++ L) e1.symm (by rw [← e2]; exact X'.warmed.alike) hp hb k1 k2 k3 T' rfl X'
    exact ⟨t2, st t2 a1, b1⟩
  · obtain ⟨k1, k2, k3⟩ := vx_keep h0 e1 hS hAX hf hL hF
    obtain ⟨t2, a1, b1⟩ := kx E ce q u t T'.heap (locs ++ L) e1.symm (by rw [← e2]; exact X'.warmed.alike) hp hb k1 k2 k3 (by rw [e1]; exact hce) hcv hcl T' rfl X'
    exact ⟨t2, st.trans a1, b1⟩
end
/-! ===== END ===== -/
/-! ===== BEGIN .. by an interface, a constant ===== -/
section
variable {p : Program} {l : Launch} {e : Env} {R : Room} {s : State} {m : MethodId} {args : Array Value} {below : List Frame} {meth : Method} {c : Code} {H : Heap} {locs : List Loc} {cells slots : Nat} {Q : State → Prop}
variable {mc ms : Nat} {free : Addr → Prop} {A0 A1 : Nat → Prop} {H0 : Heap} {a : Array Value} {pc : Nat} {ls : Array Slot} {st0 rest : List Value}
theorem vx_callFe {ad : Nat → Nat} {S SX : Type} {post : Option Nat → S → Prop} {px : SX → Prop} {B : S → State → Prop} {BX : String → SX → State → Prop} {AX : Nat → Prop} (hr : vx_Run5 p l e R s m args below meth c H locs cells slots mc ms (F0 m pc ls st0) rest (va_Qe ad post B A1 a) (vx_X px BX AX) free) (hS : va_S A0 H0 H locs) (hA : ∀ q, q < H.size → A1 q → A0 q) (hf : ∀ q, free q → A0 q) (hAX : ∀ q, q < H.size → AX q → A0 q)
    (kx : ∀ (E : String) (ce : Cell) (q9 : Addr) (u : SX) (t : State) (H1 : Heap) (locs1 : List Loc), t.heap = H1 → s.vm.Alike t.vm → px u → BX E u t → H.size ≤ H1.size → (∀ q : Nat, q < H.size → ¬ AX q → H1[q]? = H[q]?) → va_S A0 H0 H1 locs1 → H1[q9]? = some ce → ce.vm = .none → s.vm.findClass E = some ce.cls → vx_W p l e R s m args below meth c H1 locs1 (cells + mc) (slots + ms) Q (F0 m pc ls rest) q9)
    (kk : ∀ (r : Option Nat) (u : S) (t : State) (H1 : Heap) (locs1 : List Loc), t.heap = H1 → s.vm.Alike t.vm → post r u → B u t → H.size ≤ H1.size → (∀ q : Nat, q < H.size → ¬ A1 q → H1[q]? = H[q]?) → va_S A0 H0 H1 locs1 → W p l e R s m args below meth c H1 locs1 (cells + mc) (slots + ms) Q (F0 m (pc + 5) ls (va_re ad r :: rest))) : W p l e R s m args below meth c H locs cells slots Q (F0 m pc ls st0) := by
  intro T hT X
  rcases hr T hT X with ⟨v, st₀, t, T', L, h0, X', hL, e1, e2, ⟨⟨r, u, hv, hp, hb⟩, hF⟩, st⟩ | ⟨q, st₀, t, T', L, E, ce, h0, X', hL, e1, e2, ⟨u, hp, hb, hF⟩, hce, hcv, hcl, st⟩
  · cases hv
    obtain ⟨k1, k2, k3⟩ := vx_keep h0 e1 hS hA hf hL hF
    obtain ⟨t2, a1, b1⟩ := kk r u t T'.heap (locs ++ L) e1.symm (by rw [← e2]; exact X'.warmed.alike) hp hb k1 k2 k3 T' rfl X'
    exact ⟨t2, st t2 a1, b1⟩
  · obtain ⟨k1, k2, k3⟩ := vx_keep h0 e1 hS hAX hf hL hF
    obtain ⟨t2, a1, b1⟩ := kx E ce q u t T'.heap (locs ++ L) e1.symm (by rw [← e2]; exact X'.warmed.alike) hp hb k1 k2 k3 (by rw [e1]; exact hce) hcv hcl T' rfl X'
    exact ⟨t2, st.trans a1, b1⟩
end
/-! ===== END ===== -/
/-! ===== BEGIN what the machine throws by itself: null at a field, at athrow ===== -/
section VXM2
variable {p : Program} {l : Launch} {e : Env} {R : Room} {s : State} {m : MethodId} {args : Array Value} {below : List Frame} {meth : Method} {c : Code} {H : Heap} {locs : List Loc} {cells slots : Nat}
variable {Q : State → Prop} {cc : ByteArray} {pc : Nat} {ls : Array Slot} {rest : List Value}
theorem vx_getfN {D cl tys} {own ref C : String} {T : u_T} {N ci index : Nat} {Ts : List Cond} (hexec : p.tables.exec = Jvm.exec) (hb : c.code = cc) (hts : ∀ w ∈ Ts, w.before args s = true) (hin : ∀ w ∈ u_ws C T N, w ∈ Ts) (hown : s.vm.findClass own = some m.cls) (hK : va_K D cl tys s) (hc : cl[ci]? = some (C, T, N)) (k : Nat) (hk : k < N) (hlink : (Cond.fieldLink own index ref (T k).2.1 (T k).2.2.1).before args s = true) (hsame : ∀ x, s.fieldFound? (T k).1 (T k).2.1 (T k).2.2.1 = some x → s.fieldFound? ref (T k).2.1 (T k).2.2.1 = some x) (hdg : decode cc pc = .ok (.getfield index, 3)) (kk : vx_NoteN p l e R s m args below meth c H locs cells slots Q (F0 m pc ls rest)) : W p l e R s m args below meth c H locs cells slots Q (F0 m pc ls (.null :: rest)) := by
  obtain ⟨hS, hfc, kC, hkC, -⟩ := hK.1 ci _ hc
  obtain ⟨cf, kf, fi, f, hi, -⟩ := hS k hk
  intro U hU X
  obtain ⟨vm', X1, st1⟩ := X.getfieldNull hexec hown hlink (hsame _ hi) (u_facts hfc hkC (u_lays hts hin hk) hi).1 (g := F0 m pc ls (.null :: rest)) rfl (rest := rest) rfl (by rw [hb]; exact hdg)
  obtain ⟨t, st, q⟩ := kk (U.setVm vm') hU X1
  exact ⟨t, st1 t st, q⟩
theorem vx_getfNN {D cl tys} {own ref C host : String} {T : u_T} {N ci index : Nat} {Ts : List Cond} (hexec : p.tables.exec = Jvm.exec) (hb : c.code = cc) (hts : ∀ w ∈ Ts, w.before args s = true) (hin : ∀ w ∈ u_ws C T N, w ∈ Ts) (hown : s.vm.findClass own = some m.cls) (hK : va_K D cl tys s) (hc : cl[ci]? = some (C, T, N)) (k : Nat) (hk : k < N) (hlink : (Cond.fieldLinkNest own index ref (T k).2.1 (T k).2.2.1 host).before args s = true) (hsame : ∀ x, s.fieldFound? (T k).1 (T k).2.1 (T k).2.2.1 = some x → s.fieldFound? ref (T k).2.1 (T k).2.2.1 = some x) (hdg : decode cc pc = .ok (.getfield index, 3)) (kk : vx_NoteN p l e R s m args below meth c H locs cells slots Q (F0 m pc ls rest)) : W p l e R s m args below meth c H locs cells slots Q (F0 m pc ls (.null :: rest)) := by
  obtain ⟨hS, hfc, kC, hkC, -⟩ := hK.1 ci _ hc
  obtain ⟨cf, kf, fi, f, hi, -⟩ := hS k hk
  intro U hU X
  obtain ⟨vm', X1, st1⟩ := X.getfieldNullNest hexec hown hlink (hsame _ hi) (u_facts hfc hkC (u_lays hts hin hk) hi).1 (g := F0 m pc ls (.null :: rest)) rfl (rest := rest) rfl (by rw [hb]; exact hdg)
  obtain ⟨t, st, q⟩ := kk (U.setVm vm') hU X1
  exact ⟨t, st1 t st, q⟩
theorem vx_putfN {D cl tys} {own ref C : String} {T : u_T} {N ci index : Nat} {Ts : List Cond} (hexec : p.tables.exec = Jvm.exec) (hb : c.code = cc) (hts : ∀ w ∈ Ts, w.before args s = true) (hin : ∀ w ∈ u_ws C T N, w ∈ Ts) (hown : s.vm.findClass own = some m.cls) (hK : va_K D cl tys s) (hc : cl[ci]? = some (C, T, N)) (k : Nat) (hk : k < N) (hlink : (Cond.fieldLink own index ref (T k).2.1 (T k).2.2.1).before args s = true) (hsame : ∀ x, s.fieldFound? (T k).1 (T k).2.1 (T k).2.2.1 = some x → s.fieldFound? ref (T k).2.1 (T k).2.2.1 = some x) (hfin : (T k).2.2.2 = false) {v : Value} (hdg : decode cc pc = .ok (.putfield index, 3)) (kk : vx_NoteN p l e R s m args below meth c H locs cells slots Q (F0 m pc ls rest)) : W p l e R s m args below meth c H locs cells slots Q (F0 m pc ls (v :: .null :: rest)) := by
  obtain ⟨hS, hfc, kC, hkC, -⟩ := hK.1 ci _ hc
  obtain ⟨cf, kf, fi, f, hi, -⟩ := hS k hk
  have hlay := hts _ (hin _ (u_in_lay hk))
  unfold u_lay at hlay
  rw [if_neg (by rw [hfin]; decide)] at hlay
  obtain ⟨c9, k9, cf9, kf9, fi9, f9, -, -, hi9, hst9, hnf9, -⟩ := Cond.lays_spec hlay
  cases hi.symm.trans hi9
  intro U hU X
  obtain ⟨vm', X1, st1⟩ := X.putfieldNull hexec hown hlink (hsame _ hi) hst9 hnf9 (g := F0 m pc ls (v :: .null :: rest)) rfl (v := v) (rest := rest) rfl (by rw [hb]; exact hdg)
  obtain ⟨t, st, q⟩ := kk (U.setVm vm') hU X1
  exact ⟨t, st1 t st, q⟩
theorem vx_putfNN {D cl tys} {own ref C host : String} {T : u_T} {N ci index : Nat} {Ts : List Cond} (hexec : p.tables.exec = Jvm.exec) (hb : c.code = cc) (hts : ∀ w ∈ Ts, w.before args s = true) (hin : ∀ w ∈ u_ws C T N, w ∈ Ts) (hown : s.vm.findClass own = some m.cls) (hK : va_K D cl tys s) (hc : cl[ci]? = some (C, T, N)) (k : Nat) (hk : k < N) (hlink : (Cond.fieldLinkNest own index ref (T k).2.1 (T k).2.2.1 host).before args s = true) (hsame : ∀ x, s.fieldFound? (T k).1 (T k).2.1 (T k).2.2.1 = some x → s.fieldFound? ref (T k).2.1 (T k).2.2.1 = some x) (hfin : (T k).2.2.2 = false) {v : Value} (hdg : decode cc pc = .ok (.putfield index, 3)) (kk : vx_NoteN p l e R s m args below meth c H locs cells slots Q (F0 m pc ls rest)) : W p l e R s m args below meth c H locs cells slots Q (F0 m pc ls (v :: .null :: rest)) := by
  obtain ⟨hS, hfc, kC, hkC, -⟩ := hK.1 ci _ hc
  obtain ⟨cf, kf, fi, f, hi, -⟩ := hS k hk
  have hlay := hts _ (hin _ (u_in_lay hk))
  unfold u_lay at hlay
  rw [if_neg (by rw [hfin]; decide)] at hlay
  obtain ⟨c9, k9, cf9, kf9, fi9, f9, -, -, hi9, hst9, hnf9, -⟩ := Cond.lays_spec hlay
  cases hi.symm.trans hi9
  intro U hU X
  obtain ⟨vm', X1, st1⟩ := X.putfieldNullNest hexec hown hlink (hsame _ hi) hst9 hnf9 (g := F0 m pc ls (v :: .null :: rest)) rfl (v := v) (rest := rest) rfl (by rw [hb]; exact hdg)
  obtain ⟨t, st, q⟩ := kk (U.setVm vm') hU X1
  exact ⟨t, st1 t st, q⟩
theorem vx_athrowN (hexec : p.tables.exec = Jvm.exec) (hb : c.code = cc) (hdg : decode cc pc = .ok (.athrow, 1)) (k : vx_NoteN p l e R s m args below meth c H locs cells slots Q (F0 m pc ls rest)) : W p l e R s m args below meth c H locs cells slots Q (F0 m pc ls (.null :: rest)) := by
  intro T hT X
  obtain ⟨t, st, q⟩ := k T hT X
  exact ⟨t, X.athrowNull hexec (g := F0 m pc ls (.null :: rest)) rfl (rest := rest) rfl (by rw [hb]; exact hdg) t st, q⟩
end VXM2
/-! ===== END ===== -/
end
section
/-! 'new E("text")' whose text is loaded by ldc_w: turned from the starting text's vx_makeS. -/
section VXK3
variable {p : Program} {l : Launch} {e : Env} {R : Room} {s : State} {m : MethodId} {args : Array Value} {below : List Frame} {meth : Method} {c : Code} {H : Heap} {locs : List Loc} {cells slots : Nat} {Q : State → Prop}
variable {ls : Array Slot} {rest : List Value} {D : va_G} {cl : List vw_C} {tys : List (ClassId × FieldType)} {ws : va_W}
theorem vx_makeSW {cc : ByteArray} {pc : Nat} (hexec : p.tables.exec = Jvm.exec) (hb : c.code = cc) (hl : l.stackTraces = false) {own cls text : String} {names : List String} {ik is ic sa ci : Nat} {A : Nat → Prop} {T0 : u_T}
    (hown : s.vm.findClass own = some m.cls) (hcls : Bundle.fit cls = true) (hnames : ∀ n ∈ names, Bundle.fit n = true)
    (hk : (Cond.classLink own ik cls).before args s = true) (hini : (Cond.initialized cls).before args s = true) (hstr : vk_R own is text sa s) (hat : ∀ w ∈ vx_atS own ic cls names, w.before args s = true)
    (hgood : ∀ w ∈ Cond.classLink own ik cls :: Cond.initialized cls :: vx_atS own ic cls names, vx_ot w = true)
    (hU : vx_Zq Bundle.tN "UNASSIGNED_STACK" Bundle.steD A s s.heap) (hN : vx_Zq Bundle.tN "SUPPRESSED_SENTINEL" Bundle.listD A s s.heap) (hS : va_S A s.heap H locs) (hsize : ls.size = c.maxLocals)
    (d0 : decode cc pc = .ok (.new ik, 3)) (d3 : decode cc (pc + 3) = .ok (.dup, 1)) (d4 : decode cc (pc + 4) = .ok (.ldc_w is, 3)) (d7 : decode cc (pc + 7) = .ok (.invokespecial ic, 3))
    (hK : va_K D cl tys s) (hP : va_P D cl ws H) (hD : va_D A ws) (hA : ∀ q, s.heap.size ≤ q → A q) (hc : cl[ci]? = some (cls, T0, 0))
    (hRframes : names.length + 3 < R.frames) (hRlocals : (rest.map fun v => v.category).sum + (13 * (names.length + 1) + 43) ≤ R.locals) (hRcells : cells + 1 ≤ R.cells) (hRslots : slots + 6 ≤ R.slots)
    (kk : ∀ (q : Nat) (H1 : Heap), va_P D cl (ws ++ [(q, .inr (ci, []))]) H1 → va_D A (ws ++ [(q, .inr (ci, []))]) → va_S A s.heap H1 locs → W p l e R s m args below meth c H1 locs (cells + 1) (slots + 6) Q (F0 m (pc + 10) ls (.ref q :: rest))) :
    W p l e R s m args below meth c H locs cells slots Q (F0 m pc ls rest) := by
  intro T hT X
  subst hT
  have htr : e.platform.stackTraces = false := (show e.platform.stackTraces = l.stackTraces by rw [X.admits.platform]).trans hl
  have Y := vx_rebase X (R' := { frames := R.frames, locals := R.locals, cells := 1, slots := 6 }) (Nat.le_refl _) (Nat.le_refl _) hRcells hRslots
  obtain ⟨s', hA'⟩ : ∃ z, z = (T.setVm s.vm).setFrames (.invoking m args :: below) := ⟨_, rfl⟩
  rw [← hA'] at Y
  have hvm : s'.vm = s.vm := by rw [hA']; rfl
  have hhp : s'.heap = T.heap := by rw [hA']; rfl
  have hW0 : s.WarmedH s'.vm := by rw [hvm]; exact State.WarmedH.refl s
  have hat' : ∀ w ∈ vx_atS own ic cls names, w.before args s' = true := fun w hw => vx_ot_at hW0 hvm.symm (hgood w (List.mem_cons_of_mem _ (List.mem_cons_of_mem _ hw))) (hat w hw)
  have hk' : (Cond.classLink own ik cls).before args s' = true := vx_ot_at hW0 hvm.symm (hgood _ List.mem_cons_self) hk
  have hini' : (Cond.initialized cls).before args s' = true := vx_ot_at hW0 hvm.symm (hgood _ (List.mem_cons_of_mem _ List.mem_cons_self)) hini
  have hU' : vx_Zq Bundle.tN "UNASSIGNED_STACK" Bundle.steD A s' s'.heap := by rw [hhp]; exact vx_Zq.moved hW0.alike (hU.kept hS.2.1)
  have hN' : vx_Zq Bundle.tN "SUPPRESSED_SENTINEL" Bundle.listD A s' s'.heap := by rw [hhp]; exact vx_Zq.moved hW0.alike (hN.kept hS.2.1)
  have h : ∀ w ∈ Bundle.ownAtoms own ic cls names, w.before args s' = true := vx_own hat' (vx_isRefq hU'.1) (vx_isRefq hN'.1) hU'.2.word hN'.2.word
  have hown' : s'.vm.findClass own = some m.cls := by rw [hvm]; exact hown
  have hins : (Cond.instantiable cls 6).before args s' = true := h _ (by simp [Bundle.ownAtoms])
  obtain ⟨vm₁, cX, kX, hfX, hkX, -, -, X₁, st1⟩ := Y.newCold hexec (own := own) (C := cls) (index := ik) (n := 6) hown' hk' hins hini'
    (g := F0 m pc ls rest) rfl (by rw [hb]; exact d0) (Nat.le_refl _) (Nat.le_refl _)
  generalize hT1 : (T.setVm vm₁).pushCell { cls := cX, slots := kX.instanceTypes.map defaultValue, vm := .none } = T1 at X₁ st1
  have hcat : (Value.ref T.heap.size).category = 1 := rfl
  have hcellA : T1.heap[T.heap.size]? = some (freshCell cX kX) := by rw [← hT1]; exact State.heap_pushCell_size _ _
  have d3' : decode c.code (pc + 3) = .ok (.dup, 1) := by rw [hb]; exact d3
  have d4' : decode c.code (pc + 4) = .ok (.ldc_w is, 3) := by rw [hb]; exact d4
  have hstr' : vk_R own is text sa s' := vk_R.warm hW0 hstr
  obtain ⟨V, ce, L, Z, hL, hlt, hcl9, hvm9, st⟩ := vx_ctorMadeS X₁ hexec htr (own := own) (cls := cls) (names := names) (ic := ic) hown' hcls hnames h (fun x hx => nomatch hx) hfX hkX hcellA (by rw [hhp]; exact Nat.le_refl _) (msg := .ref sa) rfl
    (g := { method := m, pc := pc + 7, locals := ls, stack := .ref sa :: .ref T.heap.size :: .ref T.heap.size :: rest, locked := none }) rfl hsize (rest := rest) rfl
    (by rw [hb]; exact d7) hRframes (by simp only [List.map_cons, List.sum_cons, hcat]; omega)
  have Z0 := Stand.forget (locs := []) Z (fun y hy => by rw [hL y hy, hhp]; exact Nat.le_refl _)
  obtain ⟨f1, f2⟩ := vx_frame Z0.same
  rw [hhp] at f1 f2
  have hcid : ce.cls = D.1 ci := by
    rw [hcl9]
    have h1 := (hK.1 ci _ hc).2.1
    rw [hvm] at hfX
    exact Option.some.inj (hfX.symm.trans h1)
  have hh : (V.setCell T.heap.size ce).heap[T.heap.size]? = some ce := heapAt_setCell_self (s := V) ce hlt
  subst hA'
  have X5 := vx_back9 X Y Z0
  have X6 : Stand p l e R s m args below meth c (V.setCell T.heap.size ce) locs (cells + 1) (slots + 6) := { X5 with same := X5.same.mono (by omega) (by omega) }
  have hk9 : ∀ (k : Nat) (x : Nat × va_E), ws[k]? = some x → (V.setCell T.heap.size ce).heap[x.1]? = T.heap[x.1]? := fun k x hx => f2 x.1 ((hP k x hx).lt) (fun z hz => nomatch hz)
  obtain ⟨t, a1, b1⟩ := kk T.heap.size (V.setCell T.heap.size ce).heap ((hP.kept hk9).app (fun k x hx => by
      have hz : k < 1 := (List.getElem?_eq_some_iff.mp hx).1
      rw [show k = 0 by omega] at hx
      cases hx
      exact ⟨_, hc, ce, hh, hcid, hvm9, fun k hk => absurd hk (Nat.not_lt_zero k)⟩)) (hD.push hP rfl (hA _ hS.1)) ⟨Nat.le_trans hS.1 f1, fun q h1 h2 => (f2 q (Nat.lt_of_lt_of_le h1 hS.1) (fun z hz => nomatch hz)).trans (hS.2.1 q h1 h2), hS.2.2⟩ _ rfl X6
  refine ⟨t, st1 _ ?_, b1⟩
  show Steps p.tables e below (T1.setTop { method := m, pc := pc + 3, locals := ls, stack := .ref T.heap.size :: rest, locked := none }) _
  jvm_step X₁.here [X₁.here.top, hexec, d3', Value.category]
  exact X₁.ldcStringW hexec (own := own) (text := text) (index := is) (a := sa) hown' hstr'.1 hstr'.2
    (g := { method := m, pc := pc + 4, locals := ls, stack := .ref T.heap.size :: .ref T.heap.size :: rest, locked := none }) rfl d4' _ (st _ a1)
end VXK3
end
section
/-! An evaluator of bytecode over an abstract heap: cells by their places, references are places; beyond ev_ext stand objects that were there before. -/
abbrev ev_C : Type := (Nat × vp_A) ⊕ (Nat × List Value)
abbrev ev_H : Type := List ev_C × Nat × Nat
abbrev ev_L : Type := List (Option Value)
abbrev ev_I : Type := Instr × Nat × Nat × Nat × Nat

abbrev ev_V : Type := Nat × (Nat → Int32)
def ev_ext : Nat := 1048576
def ev_ldv (ls : ev_L) (i : Nat) : Option Value := match ls[i]? with
  | some (some v) => some v
  | _ => none
/-- a value of two slots below place i is gone -/
def ev_clr (ls : ev_L) (i : Nat) : ev_L := match i with
  | 0 => ls
  | j + 1 => match ls[j]? with
    | some (some v) => if v.category = 2 then ls.set j none else ls
    | _ => ls
def ev_st1 (ls : ev_L) (i : Nat) (v : Value) : Option ev_L := if i < ls.length then some ((ev_clr ls i).set i (some v)) else none
def ev_st2 (ls : ev_L) (i : Nat) (v : Value) : Option ev_L := if i + 1 < ls.length then some (((ev_clr ls i).set i (some v)).set (i + 1) none) else none
def ev_ii (f : Int32 → Int32 → Int32) (st : List Value) : Option (List Value) := match st with
  | .int y :: .int x :: r => some (.int (f x y) :: r)
  | _ => none
def ev_ll (f : Int64 → Int64 → Int64) (st : List Value) : Option (List Value) := match st with
  | .long y :: .long x :: r => some (.long (f x y) :: r)
  | _ => none
def ev_li (f : Int64 → Int32 → Int64) (st : List Value) : Option (List Value) := match st with
  | .int y :: .long x :: r => some (.long (f x y) :: r)
  | _ => none
def ev_cb (c : ClassFile.Cond) (x y : Int32) : Bool := match c with
  | .eq => decide (x = y)
  | .ne => decide (¬ x = y)
  | .lt => decide (x < y)
  | .ge => decide (y ≤ x)
  | .gt => decide (y < x)
  | .le => decide (x ≤ y)
def ev_ix (i : Int32) (n : Nat) : Bool := decide (¬ i < 0) && decide (i.toNatClampNeg < n)
def ev_push (h : ev_H) (c : ev_C) (n : Nat) : ev_H := (h.1 ++ [c], h.2.1 + 1, h.2.2 + n)
def ev_set (h : ev_H) (a : Nat) (c : ev_C) : ev_H := (h.1.set a c, h.2)
def ev_okf (t : Nat) (v : Value) : Bool := match t, v with
  | 0, .int _ => true
  | 1, .long _ => true
  | 2, .ref _ => true
  | _, _ => false
/-- the class of a cell is one of those that an array of references holds -/
def ev_isC (ci : Nat) (c : Option ev_C) : Bool := match c with
  | some (.inr (cj, _)) => cj == ci
  | _ => false
def ev_aldi (V : ev_V) (t : Nat) (st : List Value) (h : ev_H) : Option (List Value) := match st with
  | .int i :: .ref a :: r => if a = ev_ext ∧ t = 0 then (if ev_ix i V.1 then some (.int (V.2 i.toNatClampNeg) :: r) else none) else match h.1[a]? with
    | some (.inl (t', n, .inl f)) => if t' = t then (if ev_ix i n then some (.int (f i.toNatClampNeg) :: r) else none) else none
    | _ => none
  | _ => none
def ev_aldl (st : List Value) (h : ev_H) : Option (List Value) := match st with
  | .int i :: .ref a :: r => match h.1[a]? with
    | some (.inl (t', n, .inr (.inl f))) => if t' = 1 then (if ev_ix i n then some (.long (f i.toNatClampNeg) :: r) else none) else none
    | _ => none
  | _ => none
def ev_aldq (t : Nat) (st : List Value) (h : ev_H) : Option (List Value) := match st with
  | .int i :: .ref a :: r => match h.1[a]? with
    | some (.inl (t', n, .inr (.inr (.inr (.inr f))))) => if t' = t then (if ev_ix i n then (match f i.toNatClampNeg with
      | some q => some (.ref q :: r)
      | none => none) else none) else none
    | _ => none
  | _ => none
def ev_asti (t : Nat) (st : List Value) (h : ev_H) : Option (List Value × ev_H) := match st with
  | .int x :: .int i :: .ref a :: r => match h.1[a]? with
    | some (.inl (t', n, .inl f)) => if t' = t then (if ev_ix i n then (if t = 0 ∨ x = 0 ∨ x = 1 then some (r, ev_set h a (.inl (t, n, .inl (upd f i.toNatClampNeg x)))) else none) else none) else none
    | _ => none
  | _ => none
def ev_astl (st : List Value) (h : ev_H) : Option (List Value × ev_H) := match st with
  | .long x :: .int i :: .ref a :: r => match h.1[a]? with
    | some (.inl (t', n, .inr (.inl f))) => if t' = 1 then (if ev_ix i n then some (r, ev_set h a (.inl (1, n, .inr (.inl (vp_updL f i.toNatClampNeg x))))) else none) else none
    | _ => none
  | _ => none
def ev_astq (t ci : Nat) (st : List Value) (h : ev_H) : Option (List Value × ev_H) := match st with
  | .ref q :: .int i :: .ref a :: r => match h.1[a]? with
    | some (.inl (t', n, .inr (.inr (.inr (.inr f))))) => if t' = t then (if ev_ix i n then (if ev_isC ci h.1[q]? then some (r, ev_set h a (.inl (t, n, .inr (.inr (.inr (.inr (va_up f i.toNatClampNeg (some q)))))))) else none) else none) else none
    | _ => none
  | _ => none
def ev_sw (lo hi dflt : Int) (offs : Array Int) (x : Int) : Option Int := if x < lo ∨ hi < x then some dflt else offs[(x - lo).toNat]?
def ev_jmp (pc : Nat) (off : Int) : Option Nat := if 0 ≤ (pc : Int) + off then some ((pc : Int) + off).toNat else none
def ev_ac (c : ClassFile.ACond) (b : Bool) : Bool := match c with
  | .eq => b
  | .ne => !b
abbrev ev_R : Type := Nat × ev_L × List Value × ev_H
/-- the instructions that neither call nor end -/
def ev_s (V : ev_V) (dft : Nat → List Value) (I : ev_I) (pc : Nat) (ls : ev_L) (st : List Value) (h : ev_H) : Option ev_R := match I with
  | (.iload_n k, _) => match ev_ldv ls k.val with
    | some (.int v) => some (pc + 1, ls, .int v :: st, h)
    | _ => none
  | (.iload k, _) => match ev_ldv ls k with
    | some (.int v) => some (pc + 2, ls, .int v :: st, h)
    | _ => none
  | (.lload_n k, _) => match ev_ldv ls k.val with
    | some (.long v) => some (pc + 1, ls, .long v :: st, h)
    | _ => none
  | (.lload k, _) => match ev_ldv ls k with
    | some (.long v) => some (pc + 2, ls, .long v :: st, h)
    | _ => none
  | (.aload_n k, _) => match ev_ldv ls k.val with
    | some (.ref v) => some (pc + 1, ls, .ref v :: st, h)
    | _ => none
  | (.aload k, _) => match ev_ldv ls k with
    | some (.ref v) => some (pc + 2, ls, .ref v :: st, h)
    | _ => none
  | (.istore_n k, _) => match st with
    | .int v :: r => (ev_st1 ls k.val (.int v)).map (fun l => (pc + 1, l, r, h))
    | _ => none
  | (.istore k, _) => match st with
    | .int v :: r => (ev_st1 ls k (.int v)).map (fun l => (pc + 2, l, r, h))
    | _ => none
  | (.astore_n k, _) => match st with
    | .ref v :: r => (ev_st1 ls k.val (.ref v)).map (fun l => (pc + 1, l, r, h))
    | _ => none
  | (.astore k, _) => match st with
    | .ref v :: r => (ev_st1 ls k (.ref v)).map (fun l => (pc + 2, l, r, h))
    | _ => none
  | (.lstore_n k, _) => match st with
    | .long v :: r => (ev_st2 ls k.val (.long v)).map (fun l => (pc + 1, l, r, h))
    | _ => none
  | (.lstore k, _) => match st with
    | .long v :: r => (ev_st2 ls k (.long v)).map (fun l => (pc + 2, l, r, h))
    | _ => none
  | (.iinc k n, _) => match ev_ldv ls k with
    | some (.int v) => (ev_st1 ls k (.int (v + Int32.ofInt n))).map (fun l => (pc + 3, l, st, h))
    | _ => none
  | (.iconst n, _) => some (pc + 1, ls, .int (Int32.ofInt n) :: st, h)
  | (.bipush n, _) => some (pc + 2, ls, .int (Int8.ofInt n).toInt32 :: st, h)
  | (.sipush n, _) => some (pc + 3, ls, .int (Int16.ofInt n).toInt32 :: st, h)
  | (.lconst n, _) => some (pc + 1, ls, .long (Int64.ofNat n.val) :: st, h)
  | (.iadd, _) => (ev_ii (· + ·) st).map (fun r => (pc + 1, ls, r, h))
  | (.isub, _) => (ev_ii (· - ·) st).map (fun r => (pc + 1, ls, r, h))
  | (.imul, _) => (ev_ii (· * ·) st).map (fun r => (pc + 1, ls, r, h))
  | (.iand, _) => (ev_ii (· &&& ·) st).map (fun r => (pc + 1, ls, r, h))
  | (.ior, _) => (ev_ii (· ||| ·) st).map (fun r => (pc + 1, ls, r, h))
  | (.ishl, _) => (ev_ii (fun x y => x <<< (y &&& 31)) st).map (fun r => (pc + 1, ls, r, h))
  | (.ishr, _) => (ev_ii (fun x y => x >>> (y &&& 31)) st).map (fun r => (pc + 1, ls, r, h))
  | (.idiv, _) => match st with
    | .int y :: .int x :: r => if y = 0 then none else some (pc + 1, ls, .int (x / y) :: r, h)
    | _ => none
  | (.irem, _) => match st with
    | .int y :: .int x :: r => if y = 0 then none else some (pc + 1, ls, .int (x - x / y * y) :: r, h)
    | _ => none
  | (.aconst_null, _) => some (pc + 1, ls, .null :: st, h)
  | (.getstatic _, _, x, _) => if x = 1 then some (pc + 3, ls, .ref (ev_ext + 1) :: st, h) else none
  | (.if_acmp c off, _) => match st with
    | .ref j :: .ref i :: r => if i = j ∨ i < ev_ext ∨ j < ev_ext then (ev_jmp pc off).map (fun t => (if ev_ac c (decide (i = j)) then t else pc + 3, ls, r, h)) else none
    | _ => none
  | (.dup_x1, _) => match st with
    | v :: w :: r => if v.category = 1 ∧ w.category = 1 then some (pc + 1, ls, v :: w :: v :: r, h) else none
    | _ => none
  | (.lushr, _) => (ev_li (fun x y => (x.toUInt64 >>> (y.toInt64.toUInt64 &&& Int64.toUInt64 63)).toInt64) st).map (fun r => (pc + 1, ls, r, h))
  | (.l2i, _) => match st with
    | .long x :: r => some (pc + 1, ls, .int x.toInt32 :: r, h)
    | _ => none
  | (.lookupswitch dflt ps, _) => match st with
    | .int x :: r => if (ps.toList.zip (ps.toList.drop 1)).all (fun (a, next) => a.1 < next.1) = true then (ev_jmp pc (Op.lookupswitch.offset ps.toList dflt x.toInt)).map (fun t => (t, ls, r, h)) else none
    | _ => none
  | (.ineg, _) => match st with
    | .int x :: r => some (pc + 1, ls, .int (-x) :: r, h)
    | _ => none
  | (.ladd, _) => (ev_ll (· + ·) st).map (fun r => (pc + 1, ls, r, h))
  | (.lsub, _) => (ev_ll (· - ·) st).map (fun r => (pc + 1, ls, r, h))
  | (.lmul, _) => (ev_ll (· * ·) st).map (fun r => (pc + 1, ls, r, h))
  | (.land, _) => (ev_ll (· &&& ·) st).map (fun r => (pc + 1, ls, r, h))
  | (.lor, _) => (ev_ll (· ||| ·) st).map (fun r => (pc + 1, ls, r, h))
  | (.lxor, _) => (ev_ll (· ^^^ ·) st).map (fun r => (pc + 1, ls, r, h))
  | (.lshl, _) => (ev_li (fun x y => x <<< (y.toInt64 &&& 63)) st).map (fun r => (pc + 1, ls, r, h))
  | (.lshr, _) => (ev_li (fun x y => x >>> (y.toInt64 &&& 63)) st).map (fun r => (pc + 1, ls, r, h))
  | (.lcmp, _) => match st with
    | .long y :: .long x :: r => some (pc + 1, ls, .int (lg_cmp x y) :: r, h)
    | _ => none
  | (.i2l, _) => match st with
    | .int x :: r => some (pc + 1, ls, .long x.toInt64 :: r, h)
    | _ => none
  | (.i2c, _) => match st with
    | .int x :: r => some (pc + 1, ls, .int (x.toUInt32 % 65536).toInt32 :: r, h)
    | _ => none
  | (.goto off, _) => (ev_jmp pc off).map (fun t => (t, ls, st, h))
  | (.ifCond c off, _) => match st with
    | .int x :: r => (ev_jmp pc off).map (fun t => (if ev_cb c x 0 then t else pc + 3, ls, r, h))
    | _ => none
  | (.if_icmp c off, _) => match st with
    | .int y :: .int x :: r => (ev_jmp pc off).map (fun t => (if ev_cb c x y then t else pc + 3, ls, r, h))
    | _ => none
  | (.tableswitch dflt lo hi offs, _) => match st with
    | .int x :: r => (ev_sw lo hi dflt offs x.toInt).bind (fun o => (ev_jmp pc o).map (fun t => (t, ls, r, h)))
    | _ => none
  | (.dup, _) => match st with
    | v :: r => if v.category = 1 then some (pc + 1, ls, v :: v :: r, h) else none
    | _ => none
  | (.dup2, _) => match st with
    | v :: w :: r => if v.category = 1 ∧ w.category = 1 then some (pc + 1, ls, v :: w :: v :: w :: r, h) else none
    | _ => none
  | (.pop, _) => match st with
    | v :: r => if v.category = 1 then some (pc + 1, ls, r, h) else none
    | _ => none
  | (.iaload, _) => (ev_aldi V 0 st h).map (fun r => (pc + 1, ls, r, h))
  | (.laload, _) => (ev_aldl st h).map (fun r => (pc + 1, ls, r, h))
  | (.baload, _) => (ev_aldi V 2 st h).map (fun r => (pc + 1, ls, r, h))
  | (.iastore, _) => (ev_asti 0 st h).map (fun r => (pc + 1, ls, r.1, r.2))
  | (.lastore, _) => (ev_astl st h).map (fun r => (pc + 1, ls, r.1, r.2))
  | (.bastore, _) => (ev_asti 2 st h).map (fun r => (pc + 1, ls, r.1, r.2))
  | (.aaload, _, x, _) => (ev_aldq x st h).map (fun r => (pc + 1, ls, r, h))
  | (.aastore, _, x, y, _) => (ev_astq x y st h).map (fun r => (pc + 1, ls, r.1, r.2))
  | (.arraylength, _) => match st with
    | .ref a :: r => if a = ev_ext then some (pc + 1, ls, .int (Int32.ofNat V.1) :: r, h) else if a = ev_ext + 1 then some (pc + 1, ls, .int 0 :: r, h) else match h.1[a]? with
      | some (.inl (t, n, _)) => if t < 5 then some (pc + 1, ls, .int (Int32.ofNat n) :: r, h) else none
      | _ => none
    | _ => none
  | (.newarray ty, _) => match st with
    | .int n :: r => if n < 0 then none else if 1000000 < n.toNatClampNeg then none else match ty with
      | .int => some (pc + 2, ls, .ref h.2.1 :: r, ev_push h (.inl (0, n.toNatClampNeg, .inl (fun _ => 0))) n.toNatClampNeg)
      | .long => some (pc + 2, ls, .ref h.2.1 :: r, ev_push h (.inl (1, n.toNatClampNeg, .inr (.inl (fun _ => 0)))) n.toNatClampNeg)
      | .boolean => some (pc + 2, ls, .ref h.2.1 :: r, ev_push h (.inl (2, n.toNatClampNeg, .inl (fun _ => 0))) n.toNatClampNeg)
      | _ => none
    | _ => none
  | (.anewarray _, _, x, _) => match st with
    | .int n :: r => if n < 0 then none else if 1000000 < n.toNatClampNeg then none else some (pc + 3, ls, .ref h.2.1 :: r, ev_push h (.inl (x, n.toNatClampNeg, .inr (.inr (.inr (.inr (fun _ => none)))))) n.toNatClampNeg)
    | _ => none
  | (.getfield _, _, x, y, _) => match st with
    | .ref a :: r => match h.1[a]? with
      | some (.inr (ci, fs)) => if ci = x then (match fs[y]? with
        | some v => some (pc + 3, ls, v :: r, h)
        | none => none) else none
      | _ => none
    | _ => none
  | (.putfield _, _, x, y, z) => match st with
    | v :: .ref a :: r => match h.1[a]? with
      | some (.inr (ci, fs)) => if ci = x then (if ev_okf (z % 4) v = true ∧ y < fs.length then some (pc + 3, ls, r, ev_set h a (.inr (ci, fs.set y v))) else none) else none
      | _ => none
    | _ => none
  | (.new _, _, x, _) => some (pc + 3, ls, .ref h.2.1 :: st, ev_push h (.inr (x, dft x)) (dft x).length)
  | (.ldc _, _, x, _) => some (pc + 2, ls, .int (Int32.ofNat x) :: st, h)
  | (.ldc_w _, _, x, _) => some (pc + 3, ls, .int (Int32.ofNat x) :: st, h)
  | (.ldc2_w _, _, x, _) => some (pc + 3, ls, .long (Int64.ofNat x) :: st, h)
  | (.checkcast _, _, x, _) => match st with
    | .ref a :: r => if ev_isC x h.1[a]? then some (pc + 3, ls, .ref a :: r, h) else none
    | _ => none
  | _ => none
end
section
/-! What the evaluator's state says of the machine's; a step of the one is a step of the other. -/
def ev_ad (base : Nat) (ex : Nat → Nat) (i : Nat) : Nat := if i < ev_ext then base + i else ex (i - ev_ext)
def ev_tv (ad : Nat → Nat) (v : Value) : Value := match v with
  | .ref i => .ref (ad i)
  | v => v
def ev_cv (ad : Nat → Nat) (aC : Nat → ClassId) (e : ev_C) : va_E := match e with
  | .inl (t, n, .inl f) => .inl (aC t, n, .inl f)
  | .inl (t, n, .inr (.inl f)) => .inl (aC t, n, .inr (.inl f))
  | .inl (t, n, .inr (.inr (.inl f))) => .inl (aC t, n, .inr (.inr (.inl f)))
  | .inl (t, n, .inr (.inr (.inr (.inl f)))) => .inl (aC t, n, .inr (.inr (.inr (.inl f))))
  | .inl (t, n, .inr (.inr (.inr (.inr f)))) => .inl (aC t, n, .inr (.inr (.inr (.inr (fun j => (f j).map ad)))))
  | .inr (ci, fs) => .inr (ci, fs.map (ev_tv ad))
def ev_ws (ad : Nat → Nat) (aC : Nat → ClassId) (cs : List ev_C) : va_W := cs.mapIdx (fun i e => (ad i, ev_cv ad aC e))
theorem ev_ws_get (ad : Nat → Nat) (aC : Nat → ClassId) (cs : List ev_C) (k : Nat) : (ev_ws ad aC cs)[k]? = (cs[k]?).map (fun e => (ad k, ev_cv ad aC e)) := by
  simp [ev_ws]
theorem ev_ws_at {ad : Nat → Nat} {aC : Nat → ClassId} {cs : List ev_C} {k : Nat} {e : ev_C} (h : cs[k]? = some e) : (ev_ws ad aC cs)[k]? = some (ad k, ev_cv ad aC e) := by
  rw [ev_ws_get, h]; rfl
theorem ev_ws_set {ad : Nat → Nat} {aC : Nat → ClassId} {cs : List ev_C} {k : Nat} {e : ev_C} : (ev_ws ad aC cs).set k (ad k, ev_cv ad aC e) = ev_ws ad aC (cs.set k e) := by
  apply List.ext_getElem?
  intro j
  rw [ev_ws_get, List.getElem?_set, List.getElem?_set, ev_ws_get]
  by_cases hj : k = j
  · subst hj
    by_cases hk : k < cs.length
    · simp [ev_ws, hk]
    · simp [ev_ws, hk]
  · simp [hj]
theorem ev_ws_push {ad : Nat → Nat} {aC : Nat → ClassId} {cs : List ev_C} {e : ev_C} : ev_ws ad aC cs ++ [(ad cs.length, ev_cv ad aC e)] = ev_ws ad aC (cs ++ [e]) := by
  simp [ev_ws, List.mapIdx_append]
theorem ev_ad_in {base : Nat} {ex : Nat → Nat} {i : Nat} (h : i < ev_ext) : ev_ad base ex i = base + i := by simp [ev_ad, h]
/-- the abstract heap and the machine's -/
def ev_rel (D : va_G) (cl : List vw_C) (aC : Nat → ClassId) (base : Nat) (ex : Nat → Nat) (h : ev_H) (H : Heap) : Prop :=
  va_P D cl (ev_ws (ev_ad base ex) aC h.1) H ∧ H.size = base + h.1.length ∧ h.2.1 = h.1.length ∧ h.1.length ≤ ev_ext
theorem ev_D {base : Nat} {ex : Nat → Nat} {aC : Nat → ClassId} {cs : List ev_C} (h : cs.length ≤ ev_ext) : va_D (fun q : Nat => base ≤ q) (ev_ws (ev_ad base ex) aC cs) := by
  have key : ∀ (k : Nat) (q : Nat × va_E), (ev_ws (ev_ad base ex) aC cs)[k]? = some q → q.1 = base + k := by
    intro k q hq
    rw [ev_ws_get] at hq
    cases hc : cs[k]? with
    | none => rw [hc] at hq; cases hq
    | some e =>
      rw [hc] at hq
      have hk : k < cs.length := (List.getElem?_eq_some_iff.mp hc).1
      cases hq
      exact ev_ad_in (Nat.lt_of_lt_of_le hk h)
  refine ⟨fun i j p q hi hj e => ?_, fun k q hk => ?_⟩
  · have h1 := key i p hi
    have h2 := key j q hj
    omega
  · have h1 := key k q hk
    show base ≤ q.1
    omega
/-- the locals -/
def ev_as (ad : Nat → Nat) (ls : ev_L) : List (Nat × Value) := (ls.mapIdx (fun i o => o.map (fun v => (i, ev_tv ad v)))).filterMap id
theorem ev_as_mem {ad : Nat → Nat} {ls : ev_L} {q : Nat × Value} : q ∈ ev_as ad ls ↔ ∃ v, ls[q.1]? = some (some v) ∧ q.2 = ev_tv ad v := by
  unfold ev_as
  rw [List.mem_filterMap]
  constructor
  · rintro ⟨o, ho, he⟩
    obtain ⟨i, hi⟩ := List.getElem?_of_mem ho
    rw [List.getElem?_mapIdx] at hi
    cases hl : ls[i]? with
    | none => rw [hl] at hi; cases hi
    | some u =>
      rw [hl] at hi
      cases u with
      | none => cases hi; cases he
      | some v => cases hi; cases he; exact ⟨v, hl, rfl⟩
  · rintro ⟨v, hv, he⟩
    refine ⟨some q, ?_, rfl⟩
    apply List.mem_of_getElem? (i := q.1)
    rw [List.getElem?_mapIdx, hv]
    show some (some (q.1, ev_tv ad v)) = some (some q)
    rw [← he]
def ev_lr (ad : Nat → Nat) (Ls : Array Slot) (ls : ev_L) : Prop := lv_has Ls ls.length (ev_as ad ls)
theorem ev_cat (ad : Nat → Nat) (v : Value) : (ev_tv ad v).category = v.category := by cases v <;> rfl
theorem ev_lr_at {ad : Nat → Nat} {Ls : Array Slot} {ls : ev_L} (h : ev_lr ad Ls ls) {i : Nat} {v : Value} (hv : ev_ldv ls i = some v) : Ls[i]? = some (.val (ev_tv ad v)) := by
  have h1 : ls[i]? = some (some v) := by
    unfold ev_ldv at hv
    split at hv
    · next e => rw [e]; cases hv; rfl
    · cases hv
  exact h.2.2 (i, ev_tv ad v) (ev_as_mem.mpr ⟨v, h1, rfl⟩)
theorem ev_lv_sub {Ls : Array Slot} {n : Nat} {l l' : List (Nat × Value)} (h : lv_has Ls n l) (hs : ∀ q ∈ l', q ∈ l) : lv_has Ls n l' := ⟨h.1, h.2.1, fun q hq => h.2.2 q (hs q hq)⟩
theorem ev_clr_len (ls : ev_L) (i : Nat) : (ev_clr ls i).length = ls.length := by
  unfold ev_clr
  cases i with
  | zero => rfl
  | succ j => dsimp only; split <;> (try split) <;> simp
theorem ev_clr_get {ls : ev_L} {i j : Nat} {v : Value} (h : (ev_clr ls i)[j]? = some (some v)) : ls[j]? = some (some v) ∧ ¬ (j + 1 = i ∧ v.category = 2) := by
  unfold ev_clr at h
  cases i with
  | zero => exact ⟨h, fun q => by omega⟩
  | succ k =>
    dsimp only at h
    split at h
    · next w e =>
      split at h
      · next hc =>
        by_cases hj : k = j
        · subst hj
          rw [List.getElem?_set] at h
          simp at h
        · rw [List.getElem?_set, if_neg hj] at h
          exact ⟨h, fun q => hj (by omega)⟩
      · next hc =>
        refine ⟨h, fun q => ?_⟩
        have : j = k := by omega
        subst this
        rw [e] at h
        cases h
        exact hc q.2
    · next hx =>
      refine ⟨h, fun q => ?_⟩
      have : j = k := by omega
      subst this
      exact hx v h
theorem ev_st1_lr {ad : Nat → Nat} {Ls : Array Slot} {ls ls' : ev_L} {i : Nat} {v : Value} (he : ev_st1 ls i v = some ls') : i < ls.length ∧ ls'.length = ls.length ∧ ∀ Ls', lv_has Ls' ls.length ((i, ev_tv ad v) :: (ev_as ad ls).filter (fun q => !(q.1 == i) && !(q.1 + 1 == i && q.2.category == 2))) → ev_lr ad Ls' ls' := by
  unfold ev_st1 at he
  split at he
  · next hi =>
    cases he
    have hlen : ((ev_clr ls i).set i (some v)).length = ls.length := by simp [ev_clr_len]
    refine ⟨hi, hlen, fun Ls' h => ?_⟩
    unfold ev_lr
    rw [hlen]
    refine ev_lv_sub h (fun q hq => ?_)
    obtain ⟨w, hw, e⟩ := ev_as_mem.mp hq
    by_cases hqi : i = q.1
    · rw [List.getElem?_set, if_pos hqi] at hw
      split at hw
      · cases hw
        rw [show q = (i, ev_tv ad v) from Prod.ext hqi.symm e]
        exact List.mem_cons_self
      · cases hw
    · rw [List.getElem?_set, if_neg hqi] at hw
      obtain ⟨h1, h2⟩ := ev_clr_get hw
      refine List.mem_cons_of_mem _ (List.mem_filter.mpr ⟨ev_as_mem.mpr ⟨w, h1, e⟩, ?_⟩)
      rw [e, ev_cat]
      simp only [Bool.and_eq_true, Bool.not_eq_true', beq_eq_false_iff_ne, ne_eq, Bool.and_eq_false_iff]
      refine ⟨fun z => hqi z.symm, ?_⟩
      by_cases hz : q.1 + 1 = i
      · exact Or.inr (fun z => h2 ⟨hz, z⟩)
      · exact Or.inl hz
  · cases he
theorem ev_st2_lr {ad : Nat → Nat} {ls ls' : ev_L} {i : Nat} {v : Value} (he : ev_st2 ls i v = some ls') : i + 1 < ls.length ∧ ls'.length = ls.length ∧ ∀ Ls', lv_has Ls' ls.length ((i, ev_tv ad v) :: (ev_as ad ls).filter (fun q => !(q.1 == i) && (!(q.1 == i + 1) && !(q.1 + 1 == i && q.2.category == 2)))) → ev_lr ad Ls' ls' := by
  unfold ev_st2 at he
  split at he
  · next hi =>
    cases he
    have hlen : (((ev_clr ls i).set i (some v)).set (i + 1) none).length = ls.length := by simp [ev_clr_len]
    refine ⟨hi, hlen, fun Ls' h => ?_⟩
    unfold ev_lr
    rw [hlen]
    refine ev_lv_sub h (fun q hq => ?_)
    obtain ⟨w, hw, e⟩ := ev_as_mem.mp hq
    have hq1 : ¬ i + 1 = q.1 := by
      intro z
      rw [List.getElem?_set, if_pos z] at hw
      split at hw <;> cases hw
    rw [List.getElem?_set, if_neg hq1] at hw
    by_cases hqi : i = q.1
    · rw [List.getElem?_set, if_pos hqi] at hw
      split at hw
      · cases hw
        rw [show q = (i, ev_tv ad v) from Prod.ext hqi.symm e]
        exact List.mem_cons_self
      · cases hw
    · rw [List.getElem?_set, if_neg hqi] at hw
      obtain ⟨h1, h2⟩ := ev_clr_get hw
      refine List.mem_cons_of_mem _ (List.mem_filter.mpr ⟨ev_as_mem.mpr ⟨w, h1, e⟩, ?_⟩)
      rw [e, ev_cat]
      simp only [Bool.and_eq_true, Bool.not_eq_true', beq_eq_false_iff_ne, ne_eq, Bool.and_eq_false_iff]
      refine ⟨fun z => hqi z.symm, fun z => hq1 z.symm, ?_⟩
      by_cases hz : q.1 + 1 = i
      · exact Or.inr (fun z => h2 ⟨hz, z⟩)
      · exact Or.inl hz
  · cases he
end
section
/-! Steps that touch locals, stack and branches alone. -/
/-- from this place of the evaluator on the machine comes to Q -/
def ev_Sim (p : Program) (l : Launch) (e : Env) (R : Room) (s : State) (m : MethodId) (args : Array Value) (below : List Frame) (meth : Method) (c : Code) (Q : State → Prop) (D : va_G) (cl : List vw_C) (aC : Nat → ClassId) (base : Nat) (ex : Nat → Nat) (nL n0 s0 : Nat) (q : ev_R) : Prop :=
  ∀ (Ls : Array Slot) (H : Heap) (locs : List Loc) (cells slots : Nat), ev_lr (ev_ad base ex) Ls q.2.1 → q.2.1.length = nL → ev_rel D cl aC base ex q.2.2.2 H → va_S (fun a : Nat => base ≤ a) s.heap H locs → cells + n0 = q.2.2.2.2.1 → slots + s0 = q.2.2.2.2.2 →
    W p l e R s m args below meth c H locs cells slots Q (F0 m q.1 Ls (q.2.2.1.map (ev_tv (ev_ad base ex))))
section EvA
variable {p : Program} {l : Launch} {e : Env} {R : Room} {s : State} {m : MethodId} {args : Array Value} {below : List Frame} {meth : Method} {c : Code} {Q : State → Prop} {D : va_G} {cl : List vw_C} {aC : Nat → ClassId} {base : Nat} {ex : Nat → Nat} {nL n0 s0 : Nat}
variable {cc : ByteArray} {V : ev_V} {dft : Nat → List Value} {pc : Nat} {ls : ev_L} {st : List Value} {h : ev_H} {r : ev_R} {z : Nat × Nat × Nat × Nat}
theorem ev_iload_n (hx : p.tables.exec = Jvm.exec) (hb : c.code = cc) {k : Fin 4} (hdg : decode cc pc = .ok (.iload_n k, 1)) (he : ev_s V dft (.iload_n k, z) pc ls st h = some r) (kk : ev_Sim p l e R s m args below meth c Q D cl aC base ex nL n0 s0 r) : ev_Sim p l e R s m args below meth c Q D cl aC base ex nL n0 s0 (pc, ls, st, h) := by
  intro Ls H locs cells slots hl hn hh hS h1 h2
  simp only [ev_s] at he
  split at he
  · next v hv => cases he; exact lv_iload_n hx hb hdg rfl (ev_lr_at hl hv) (kk Ls H locs cells slots hl hn hh hS h1 h2)
  · cases he
theorem ev_iload (hx : p.tables.exec = Jvm.exec) (hb : c.code = cc) {k : Nat} (hdg : decode cc pc = .ok (.iload k, 2)) (he : ev_s V dft (.iload k, z) pc ls st h = some r) (kk : ev_Sim p l e R s m args below meth c Q D cl aC base ex nL n0 s0 r) : ev_Sim p l e R s m args below meth c Q D cl aC base ex nL n0 s0 (pc, ls, st, h) := by
  intro Ls H locs cells slots hl hn hh hS h1 h2
  simp only [ev_s] at he
  split at he
  · next v hv => cases he; exact lv_iload hx hb hdg (ev_lr_at hl hv) (kk Ls H locs cells slots hl hn hh hS h1 h2)
  · cases he
theorem ev_lload_n (hx : p.tables.exec = Jvm.exec) (hb : c.code = cc) {k : Fin 4} (hdg : decode cc pc = .ok (.lload_n k, 1)) (he : ev_s V dft (.lload_n k, z) pc ls st h = some r) (kk : ev_Sim p l e R s m args below meth c Q D cl aC base ex nL n0 s0 r) : ev_Sim p l e R s m args below meth c Q D cl aC base ex nL n0 s0 (pc, ls, st, h) := by
  intro Ls H locs cells slots hl hn hh hS h1 h2
  simp only [ev_s] at he
  split at he
  · next v hv => cases he; exact lv_lload_n hx hb hdg rfl (ev_lr_at hl hv) (kk Ls H locs cells slots hl hn hh hS h1 h2)
  · cases he
theorem ev_lload (hx : p.tables.exec = Jvm.exec) (hb : c.code = cc) {k : Nat} (hdg : decode cc pc = .ok (.lload k, 2)) (he : ev_s V dft (.lload k, z) pc ls st h = some r) (kk : ev_Sim p l e R s m args below meth c Q D cl aC base ex nL n0 s0 r) : ev_Sim p l e R s m args below meth c Q D cl aC base ex nL n0 s0 (pc, ls, st, h) := by
  intro Ls H locs cells slots hl hn hh hS h1 h2
  simp only [ev_s] at he
  split at he
  · next v hv => cases he; exact lv_lload hx hb hdg (ev_lr_at hl hv) (kk Ls H locs cells slots hl hn hh hS h1 h2)
  · cases he
theorem ev_aload_n (hx : p.tables.exec = Jvm.exec) (hb : c.code = cc) {k : Fin 4} (hdg : decode cc pc = .ok (.aload_n k, 1)) (he : ev_s V dft (.aload_n k, z) pc ls st h = some r) (kk : ev_Sim p l e R s m args below meth c Q D cl aC base ex nL n0 s0 r) : ev_Sim p l e R s m args below meth c Q D cl aC base ex nL n0 s0 (pc, ls, st, h) := by
  intro Ls H locs cells slots hl hn hh hS h1 h2
  simp only [ev_s] at he
  split at he
  · next v hv => cases he; exact lv_aload_n hx hb hdg rfl (ev_lr_at hl hv) (kk Ls H locs cells slots hl hn hh hS h1 h2)
  · cases he
theorem ev_aload (hx : p.tables.exec = Jvm.exec) (hb : c.code = cc) {k : Nat} (hdg : decode cc pc = .ok (.aload k, 2)) (he : ev_s V dft (.aload k, z) pc ls st h = some r) (kk : ev_Sim p l e R s m args below meth c Q D cl aC base ex nL n0 s0 r) : ev_Sim p l e R s m args below meth c Q D cl aC base ex nL n0 s0 (pc, ls, st, h) := by
  intro Ls H locs cells slots hl hn hh hS h1 h2
  simp only [ev_s] at he
  split at he
  · next v hv => cases he; exact lv_aload hx hb hdg (ev_lr_at hl hv) (kk Ls H locs cells slots hl hn hh hS h1 h2)
  · cases he
theorem ev_istore_n (hx : p.tables.exec = Jvm.exec) (hb : c.code = cc) {k : Fin 4} (hdg : decode cc pc = .ok (.istore_n k, 1)) (he : ev_s V dft (.istore_n k, z) pc ls st h = some r) (kk : ev_Sim p l e R s m args below meth c Q D cl aC base ex nL n0 s0 r) : ev_Sim p l e R s m args below meth c Q D cl aC base ex nL n0 s0 (pc, ls, st, h) := by
  intro Ls H locs cells slots hl hn hh hS h1 h2
  simp only [ev_s] at he
  split at he
  · next v rr =>
    obtain ⟨l', hl', e1⟩ := Option.map_eq_some_iff.mp he
    cases e1
    obtain ⟨a1, a2, a3⟩ := ev_st1_lr (ad := ev_ad base ex) (Ls := Ls) hl'
    exact lv_istore_n hx hb hdg rfl hl a1 rfl (fun Ls' hl2 => kk Ls' H locs cells slots (a3 Ls' hl2) (a2.trans hn) hh hS h1 h2)
  · cases he
theorem ev_istore (hx : p.tables.exec = Jvm.exec) (hb : c.code = cc) {k : Nat} (hdg : decode cc pc = .ok (.istore k, 2)) (he : ev_s V dft (.istore k, z) pc ls st h = some r) (kk : ev_Sim p l e R s m args below meth c Q D cl aC base ex nL n0 s0 r) : ev_Sim p l e R s m args below meth c Q D cl aC base ex nL n0 s0 (pc, ls, st, h) := by
  intro Ls H locs cells slots hl hn hh hS h1 h2
  simp only [ev_s] at he
  split at he
  · next v rr =>
    obtain ⟨l', hl', e1⟩ := Option.map_eq_some_iff.mp he
    cases e1
    obtain ⟨a1, a2, a3⟩ := ev_st1_lr (ad := ev_ad base ex) (Ls := Ls) hl'
    exact lv_istore hx hb hdg hl a1 rfl (fun Ls' hl2 => kk Ls' H locs cells slots (a3 Ls' hl2) (a2.trans hn) hh hS h1 h2)
  · cases he
theorem ev_astore_n (hx : p.tables.exec = Jvm.exec) (hb : c.code = cc) {k : Fin 4} (hdg : decode cc pc = .ok (.astore_n k, 1)) (he : ev_s V dft (.astore_n k, z) pc ls st h = some r) (kk : ev_Sim p l e R s m args below meth c Q D cl aC base ex nL n0 s0 r) : ev_Sim p l e R s m args below meth c Q D cl aC base ex nL n0 s0 (pc, ls, st, h) := by
  intro Ls H locs cells slots hl hn hh hS h1 h2
  simp only [ev_s] at he
  split at he
  · next v rr =>
    obtain ⟨l', hl', e1⟩ := Option.map_eq_some_iff.mp he
    cases e1
    obtain ⟨a1, a2, a3⟩ := ev_st1_lr (ad := ev_ad base ex) (Ls := Ls) hl'
    exact lv_astore_n hx hb hdg rfl hl a1 rfl (fun Ls' hl2 => kk Ls' H locs cells slots (a3 Ls' hl2) (a2.trans hn) hh hS h1 h2)
  · cases he
theorem ev_astore (hx : p.tables.exec = Jvm.exec) (hb : c.code = cc) {k : Nat} (hdg : decode cc pc = .ok (.astore k, 2)) (he : ev_s V dft (.astore k, z) pc ls st h = some r) (kk : ev_Sim p l e R s m args below meth c Q D cl aC base ex nL n0 s0 r) : ev_Sim p l e R s m args below meth c Q D cl aC base ex nL n0 s0 (pc, ls, st, h) := by
  intro Ls H locs cells slots hl hn hh hS h1 h2
  simp only [ev_s] at he
  split at he
  · next v rr =>
    obtain ⟨l', hl', e1⟩ := Option.map_eq_some_iff.mp he
    cases e1
    obtain ⟨a1, a2, a3⟩ := ev_st1_lr (ad := ev_ad base ex) (Ls := Ls) hl'
    exact lv_astore hx hb hdg hl a1 rfl (fun Ls' hl2 => kk Ls' H locs cells slots (a3 Ls' hl2) (a2.trans hn) hh hS h1 h2)
  · cases he
theorem ev_lstore_n (hx : p.tables.exec = Jvm.exec) (hb : c.code = cc) {k : Fin 4} (hdg : decode cc pc = .ok (.lstore_n k, 1)) (he : ev_s V dft (.lstore_n k, z) pc ls st h = some r) (kk : ev_Sim p l e R s m args below meth c Q D cl aC base ex nL n0 s0 r) : ev_Sim p l e R s m args below meth c Q D cl aC base ex nL n0 s0 (pc, ls, st, h) := by
  intro Ls H locs cells slots hl hn hh hS h1 h2
  simp only [ev_s] at he
  split at he
  · next v rr =>
    obtain ⟨l', hl', e1⟩ := Option.map_eq_some_iff.mp he
    cases e1
    obtain ⟨a1, a2, a3⟩ := ev_st2_lr (ad := ev_ad base ex) hl'
    exact lv_lstore_n hx hb hdg rfl hl a1 rfl (fun Ls' hl2 => kk Ls' H locs cells slots (a3 Ls' hl2) (a2.trans hn) hh hS h1 h2)
  · cases he
theorem ev_lstore (hx : p.tables.exec = Jvm.exec) (hb : c.code = cc) {k : Nat} (hdg : decode cc pc = .ok (.lstore k, 2)) (he : ev_s V dft (.lstore k, z) pc ls st h = some r) (kk : ev_Sim p l e R s m args below meth c Q D cl aC base ex nL n0 s0 r) : ev_Sim p l e R s m args below meth c Q D cl aC base ex nL n0 s0 (pc, ls, st, h) := by
  intro Ls H locs cells slots hl hn hh hS h1 h2
  simp only [ev_s] at he
  split at he
  · next v rr =>
    obtain ⟨l', hl', e1⟩ := Option.map_eq_some_iff.mp he
    cases e1
    obtain ⟨a1, a2, a3⟩ := ev_st2_lr (ad := ev_ad base ex) hl'
    exact lv_lstore hx hb hdg hl a1 rfl (fun Ls' hl2 => kk Ls' H locs cells slots (a3 Ls' hl2) (a2.trans hn) hh hS h1 h2)
  · cases he
theorem ev_iinc (hx : p.tables.exec = Jvm.exec) (hb : c.code = cc) {k : Nat} {n : Int} (hdg : decode cc pc = .ok (.iinc k n, 3)) (he : ev_s V dft (.iinc k n, z) pc ls st h = some r) (kk : ev_Sim p l e R s m args below meth c Q D cl aC base ex nL n0 s0 r) : ev_Sim p l e R s m args below meth c Q D cl aC base ex nL n0 s0 (pc, ls, st, h) := by
  intro Ls H locs cells slots hl hn hh hS h1 h2
  simp only [ev_s] at he
  split at he
  · next v hv =>
    obtain ⟨l', hl', e1⟩ := Option.map_eq_some_iff.mp he
    cases e1
    obtain ⟨a1, a2, a3⟩ := ev_st1_lr (ad := ev_ad base ex) (Ls := Ls) hl'
    have hm : (k, Value.int v) ∈ ev_as (ev_ad base ex) ls := by
      refine ev_as_mem.mpr ⟨.int v, ?_, rfl⟩
      unfold ev_ldv at hv
      split at hv
      · next e9 => rw [e9]; cases hv; rfl
      · cases hv
    obtain ⟨i9, hi9⟩ := List.getElem?_of_mem hm
    exact lv_iinc hx hb hdg hl hi9 rfl a1 rfl (fun Ls' hl2 => kk Ls' H locs cells slots (a3 Ls' hl2) (a2.trans hn) hh hS h1 h2)
  · cases he
theorem ev_jmp_eq {pc t : Nat} {off : Int} (h : ev_jmp pc off = some t) : (pc : Int) + off = (t : Int) := by
  unfold ev_jmp at h
  split at h
  · cases h; omega
  · cases h
theorem ev_goto (hx : p.tables.exec = Jvm.exec) (hb : c.code = cc) {off : Int} (hdg : decode cc pc = .ok (.goto off, 3)) (he : ev_s V dft (.goto off, z) pc ls st h = some r) (kk : ev_Sim p l e R s m args below meth c Q D cl aC base ex nL n0 s0 r) : ev_Sim p l e R s m args below meth c Q D cl aC base ex nL n0 s0 (pc, ls, st, h) := by
  intro Ls H locs cells slots hl hn hh hS h1 h2
  simp only [ev_s] at he
  obtain ⟨t, ht, e1⟩ := Option.map_eq_some_iff.mp he
  cases e1
  exact lv_goto hx hb hdg (ev_jmp_eq ht) (kk Ls H locs cells slots hl hn hh hS h1 h2)
theorem ev_ifCond (hx : p.tables.exec = Jvm.exec) (hb : c.code = cc) {cd : ClassFile.Cond} {off : Int} (hdg : decode cc pc = .ok (.ifCond cd off, 3)) (he : ev_s V dft (.ifCond cd off, z) pc ls st h = some r) (kk : ev_Sim p l e R s m args below meth c Q D cl aC base ex nL n0 s0 r) : ev_Sim p l e R s m args below meth c Q D cl aC base ex nL n0 s0 (pc, ls, st, h) := by
  intro Ls H locs cells slots hl hn hh hS h1 h2
  simp only [ev_s] at he
  split at he
  · next x rr =>
    obtain ⟨t, ht, e1⟩ := Option.map_eq_some_iff.mp he
    subst e1
    have K := kk Ls H locs cells slots hl hn hh hS h1 h2
    cases cd with
    | eq => exact lv_if_eq hx hb hdg (ev_jmp_eq ht) (fun q => by simpa [ev_cb, q] using K) (fun q => by simpa [ev_cb, q] using K)
    | ne => exact lv_if_ne hx hb hdg (ev_jmp_eq ht) (fun q => by simpa [ev_cb, q] using K) (fun q => by simpa [ev_cb, q] using K)
    | lt => exact lv_if_lt hx hb hdg (ev_jmp_eq ht) (fun q => by simpa only [ev_cb, q, decide_true, if_true] using K) (fun q => by simpa only [ev_cb, q, decide_false, Bool.false_eq_true, if_false] using K)
    | ge => exact lv_if_ge hx hb hdg (ev_jmp_eq ht) (fun q => by simpa only [ev_cb, q, decide_true, if_true] using K) (fun q => by simpa only [ev_cb, q, decide_false, Bool.false_eq_true, if_false] using K)
    | gt => exact lv_if_gt hx hb hdg (ev_jmp_eq ht) (fun q => by simpa only [ev_cb, q, decide_true, if_true] using K) (fun q => by simpa only [ev_cb, q, decide_false, Bool.false_eq_true, if_false] using K)
    | le => exact lv_if_le hx hb hdg (ev_jmp_eq ht) (fun q => by simpa only [ev_cb, q, decide_true, if_true] using K) (fun q => by simpa only [ev_cb, q, decide_false, Bool.false_eq_true, if_false] using K)
  · cases he
theorem ev_if_icmp (hx : p.tables.exec = Jvm.exec) (hb : c.code = cc) {cd : ClassFile.Cond} {off : Int} (hdg : decode cc pc = .ok (.if_icmp cd off, 3)) (he : ev_s V dft (.if_icmp cd off, z) pc ls st h = some r) (kk : ev_Sim p l e R s m args below meth c Q D cl aC base ex nL n0 s0 r) : ev_Sim p l e R s m args below meth c Q D cl aC base ex nL n0 s0 (pc, ls, st, h) := by
  intro Ls H locs cells slots hl hn hh hS h1 h2
  simp only [ev_s] at he
  split at he
  · next y x rr =>
    obtain ⟨t, ht, e1⟩ := Option.map_eq_some_iff.mp he
    subst e1
    have K := kk Ls H locs cells slots hl hn hh hS h1 h2
    cases cd with
    | eq => exact lv_icmp_eq hx hb hdg (ev_jmp_eq ht) (fun q => by simpa [ev_cb, q] using K) (fun q => by simpa [ev_cb, q] using K)
    | ne => exact lv_icmp_ne hx hb hdg (ev_jmp_eq ht) (fun q => by simpa [ev_cb, q] using K) (fun q => by simpa [ev_cb, q] using K)
    | lt => exact lv_icmp_lt hx hb hdg (ev_jmp_eq ht) (fun q => by simpa only [ev_cb, q, decide_true, if_true] using K) (fun q => by simpa only [ev_cb, q, decide_false, Bool.false_eq_true, if_false] using K)
    | ge => exact lv_icmp_ge hx hb hdg (ev_jmp_eq ht) (fun q => by simpa only [ev_cb, q, decide_true, if_true] using K) (fun q => by simpa only [ev_cb, q, decide_false, Bool.false_eq_true, if_false] using K)
    | gt => exact lv_icmp_gt hx hb hdg (ev_jmp_eq ht) (fun q => by simpa only [ev_cb, q, decide_true, if_true] using K) (fun q => by simpa only [ev_cb, q, decide_false, Bool.false_eq_true, if_false] using K)
    | le => exact lv_icmp_le hx hb hdg (ev_jmp_eq ht) (fun q => by simpa only [ev_cb, q, decide_true, if_true] using K) (fun q => by simpa only [ev_cb, q, decide_false, Bool.false_eq_true, if_false] using K)
  · cases he
theorem ev_tsw (hx : p.tables.exec = Jvm.exec) (hb : c.code = cc) {dflt lo hi : Int} {offs : Array Int} {len : Nat} (hdg : decode cc pc = .ok (.tableswitch dflt lo hi offs, len)) (he : ev_s V dft (.tableswitch dflt lo hi offs, z) pc ls st h = some r) (kk : ev_Sim p l e R s m args below meth c Q D cl aC base ex nL n0 s0 r) : ev_Sim p l e R s m args below meth c Q D cl aC base ex nL n0 s0 (pc, ls, st, h) := by
  intro Ls H locs cells slots hl hn hh hS h1 h2
  simp only [ev_s] at he
  split at he
  · next x rr =>
    obtain ⟨o, ho, he⟩ := Option.bind_eq_some_iff.mp he
    obtain ⟨t, ht, e1⟩ := Option.map_eq_some_iff.mp he
    subst e1
    have K := kk Ls H locs cells slots hl hn hh hS h1 h2
    unfold ev_sw at ho
    split at ho
    · next hq => cases ho; exact lv_tableOut hx hb hdg hq (ev_jmp_eq ht) K
    · next hq => exact lv_tableIn hx hb hdg (fun q => hq (Or.inl q)) (fun q => hq (Or.inr q)) ho (ev_jmp_eq ht) K
  · cases he
end EvA
end
section
/-! Steps of the evaluator that compute. -/
section EvB
variable {p : Program} {l : Launch} {e : Env} {R : Room} {s : State} {m : MethodId} {args : Array Value} {below : List Frame} {meth : Method} {c : Code} {Q : State → Prop} {D : va_G} {cl : List vw_C} {aC : Nat → ClassId} {base : Nat} {ex : Nat → Nat} {nL n0 s0 : Nat}
variable {cc : ByteArray} {V : ev_V} {dft : Nat → List Value} {pc : Nat} {ls : ev_L} {st : List Value} {h : ev_H} {r : ev_R} {z : Nat × Nat × Nat × Nat}
theorem ev_iadd (hx : p.tables.exec = Jvm.exec) (hb : c.code = cc) (hdg : decode cc pc = .ok (.iadd, 1)) (he : ev_s V dft (.iadd, z) pc ls st h = some r) (kk : ev_Sim p l e R s m args below meth c Q D cl aC base ex nL n0 s0 r) : ev_Sim p l e R s m args below meth c Q D cl aC base ex nL n0 s0 (pc, ls, st, h) := by
  intro Ls H locs cells slots hl hn hh hS h1 h2
  simp only [ev_s] at he
  obtain ⟨rr, hr, e1⟩ := Option.map_eq_some_iff.mp he
  subst e1
  unfold ev_ii at hr
  split at hr
  · next y x r2 => cases hr; exact lv_iadd hx hb hdg (kk Ls H locs cells slots hl hn hh hS h1 h2)
  · cases hr
theorem ev_isub (hx : p.tables.exec = Jvm.exec) (hb : c.code = cc) (hdg : decode cc pc = .ok (.isub, 1)) (he : ev_s V dft (.isub, z) pc ls st h = some r) (kk : ev_Sim p l e R s m args below meth c Q D cl aC base ex nL n0 s0 r) : ev_Sim p l e R s m args below meth c Q D cl aC base ex nL n0 s0 (pc, ls, st, h) := by
  intro Ls H locs cells slots hl hn hh hS h1 h2
  simp only [ev_s] at he
  obtain ⟨rr, hr, e1⟩ := Option.map_eq_some_iff.mp he
  subst e1
  unfold ev_ii at hr
  split at hr
  · next y x r2 => cases hr; exact lv_isub hx hb hdg (kk Ls H locs cells slots hl hn hh hS h1 h2)
  · cases hr
theorem ev_imul (hx : p.tables.exec = Jvm.exec) (hb : c.code = cc) (hdg : decode cc pc = .ok (.imul, 1)) (he : ev_s V dft (.imul, z) pc ls st h = some r) (kk : ev_Sim p l e R s m args below meth c Q D cl aC base ex nL n0 s0 r) : ev_Sim p l e R s m args below meth c Q D cl aC base ex nL n0 s0 (pc, ls, st, h) := by
  intro Ls H locs cells slots hl hn hh hS h1 h2
  simp only [ev_s] at he
  obtain ⟨rr, hr, e1⟩ := Option.map_eq_some_iff.mp he
  subst e1
  unfold ev_ii at hr
  split at hr
  · next y x r2 => cases hr; exact lv_imul hx hb hdg (kk Ls H locs cells slots hl hn hh hS h1 h2)
  · cases hr
theorem ev_iand (hx : p.tables.exec = Jvm.exec) (hb : c.code = cc) (hdg : decode cc pc = .ok (.iand, 1)) (he : ev_s V dft (.iand, z) pc ls st h = some r) (kk : ev_Sim p l e R s m args below meth c Q D cl aC base ex nL n0 s0 r) : ev_Sim p l e R s m args below meth c Q D cl aC base ex nL n0 s0 (pc, ls, st, h) := by
  intro Ls H locs cells slots hl hn hh hS h1 h2
  simp only [ev_s] at he
  obtain ⟨rr, hr, e1⟩ := Option.map_eq_some_iff.mp he
  subst e1
  unfold ev_ii at hr
  split at hr
  · next y x r2 => cases hr; exact lv_iand hx hb hdg (kk Ls H locs cells slots hl hn hh hS h1 h2)
  · cases hr
theorem ev_ior (hx : p.tables.exec = Jvm.exec) (hb : c.code = cc) (hdg : decode cc pc = .ok (.ior, 1)) (he : ev_s V dft (.ior, z) pc ls st h = some r) (kk : ev_Sim p l e R s m args below meth c Q D cl aC base ex nL n0 s0 r) : ev_Sim p l e R s m args below meth c Q D cl aC base ex nL n0 s0 (pc, ls, st, h) := by
  intro Ls H locs cells slots hl hn hh hS h1 h2
  simp only [ev_s] at he
  obtain ⟨rr, hr, e1⟩ := Option.map_eq_some_iff.mp he
  subst e1
  unfold ev_ii at hr
  split at hr
  · next y x r2 => cases hr; exact lv_ior hx hb hdg (kk Ls H locs cells slots hl hn hh hS h1 h2)
  · cases hr
theorem ev_ishl (hx : p.tables.exec = Jvm.exec) (hb : c.code = cc) (hdg : decode cc pc = .ok (.ishl, 1)) (he : ev_s V dft (.ishl, z) pc ls st h = some r) (kk : ev_Sim p l e R s m args below meth c Q D cl aC base ex nL n0 s0 r) : ev_Sim p l e R s m args below meth c Q D cl aC base ex nL n0 s0 (pc, ls, st, h) := by
  intro Ls H locs cells slots hl hn hh hS h1 h2
  simp only [ev_s] at he
  obtain ⟨rr, hr, e1⟩ := Option.map_eq_some_iff.mp he
  subst e1
  unfold ev_ii at hr
  split at hr
  · next y x r2 => cases hr; exact lv_ishl hx hb hdg (kk Ls H locs cells slots hl hn hh hS h1 h2)
  · cases hr
theorem ev_ishr (hx : p.tables.exec = Jvm.exec) (hb : c.code = cc) (hdg : decode cc pc = .ok (.ishr, 1)) (he : ev_s V dft (.ishr, z) pc ls st h = some r) (kk : ev_Sim p l e R s m args below meth c Q D cl aC base ex nL n0 s0 r) : ev_Sim p l e R s m args below meth c Q D cl aC base ex nL n0 s0 (pc, ls, st, h) := by
  intro Ls H locs cells slots hl hn hh hS h1 h2
  simp only [ev_s] at he
  obtain ⟨rr, hr, e1⟩ := Option.map_eq_some_iff.mp he
  subst e1
  unfold ev_ii at hr
  split at hr
  · next y x r2 => cases hr; exact lv_ishr hx hb hdg (kk Ls H locs cells slots hl hn hh hS h1 h2)
  · cases hr
theorem ev_ladd (hx : p.tables.exec = Jvm.exec) (hb : c.code = cc) (hdg : decode cc pc = .ok (.ladd, 1)) (he : ev_s V dft (.ladd, z) pc ls st h = some r) (kk : ev_Sim p l e R s m args below meth c Q D cl aC base ex nL n0 s0 r) : ev_Sim p l e R s m args below meth c Q D cl aC base ex nL n0 s0 (pc, ls, st, h) := by
  intro Ls H locs cells slots hl hn hh hS h1 h2
  simp only [ev_s] at he
  obtain ⟨rr, hr, e1⟩ := Option.map_eq_some_iff.mp he
  subst e1
  unfold ev_ll at hr
  split at hr
  · next y x r2 => cases hr; exact lv_ladd hx hb hdg (kk Ls H locs cells slots hl hn hh hS h1 h2)
  · cases hr
theorem ev_lsub (hx : p.tables.exec = Jvm.exec) (hb : c.code = cc) (hdg : decode cc pc = .ok (.lsub, 1)) (he : ev_s V dft (.lsub, z) pc ls st h = some r) (kk : ev_Sim p l e R s m args below meth c Q D cl aC base ex nL n0 s0 r) : ev_Sim p l e R s m args below meth c Q D cl aC base ex nL n0 s0 (pc, ls, st, h) := by
  intro Ls H locs cells slots hl hn hh hS h1 h2
  simp only [ev_s] at he
  obtain ⟨rr, hr, e1⟩ := Option.map_eq_some_iff.mp he
  subst e1
  unfold ev_ll at hr
  split at hr
  · next y x r2 => cases hr; exact lv_lsub hx hb hdg (kk Ls H locs cells slots hl hn hh hS h1 h2)
  · cases hr
theorem ev_lmul (hx : p.tables.exec = Jvm.exec) (hb : c.code = cc) (hdg : decode cc pc = .ok (.lmul, 1)) (he : ev_s V dft (.lmul, z) pc ls st h = some r) (kk : ev_Sim p l e R s m args below meth c Q D cl aC base ex nL n0 s0 r) : ev_Sim p l e R s m args below meth c Q D cl aC base ex nL n0 s0 (pc, ls, st, h) := by
  intro Ls H locs cells slots hl hn hh hS h1 h2
  simp only [ev_s] at he
  obtain ⟨rr, hr, e1⟩ := Option.map_eq_some_iff.mp he
  subst e1
  unfold ev_ll at hr
  split at hr
  · next y x r2 => cases hr; exact lv_lmul hx hb hdg (kk Ls H locs cells slots hl hn hh hS h1 h2)
  · cases hr
theorem ev_land (hx : p.tables.exec = Jvm.exec) (hb : c.code = cc) (hdg : decode cc pc = .ok (.land, 1)) (he : ev_s V dft (.land, z) pc ls st h = some r) (kk : ev_Sim p l e R s m args below meth c Q D cl aC base ex nL n0 s0 r) : ev_Sim p l e R s m args below meth c Q D cl aC base ex nL n0 s0 (pc, ls, st, h) := by
  intro Ls H locs cells slots hl hn hh hS h1 h2
  simp only [ev_s] at he
  obtain ⟨rr, hr, e1⟩ := Option.map_eq_some_iff.mp he
  subst e1
  unfold ev_ll at hr
  split at hr
  · next y x r2 => cases hr; exact lv_land hx hb hdg (kk Ls H locs cells slots hl hn hh hS h1 h2)
  · cases hr
theorem ev_lor (hx : p.tables.exec = Jvm.exec) (hb : c.code = cc) (hdg : decode cc pc = .ok (.lor, 1)) (he : ev_s V dft (.lor, z) pc ls st h = some r) (kk : ev_Sim p l e R s m args below meth c Q D cl aC base ex nL n0 s0 r) : ev_Sim p l e R s m args below meth c Q D cl aC base ex nL n0 s0 (pc, ls, st, h) := by
  intro Ls H locs cells slots hl hn hh hS h1 h2
  simp only [ev_s] at he
  obtain ⟨rr, hr, e1⟩ := Option.map_eq_some_iff.mp he
  subst e1
  unfold ev_ll at hr
  split at hr
  · next y x r2 => cases hr; exact lv_lor hx hb hdg (kk Ls H locs cells slots hl hn hh hS h1 h2)
  · cases hr
theorem ev_lxor (hx : p.tables.exec = Jvm.exec) (hb : c.code = cc) (hdg : decode cc pc = .ok (.lxor, 1)) (he : ev_s V dft (.lxor, z) pc ls st h = some r) (kk : ev_Sim p l e R s m args below meth c Q D cl aC base ex nL n0 s0 r) : ev_Sim p l e R s m args below meth c Q D cl aC base ex nL n0 s0 (pc, ls, st, h) := by
  intro Ls H locs cells slots hl hn hh hS h1 h2
  simp only [ev_s] at he
  obtain ⟨rr, hr, e1⟩ := Option.map_eq_some_iff.mp he
  subst e1
  unfold ev_ll at hr
  split at hr
  · next y x r2 => cases hr; exact lv_lxor hx hb hdg (kk Ls H locs cells slots hl hn hh hS h1 h2)
  · cases hr
theorem ev_lshl (hx : p.tables.exec = Jvm.exec) (hb : c.code = cc) (hdg : decode cc pc = .ok (.lshl, 1)) (he : ev_s V dft (.lshl, z) pc ls st h = some r) (kk : ev_Sim p l e R s m args below meth c Q D cl aC base ex nL n0 s0 r) : ev_Sim p l e R s m args below meth c Q D cl aC base ex nL n0 s0 (pc, ls, st, h) := by
  intro Ls H locs cells slots hl hn hh hS h1 h2
  simp only [ev_s] at he
  obtain ⟨rr, hr, e1⟩ := Option.map_eq_some_iff.mp he
  subst e1
  unfold ev_li at hr
  split at hr
  · next y x r2 => cases hr; exact lv_lshl hx hb hdg rfl (kk Ls H locs cells slots hl hn hh hS h1 h2)
  · cases hr
theorem ev_lshr (hx : p.tables.exec = Jvm.exec) (hb : c.code = cc) (hdg : decode cc pc = .ok (.lshr, 1)) (he : ev_s V dft (.lshr, z) pc ls st h = some r) (kk : ev_Sim p l e R s m args below meth c Q D cl aC base ex nL n0 s0 r) : ev_Sim p l e R s m args below meth c Q D cl aC base ex nL n0 s0 (pc, ls, st, h) := by
  intro Ls H locs cells slots hl hn hh hS h1 h2
  simp only [ev_s] at he
  obtain ⟨rr, hr, e1⟩ := Option.map_eq_some_iff.mp he
  subst e1
  unfold ev_li at hr
  split at hr
  · next y x r2 => cases hr; exact lv_lshr hx hb hdg rfl (kk Ls H locs cells slots hl hn hh hS h1 h2)
  · cases hr
theorem ev_idiv (hx : p.tables.exec = Jvm.exec) (hb : c.code = cc) (hdg : decode cc pc = .ok (.idiv, 1)) (he : ev_s V dft (.idiv, z) pc ls st h = some r) (kk : ev_Sim p l e R s m args below meth c Q D cl aC base ex nL n0 s0 r) : ev_Sim p l e R s m args below meth c Q D cl aC base ex nL n0 s0 (pc, ls, st, h) := by
  intro Ls H locs cells slots hl hn hh hS h1 h2
  simp only [ev_s] at he
  split at he
  · next y x r2 =>
    split at he
    · cases he
    · next hy => cases he; exact lv_idiv hx hb hdg hy (kk Ls H locs cells slots hl hn hh hS h1 h2)
  · cases he
theorem ev_irem (hx : p.tables.exec = Jvm.exec) (hb : c.code = cc) (hdg : decode cc pc = .ok (.irem, 1)) (he : ev_s V dft (.irem, z) pc ls st h = some r) (kk : ev_Sim p l e R s m args below meth c Q D cl aC base ex nL n0 s0 r) : ev_Sim p l e R s m args below meth c Q D cl aC base ex nL n0 s0 (pc, ls, st, h) := by
  intro Ls H locs cells slots hl hn hh hS h1 h2
  simp only [ev_s] at he
  split at he
  · next y x r2 =>
    split at he
    · cases he
    · next hy => cases he; exact lv_irem hx hb hdg hy (kk Ls H locs cells slots hl hn hh hS h1 h2)
  · cases he
theorem ev_ineg (hx : p.tables.exec = Jvm.exec) (hb : c.code = cc) (hdg : decode cc pc = .ok (.ineg, 1)) (he : ev_s V dft (.ineg, z) pc ls st h = some r) (kk : ev_Sim p l e R s m args below meth c Q D cl aC base ex nL n0 s0 r) : ev_Sim p l e R s m args below meth c Q D cl aC base ex nL n0 s0 (pc, ls, st, h) := by
  intro Ls H locs cells slots hl hn hh hS h1 h2
  simp only [ev_s] at he
  split at he
  · next x r2 => cases he; exact lv_ineg hx hb hdg (kk Ls H locs cells slots hl hn hh hS h1 h2)
  · cases he
theorem ev_lcmp (hx : p.tables.exec = Jvm.exec) (hb : c.code = cc) (hdg : decode cc pc = .ok (.lcmp, 1)) (he : ev_s V dft (.lcmp, z) pc ls st h = some r) (kk : ev_Sim p l e R s m args below meth c Q D cl aC base ex nL n0 s0 r) : ev_Sim p l e R s m args below meth c Q D cl aC base ex nL n0 s0 (pc, ls, st, h) := by
  intro Ls H locs cells slots hl hn hh hS h1 h2
  simp only [ev_s] at he
  split at he
  · next y x r2 => cases he; exact W.lcmp hx hb hdg (kk Ls H locs cells slots hl hn hh hS h1 h2)
  · cases he
theorem ev_i2l (hx : p.tables.exec = Jvm.exec) (hb : c.code = cc) (hdg : decode cc pc = .ok (.i2l, 1)) (he : ev_s V dft (.i2l, z) pc ls st h = some r) (kk : ev_Sim p l e R s m args below meth c Q D cl aC base ex nL n0 s0 r) : ev_Sim p l e R s m args below meth c Q D cl aC base ex nL n0 s0 (pc, ls, st, h) := by
  intro Ls H locs cells slots hl hn hh hS h1 h2
  simp only [ev_s] at he
  split at he
  · next x r2 => cases he; exact lv_i2l hx hb hdg rfl (kk Ls H locs cells slots hl hn hh hS h1 h2)
  · cases he
theorem ev_i2c (hx : p.tables.exec = Jvm.exec) (hb : c.code = cc) (hdg : decode cc pc = .ok (.i2c, 1)) (he : ev_s V dft (.i2c, z) pc ls st h = some r) (kk : ev_Sim p l e R s m args below meth c Q D cl aC base ex nL n0 s0 r) : ev_Sim p l e R s m args below meth c Q D cl aC base ex nL n0 s0 (pc, ls, st, h) := by
  intro Ls H locs cells slots hl hn hh hS h1 h2
  simp only [ev_s] at he
  split at he
  · next x r2 => cases he; exact lv_i2c hx hb hdg rfl (kk Ls H locs cells slots hl hn hh hS h1 h2)
  · cases he
theorem ev_iconst (hx : p.tables.exec = Jvm.exec) (hb : c.code = cc) {n : Int} (hdg : decode cc pc = .ok (.iconst n, 1)) (he : ev_s V dft (.iconst n, z) pc ls st h = some r) (kk : ev_Sim p l e R s m args below meth c Q D cl aC base ex nL n0 s0 r) : ev_Sim p l e R s m args below meth c Q D cl aC base ex nL n0 s0 (pc, ls, st, h) := by
  intro Ls H locs cells slots hl hn hh hS h1 h2
  simp only [ev_s] at he
  cases he; exact lv_iconst hx hb hdg rfl (kk Ls H locs cells slots hl hn hh hS h1 h2)
theorem ev_bipush (hx : p.tables.exec = Jvm.exec) (hb : c.code = cc) {n : Int} (hdg : decode cc pc = .ok (.bipush n, 2)) (he : ev_s V dft (.bipush n, z) pc ls st h = some r) (kk : ev_Sim p l e R s m args below meth c Q D cl aC base ex nL n0 s0 r) : ev_Sim p l e R s m args below meth c Q D cl aC base ex nL n0 s0 (pc, ls, st, h) := by
  intro Ls H locs cells slots hl hn hh hS h1 h2
  simp only [ev_s] at he
  cases he; exact lv_bipush hx hb hdg rfl (kk Ls H locs cells slots hl hn hh hS h1 h2)
theorem ev_sipush (hx : p.tables.exec = Jvm.exec) (hb : c.code = cc) {n : Int} (hdg : decode cc pc = .ok (.sipush n, 3)) (he : ev_s V dft (.sipush n, z) pc ls st h = some r) (kk : ev_Sim p l e R s m args below meth c Q D cl aC base ex nL n0 s0 r) : ev_Sim p l e R s m args below meth c Q D cl aC base ex nL n0 s0 (pc, ls, st, h) := by
  intro Ls H locs cells slots hl hn hh hS h1 h2
  simp only [ev_s] at he
  cases he; exact lv_sipush hx hb hdg rfl (kk Ls H locs cells slots hl hn hh hS h1 h2)
theorem ev_lconst (hx : p.tables.exec = Jvm.exec) (hb : c.code = cc) {n : Fin 2} (hdg : decode cc pc = .ok (.lconst n, 1)) (he : ev_s V dft (.lconst n, z) pc ls st h = some r) (kk : ev_Sim p l e R s m args below meth c Q D cl aC base ex nL n0 s0 r) : ev_Sim p l e R s m args below meth c Q D cl aC base ex nL n0 s0 (pc, ls, st, h) := by
  intro Ls H locs cells slots hl hn hh hS h1 h2
  simp only [ev_s] at he
  cases he; exact lv_lconst hx hb hdg rfl (kk Ls H locs cells slots hl hn hh hS h1 h2)
theorem ev_dup (hx : p.tables.exec = Jvm.exec) (hb : c.code = cc) (hdg : decode cc pc = .ok (.dup, 1)) (he : ev_s V dft (.dup, z) pc ls st h = some r) (kk : ev_Sim p l e R s m args below meth c Q D cl aC base ex nL n0 s0 r) : ev_Sim p l e R s m args below meth c Q D cl aC base ex nL n0 s0 (pc, ls, st, h) := by
  intro Ls H locs cells slots hl hn hh hS h1 h2
  simp only [ev_s] at he
  split at he
  · next v r2 =>
    split at he
    · next hc => cases he; exact lv_dup hx hb hdg (by rw [ev_cat]; exact hc) (kk Ls H locs cells slots hl hn hh hS h1 h2)
    · cases he
  · cases he
theorem ev_dup2 (hx : p.tables.exec = Jvm.exec) (hb : c.code = cc) (hdg : decode cc pc = .ok (.dup2, 1)) (he : ev_s V dft (.dup2, z) pc ls st h = some r) (kk : ev_Sim p l e R s m args below meth c Q D cl aC base ex nL n0 s0 r) : ev_Sim p l e R s m args below meth c Q D cl aC base ex nL n0 s0 (pc, ls, st, h) := by
  intro Ls H locs cells slots hl hn hh hS h1 h2
  simp only [ev_s] at he
  split at he
  · next v w r2 =>
    split at he
    · next hc => cases he; exact lv_dup2_11 hx hb hdg (by rw [ev_cat]; exact hc.1) (by rw [ev_cat]; exact hc.2) (kk Ls H locs cells slots hl hn hh hS h1 h2)
    · cases he
  · cases he
theorem ev_pop (hx : p.tables.exec = Jvm.exec) (hb : c.code = cc) (hdg : decode cc pc = .ok (.pop, 1)) (he : ev_s V dft (.pop, z) pc ls st h = some r) (kk : ev_Sim p l e R s m args below meth c Q D cl aC base ex nL n0 s0 r) : ev_Sim p l e R s m args below meth c Q D cl aC base ex nL n0 s0 (pc, ls, st, h) := by
  intro Ls H locs cells slots hl hn hh hS h1 h2
  simp only [ev_s] at he
  split at he
  · next v r2 =>
    split at he
    · next hc => cases he; exact lv_pop hx hb hdg (by rw [ev_cat]; exact hc) (kk Ls H locs cells slots hl hn hh hS h1 h2)
    · cases he
  · cases he
end EvB
end
section
/-! Steps that read and write the heap. -/
def ev_tyl : List FieldType := [.int, .long, .boolean, .object "Threewayleaf$State", .object "java/lang/Object"]
def ev_tys (aC : Nat → ClassId) : List (ClassId × FieldType) := ev_tyl.mapIdx (fun i t => (aC i, t))
theorem ev_ix_in {i : Int32} {n : Nat} (h : ev_ix i n = true) : vp_in i n := by
  unfold ev_ix at h
  simp only [Bool.and_eq_true, decide_eq_true_eq] at h
  rintro (q | q)
  · exact h.1 q
  · exact absurd h.2 (by omega)
section EvC
variable {p : Program} {l : Launch} {e : Env} {R : Room} {s : State} {m : MethodId} {args : Array Value} {below : List Frame} {meth : Method} {c : Code} {Q : State → Prop} {D : va_G} {cl : List vw_C} {aC : Nat → ClassId} {base : Nat} {ex : Nat → Nat} {nL n0 s0 : Nat}
variable {cc : ByteArray} {V : ev_V} {dft : Nat → List Value} {pc : Nat} {ls : ev_L} {st : List Value} {h : ev_H} {r : ev_R} {z : Nat × Nat × Nat × Nat}
/-- a cell that is in the heap has its place below -/
theorem ev_lt {cs : List ev_C} {a : Nat} {x : ev_C} (h : cs[a]? = some x) : a < cs.length := (List.getElem?_eq_some_iff.mp h).1
theorem ev_rel.set {h : ev_H} {H1 : Heap} {a : Nat} {x : ev_C} (hr : h.2.1 = h.1.length) (hle : h.1.length ≤ ev_ext) (hz : H1.size = base + h.1.length) (hP : va_P D cl ((ev_ws (ev_ad base ex) aC h.1).set a (ev_ad base ex a, ev_cv (ev_ad base ex) aC x)) H1) : ev_rel D cl aC base ex (ev_set h a x) H1 := by
  rw [ev_ws_set] at hP
  exact ⟨hP, by simpa [ev_set] using hz, by simpa [ev_set] using hr, by simpa [ev_set] using hle⟩
theorem ev_size {ws ws' : va_W} {H H1 : Heap} {cs : List ev_C} {locs : List Loc} {s : State} (hS : va_S (fun a : Nat => base ≤ a) s.heap H1 locs) : s.heap.size ≤ H1.size := hS.1
theorem ev_iaload (hx : p.tables.exec = Jvm.exec) (hb : c.code = cc) (hK : va_K D cl (ev_tys aC) s) (hX : va_X (ex 0) V.1 V.2 s s.heap) (hX0 : ex 0 < base) (hX1 : base ≤ s.heap.size) (hdg : decode cc pc = .ok (.iaload, 1)) (he : ev_s V dft (.iaload, z) pc ls st h = some r) (kk : ev_Sim p l e R s m args below meth c Q D cl aC base ex nL n0 s0 r) : ev_Sim p l e R s m args below meth c Q D cl aC base ex nL n0 s0 (pc, ls, st, h) := by
  intro Ls H locs cells slots hl hn hh hS h1 h2
  simp only [ev_s] at he
  obtain ⟨rr, hr, e1⟩ := Option.map_eq_some_iff.mp he
  subst e1
  unfold ev_aldi at hr
  split at hr
  · next i a r2 =>
    split at hr
    · next hq =>
      split at hr
      · next hi =>
        cases hr
        obtain ⟨rfl, -⟩ := hq
        have hA : ev_ad base ex ev_ext = ex 0 := by simp [ev_ad]
        show W p l e R s m args below meth c H locs cells slots Q (F0 m pc Ls (.int i :: .ref (ev_ad base ex ev_ext) :: r2.map (ev_tv (ev_ad base ex))))
        rw [hA]
        exact va_sld hx hb hX (Nat.lt_of_lt_of_le hX0 hX1) (Nat.not_le.mpr hX0) hS (ev_ix_in hi) hdg (kk Ls H locs cells slots hl hn hh hS h1 h2)
      · cases hr
    · split at hr
      · next t' n f hc =>
        split at hr
        · next ht =>
          split at hr
          · next hi =>
            cases hr
            subst ht
            exact va_iald hx hb hK hh.1 a 0 (ev_ws_at hc) rfl (ev_ix_in hi) hdg (kk Ls H locs cells slots hl hn hh hS h1 h2)
          · cases hr
        · cases hr
      · cases hr
  · cases hr
theorem ev_baload (hx : p.tables.exec = Jvm.exec) (hb : c.code = cc) (hK : va_K D cl (ev_tys aC) s) (hdg : decode cc pc = .ok (.baload, 1)) (he : ev_s V dft (.baload, z) pc ls st h = some r) (kk : ev_Sim p l e R s m args below meth c Q D cl aC base ex nL n0 s0 r) : ev_Sim p l e R s m args below meth c Q D cl aC base ex nL n0 s0 (pc, ls, st, h) := by
  intro Ls H locs cells slots hl hn hh hS h1 h2
  simp only [ev_s] at he
  obtain ⟨rr, hr, e1⟩ := Option.map_eq_some_iff.mp he
  subst e1
  unfold ev_aldi at hr
  split at hr
  · next i a r2 =>
    split at hr
    · next hq =>
      exact absurd hq.2 (by decide)
    · split at hr
      · next t' n f hc =>
        split at hr
        · next ht =>
          split at hr
          · next hi =>
            cases hr
            subst ht
            exact va_zald hx hb hK hh.1 a 2 (ev_ws_at hc) rfl (ev_ix_in hi) hdg (kk Ls H locs cells slots hl hn hh hS h1 h2)
          · cases hr
        · cases hr
      · cases hr
  · cases hr
theorem ev_laload (hx : p.tables.exec = Jvm.exec) (hb : c.code = cc) (hK : va_K D cl (ev_tys aC) s) (hdg : decode cc pc = .ok (.laload, 1)) (he : ev_s V dft (.laload, z) pc ls st h = some r) (kk : ev_Sim p l e R s m args below meth c Q D cl aC base ex nL n0 s0 r) : ev_Sim p l e R s m args below meth c Q D cl aC base ex nL n0 s0 (pc, ls, st, h) := by
  intro Ls H locs cells slots hl hn hh hS h1 h2
  simp only [ev_s] at he
  obtain ⟨rr, hr, e1⟩ := Option.map_eq_some_iff.mp he
  subst e1
  unfold ev_aldl at hr
  split at hr
  · next i a r2 =>
    split at hr
    · next t' n f hc =>
      split at hr
      · next ht =>
        split at hr
        · next hi =>
          cases hr
          subst ht
          exact va_lald hx hb hK hh.1 a 1 (ev_ws_at hc) rfl (ev_ix_in hi) hdg (kk Ls H locs cells slots hl hn hh hS h1 h2)
        · cases hr
      · cases hr
    · cases hr
  · cases hr
theorem ev_aaload (hx : p.tables.exec = Jvm.exec) (hb : c.code = cc) (hK : va_K D cl (ev_tys aC) s) {len t y w : Nat} {C : String} (ht0 : ev_tyl[t]? = some (.object C)) (hdg : decode cc pc = .ok (.aaload, 1)) (he : ev_s V dft (.aaload, len, t, y, w) pc ls st h = some r) (kk : ev_Sim p l e R s m args below meth c Q D cl aC base ex nL n0 s0 r) : ev_Sim p l e R s m args below meth c Q D cl aC base ex nL n0 s0 (pc, ls, st, h) := by
  intro Ls H locs cells slots hl hn hh hS h1 h2
  simp only [ev_s] at he
  obtain ⟨rr, hr, e1⟩ := Option.map_eq_some_iff.mp he
  subst e1
  unfold ev_aldq at hr
  split at hr
  · next i a r2 =>
    split at hr
    · next t' n f hc =>
      split at hr
      · next ht =>
        split at hr
        · next hi =>
          split at hr
          · next q hf =>
            cases hr
            subst ht
            have K := kk Ls H locs cells slots hl hn hh hS h1 h2
            refine va_aldq hx hb hK hh.1 a t' (C := C) (ev_ws_at hc) (by simp [ev_tys, ht0]) (ev_ix_in hi) hdg ?_
            dsimp only at K ⊢
            rw [hf]
            exact K
          · cases hr
        · cases hr
      · cases hr
    · cases hr
  · cases hr
end EvC
end
section
/-! Steps that write: the rows of the kit tell no size of the new heap; the frame's count of cells does. -/
section EvD
variable {p : Program} {l : Launch} {e : Env} {R : Room} {s : State} {m : MethodId} {args : Array Value} {below : List Frame} {meth : Method} {c : Code} {Q : State → Prop} {D : va_G} {cl : List vw_C} {aC : Nat → ClassId} {base : Nat} {ex : Nat → Nat} {nL n0 s0 : Nat}
variable {cc : ByteArray} {V : ev_V} {dft : Nat → List Value} {pc : Nat} {ls : ev_L} {st : List Value} {h : ev_H} {r : ev_R} {z : Nat × Nat × Nat × Nat}
theorem ev_sized {H : Heap} {locs : List Loc} {cells slots : Nat} {g : JFrame} (k : H.size ≤ s.heap.size + cells → W p l e R s m args below meth c H locs cells slots Q g) : W p l e R s m args below meth c H locs cells slots Q g := fun T hT X => k (by rw [← hT]; exact X.same.2.2.1) T hT X
theorem ev_S0 {A : Nat → Prop} {H0 H : Heap} {locs : List Loc} (h : va_S A H0 H locs) : va_S A H H locs := ⟨Nat.le_refl _, fun _ _ _ => rfl, h.2.2⟩
theorem ev_S1 {A : Nat → Prop} {H0 H H1 : Heap} {locs locs1 : List Loc} (h : va_S A H0 H locs) (k : va_S A H H1 locs1) : va_S A H0 H1 locs1 :=
  ⟨Nat.le_trans h.1 k.1, fun q q1 q2 => (k.2.1 q (Nat.lt_of_lt_of_le q1 h.1) q2).trans (h.2.1 q q1 q2), k.2.2⟩
theorem ev_done {H H1 : Heap} {locs1 : List Loc} {cells a : Nat} {x : ev_C} (hbn : base + n0 = s.heap.size) (hh : ev_rel D cl aC base ex h H) (h1 : cells + n0 = h.2.1) (hS1 : va_S (fun a : Nat => base ≤ a) H H1 locs1) (hsz : H1.size ≤ s.heap.size + cells) (hP : va_P D cl ((ev_ws (ev_ad base ex) aC h.1).set a (ev_ad base ex a, ev_cv (ev_ad base ex) aC x)) H1) : ev_rel D cl aC base ex (ev_set h a x) H1 := by
  refine ev_rel.set hh.2.2.1 hh.2.2.2 ?_ hP
  have q1 := hS1.1
  have q2 := hh.2.1
  have q3 := hh.2.2.1
  omega
theorem ev_born {H H1 : Heap} {locs1 : List Loc} {cells q n : Nat} {x : ev_C} (hbn : base + n0 = s.heap.size) (hh : ev_rel D cl aC base ex h H) (h1 : cells + n0 = h.2.1) (hle : h.2.1 < ev_ext) (hS1 : va_S (fun a : Nat => base ≤ a) H H1 locs1) (hsz : H1.size ≤ s.heap.size + (cells + 1)) (hP : va_P D cl (ev_ws (ev_ad base ex) aC h.1 ++ [(q, ev_cv (ev_ad base ex) aC x)]) H1) (hD : va_D (fun a : Nat => base ≤ a) (ev_ws (ev_ad base ex) aC h.1 ++ [(q, ev_cv (ev_ad base ex) aC x)])) : q = ev_ad base ex h.2.1 ∧ ev_rel D cl aC base ex (ev_push h x n) H1 := by
  have q1 := hS1.1
  have q2 := hh.2.1
  have q3 := hh.2.2.1
  have q4 := hh.2.2.2
  have hlen : (ev_ws (ev_ad base ex) aC h.1).length = h.1.length := by simp [ev_ws]
  have hlast : (ev_ws (ev_ad base ex) aC h.1 ++ [(q, ev_cv (ev_ad base ex) aC x)])[h.1.length]? = some (q, ev_cv (ev_ad base ex) aC x) := by
    rw [List.getElem?_append_right (by omega), hlen, Nat.sub_self]; rfl
  have hq1 : q < H1.size := (hP _ _ hlast).lt
  have hq2 : base ≤ q := hD.2 _ _ hlast
  have hq3 : q = base + h.1.length := by
    rcases Nat.lt_or_ge q (base + h.1.length) with w | w
    · have hj : q - base < h.1.length := by omega
      have e1 : (ev_ws (ev_ad base ex) aC h.1 ++ [(q, ev_cv (ev_ad base ex) aC x)])[q - base]? = some (ev_ad base ex (q - base), ev_cv (ev_ad base ex) aC h.1[q - base]) := by
        rw [List.getElem?_append_left (by omega)]
        exact ev_ws_at (List.getElem?_eq_getElem hj)
      have e2 : ev_ad base ex (q - base) = q := by rw [ev_ad_in (by omega)]; omega
      have := hD.1 _ _ _ _ e1 hlast e2
      omega
    · omega
  have hq4 : q = ev_ad base ex h.1.length := by rw [ev_ad_in (by omega)]; exact hq3
  refine ⟨by rw [q3]; exact hq4, ?_, ?_, ?_, ?_⟩
  · rw [hq4, ev_ws_push] at hP
    exact hP
  · show H1.size = base + (h.1 ++ [x]).length
    simp; omega
  · show h.2.1 + 1 = (h.1 ++ [x]).length
    simp; omega
  · show (h.1 ++ [x]).length ≤ ev_ext
    simp; omega
theorem ev_iastore (hx : p.tables.exec = Jvm.exec) (hb : c.code = cc) (hbn : base + n0 = s.heap.size) (hK : va_K D cl (ev_tys aC) s) (hdg : decode cc pc = .ok (.iastore, 1)) (he : ev_s V dft (.iastore, z) pc ls st h = some r) (kk : ev_Sim p l e R s m args below meth c Q D cl aC base ex nL n0 s0 r) : ev_Sim p l e R s m args below meth c Q D cl aC base ex nL n0 s0 (pc, ls, st, h) := by
  intro Ls H locs cells slots hl hn hh hS h1 h2
  simp only [ev_s] at he
  obtain ⟨rr, hr, e1⟩ := Option.map_eq_some_iff.mp he
  subst e1
  unfold ev_asti at hr
  split at hr
  · next x i a r2 =>
    split at hr
    · next t' n f hc =>
      split at hr
      · next ht =>
        split at hr
        · next hi =>
          split at hr
          · next hv =>
            cases hr
            subst ht
            refine va_iast hx hb hK hh.1 (ev_D hh.2.2.2) (ev_S0 hS) a 0 (ev_ws_at hc) rfl (ev_ix_in hi) hdg (fun H1 locs1 hP1 hD1 hS1 => ev_sized fun hsz => ?_)
            have hd := ev_done (x := .inl (0, n, .inl (upd f i.toNatClampNeg x))) hbn hh h1 hS1 hsz hP1
            exact kk Ls H1 locs1 cells slots hl hn hd (ev_S1 hS hS1) h1 h2
          · cases hr
        · cases hr
      · cases hr
    · cases hr
  · cases hr
theorem ev_bastore (hx : p.tables.exec = Jvm.exec) (hb : c.code = cc) (hbn : base + n0 = s.heap.size) (hK : va_K D cl (ev_tys aC) s) (hdg : decode cc pc = .ok (.bastore, 1)) (he : ev_s V dft (.bastore, z) pc ls st h = some r) (kk : ev_Sim p l e R s m args below meth c Q D cl aC base ex nL n0 s0 r) : ev_Sim p l e R s m args below meth c Q D cl aC base ex nL n0 s0 (pc, ls, st, h) := by
  intro Ls H locs cells slots hl hn hh hS h1 h2
  simp only [ev_s] at he
  obtain ⟨rr, hr, e1⟩ := Option.map_eq_some_iff.mp he
  subst e1
  unfold ev_asti at hr
  split at hr
  · next x i a r2 =>
    split at hr
    · next t' n f hc =>
      split at hr
      · next ht =>
        split at hr
        · next hi =>
          split at hr
          · next hv =>
            cases hr
            subst ht
            refine va_zast hx hb hK hh.1 (ev_D hh.2.2.2) (ev_S0 hS) a 2 (ev_ws_at hc) rfl (ev_ix_in hi) hdg (fun H1 locs1 hP1 hD1 hS1 => ev_sized fun hsz => ?_)
            have hnar : vp_nar .boolean x = x := by
              rcases hv with q | q | q
              · cases q
              · subst q; decide
              · subst q; decide
            rw [hnar] at hP1
            have hd := ev_done (x := .inl (2, n, .inl (upd f i.toNatClampNeg x))) hbn hh h1 hS1 hsz hP1
            exact kk Ls H1 locs1 cells slots hl hn hd (ev_S1 hS hS1) h1 h2
          · cases hr
        · cases hr
      · cases hr
    · cases hr
  · cases hr
theorem ev_lastore (hx : p.tables.exec = Jvm.exec) (hb : c.code = cc) (hbn : base + n0 = s.heap.size) (hK : va_K D cl (ev_tys aC) s) (hdg : decode cc pc = .ok (.lastore, 1)) (he : ev_s V dft (.lastore, z) pc ls st h = some r) (kk : ev_Sim p l e R s m args below meth c Q D cl aC base ex nL n0 s0 r) : ev_Sim p l e R s m args below meth c Q D cl aC base ex nL n0 s0 (pc, ls, st, h) := by
  intro Ls H locs cells slots hl hn hh hS h1 h2
  simp only [ev_s] at he
  obtain ⟨rr, hr, e1⟩ := Option.map_eq_some_iff.mp he
  subst e1
  unfold ev_astl at hr
  split at hr
  · next x i a r2 =>
    split at hr
    · next t' n f hc =>
      split at hr
      · next ht =>
        split at hr
        · next hi =>
          cases hr
          subst ht
          refine va_last hx hb hK hh.1 (ev_D hh.2.2.2) (ev_S0 hS) a 1 (ev_ws_at hc) rfl (ev_ix_in hi) hdg (fun H1 locs1 hP1 hD1 hS1 => ev_sized fun hsz => ?_)
          have hd := ev_done (x := .inl (1, n, .inr (.inl (vp_updL f i.toNatClampNeg x)))) hbn hh h1 hS1 hsz hP1
          exact kk Ls H1 locs1 cells slots hl hn hd (ev_S1 hS hS1) h1 h2
        · cases hr
      · cases hr
    · cases hr
  · cases hr
theorem ev_isC_at {ci : Nat} {o : Option ev_C} (h : ev_isC ci o = true) : ∃ fs, o = some (.inr (ci, fs)) := by
  unfold ev_isC at h
  split at h
  · next cj fs => exact ⟨fs, by rw [beq_iff_eq] at h; rw [h]⟩
  · cases h
theorem ev_aastore (hx : p.tables.exec = Jvm.exec) (hb : c.code = cc) (hbn : base + n0 = s.heap.size) (hK : va_K D cl (ev_tys aC) s) {len t ci w : Nat} {C : String} {rc : vw_C} (ht0 : ev_tyl[t]? = some (.object C)) (hrc : cl[ci]? = some rc) (hca : va_Nw (.castable rc.1 C) s) (hdg : decode cc pc = .ok (.aastore, 1)) (he : ev_s V dft (.aastore, len, t, ci, w) pc ls st h = some r) (kk : ev_Sim p l e R s m args below meth c Q D cl aC base ex nL n0 s0 r) : ev_Sim p l e R s m args below meth c Q D cl aC base ex nL n0 s0 (pc, ls, st, h) := by
  intro Ls H locs cells slots hl hn hh hS h1 h2
  simp only [ev_s] at he
  obtain ⟨rr, hr, e1⟩ := Option.map_eq_some_iff.mp he
  subst e1
  unfold ev_astq at hr
  split at hr
  · next q i a r2 =>
    split at hr
    · next t' n f hc =>
      split at hr
      · next ht =>
        split at hr
        · next hi =>
          split at hr
          · next hv =>
            cases hr
            subst ht
            obtain ⟨vs, hvs⟩ := ev_isC_at hv
            refine va_astqO hx hb hK hh.1 (ev_D hh.2.2.2) (ev_S0 hS) a t' q ci (E := C) (r := rc) (ev_ws_at hc) (by simp [ev_tys, ht0]) hca (ev_ws_at hvs) hrc (ev_ix_in hi) hdg (fun H1 locs1 hP1 hD1 hS1 => ev_sized fun hsz => ?_)
            have e9 : ev_cv (ev_ad base ex) aC (.inl (t', n, .inr (.inr (.inr (.inr (va_up f i.toNatClampNeg (some q))))))) = (.inl (aC t', n, .inr (.inr (.inr (.inr (va_up (fun j => (f j).map (ev_ad base ex)) i.toNatClampNeg (some (ev_ad base ex q))))))) : va_E) := by
              show (.inl (aC t', n, .inr (.inr (.inr (.inr (fun j => (va_up f i.toNatClampNeg (some q) j).map (ev_ad base ex)))))) : va_E) = _
              congr 7
              funext j
              by_cases hj : j = i.toNatClampNeg <;> simp [va_up, hj]
            rw [← e9] at hP1
            have hd := ev_done (x := .inl (t', n, .inr (.inr (.inr (.inr (va_up f i.toNatClampNeg (some q))))))) hbn hh h1 hS1 hsz hP1
            exact kk Ls H1 locs1 cells slots hl hn hd (ev_S1 hS hS1) h1 h2
          · cases hr
        · cases hr
      · cases hr
    · cases hr
  · cases hr
end EvD
end
section
/-! Steps that make cells, read and write fields, and load constants. -/
section EvE
variable {p : Program} {l : Launch} {e : Env} {R : Room} {s : State} {m : MethodId} {args : Array Value} {below : List Frame} {meth : Method} {c : Code} {Q : State → Prop} {D : va_G} {cl : List vw_C} {aC : Nat → ClassId} {base : Nat} {ex : Nat → Nat} {nL n0 s0 : Nat}
variable {cc : ByteArray} {V : ev_V} {dft : Nat → List Value} {pc : Nat} {ls : ev_L} {st : List Value} {h : ev_H} {r : ev_R} {z : Nat × Nat × Nat × Nat} {Ts : List Cond}
theorem ev_ad_1 {base : Nat} {ex : Nat → Nat} : ev_ad base ex (ev_ext + 1) = ex 1 := by
  unfold ev_ad
  rw [if_neg (by omega), Nat.add_sub_cancel_left]
theorem ev_alen (hx : p.tables.exec = Jvm.exec) (hb : c.code = cc) (hK : va_K D cl (ev_tys aC) s) (hX : va_X (ex 0) V.1 V.2 s s.heap) (hT : va_T (.object "java/lang/Object") (ex 1) 0 (fun _ => .null) (fun a : Nat => base ≤ a) s s.heap) (hX0 : ex 0 < base) (hX1 : base ≤ s.heap.size) (hdg : decode cc pc = .ok (.arraylength, 1)) (he : ev_s V dft (.arraylength, z) pc ls st h = some r) (kk : ev_Sim p l e R s m args below meth c Q D cl aC base ex nL n0 s0 r) : ev_Sim p l e R s m args below meth c Q D cl aC base ex nL n0 s0 (pc, ls, st, h) := by
  intro Ls H locs cells slots hl hn hh hS h1 h2
  simp only [ev_s] at he
  split at he
  · next a r2 =>
    split at he
    · next hq =>
      cases he
      subst hq
      have hA : ev_ad base ex ev_ext = ex 0 := by simp [ev_ad]
      show W p l e R s m args below meth c H locs cells slots Q (F0 m pc Ls (.ref (ev_ad base ex ev_ext) :: r2.map (ev_tv (ev_ad base ex))))
      rw [hA]
      exact va_slen hx hb hX (Nat.lt_of_lt_of_le hX0 hX1) (Nat.not_le.mpr hX0) hS hdg (kk Ls H locs cells slots hl hn hh hS h1 h2)
    · split at he
      · next hq =>
        cases he
        subst hq
        show W p l e R s m args below meth c H locs cells slots Q (F0 m pc Ls (.ref (ev_ad base ex (ev_ext + 1)) :: r2.map (ev_tv (ev_ad base ex))))
        rw [ev_ad_1]
        exact va_tlen hx hb hT hS rfl hdg (kk Ls H locs cells slots hl hn hh hS h1 h2)
      · split at he
        · next t n a2 hc =>
          split at he
          · next ht =>
            cases he
            have hw := ev_ws_at (ad := ev_ad base ex) (aC := aC) hc
            have hty : ∃ ty, (ev_tys aC)[t]? = some (aC t, ty) := by
              match t, ht with
              | 0, _ => exact ⟨_, rfl⟩
              | 1, _ => exact ⟨_, rfl⟩
              | 2, _ => exact ⟨_, rfl⟩
              | 3, _ => exact ⟨_, rfl⟩
              | 4, _ => exact ⟨_, rfl⟩
            obtain ⟨ty, hty⟩ := hty
            rcases a2 with f | f | f | f | f
            · exact va_alen hx hb hK hh.1 a t (x := (n, .inl f)) hw hty rfl hdg (kk Ls H locs cells slots hl hn hh hS h1 h2)
            · exact va_alen hx hb hK hh.1 a t (x := (n, .inr (.inl f))) hw hty rfl hdg (kk Ls H locs cells slots hl hn hh hS h1 h2)
            · exact va_alen hx hb hK hh.1 a t (x := (n, .inr (.inr (.inl f)))) hw hty rfl hdg (kk Ls H locs cells slots hl hn hh hS h1 h2)
            · exact va_alen hx hb hK hh.1 a t (x := (n, .inr (.inr (.inr (.inl f))))) hw hty rfl hdg (kk Ls H locs cells slots hl hn hh hS h1 h2)
            · exact va_alen hx hb hK hh.1 a t (x := (n, .inr (.inr (.inr (.inr (fun j => (f j).map (ev_ad base ex))))))) hw hty rfl hdg (kk Ls H locs cells slots hl hn hh hS h1 h2)
          · cases he
        · cases he
  · cases he
theorem ev_getfield (hx : p.tables.exec = Jvm.exec) (hb : c.code = cc) (hts : ∀ w ∈ Ts, w.before args s = true) (hK : va_K D cl (ev_tys aC) s) {own ref C : String} {T : u_T} {N index len x y w : Nat} (hown : s.vm.findClass own = some m.cls) (hc : cl[x]? = some (C, T, N)) (hin : ∀ w ∈ u_ws C T N, w ∈ Ts) (hk : y < N) (hlink : Cond.fieldLink own index ref (T y).2.1 (T y).2.2.1 ∈ Ts) (hsame : ∀ q, s.fieldFound? (T y).1 (T y).2.1 (T y).2.2.1 = some q → s.fieldFound? ref (T y).2.1 (T y).2.2.1 = some q) (hdg : decode cc pc = .ok (.getfield index, 3)) (he : ev_s V dft (.getfield index, len, x, y, w) pc ls st h = some r) (kk : ev_Sim p l e R s m args below meth c Q D cl aC base ex nL n0 s0 r) : ev_Sim p l e R s m args below meth c Q D cl aC base ex nL n0 s0 (pc, ls, st, h) := by
  intro Ls H locs cells slots hl hn hh hS h1 h2
  simp only [ev_s] at he
  split at he
  · next a r2 =>
    split at he
    · next ci fs hcell =>
      split at he
      · next hci =>
        split at he
        · next v hv =>
          cases he
          subst hci
          exact va_get hx hb hts hin hown hK hh.1 a (ev_ws_at hcell) hc y hk (hts _ hlink) hsame (by rw [List.getElem?_map, hv]; rfl) hdg (kk Ls H locs cells slots hl hn hh hS h1 h2)
        · cases he
      · cases he
    · cases he
  · cases he
theorem ev_getfieldN (hx : p.tables.exec = Jvm.exec) (hb : c.code = cc) (hts : ∀ w ∈ Ts, w.before args s = true) (hK : va_K D cl (ev_tys aC) s) {own ref host C : String} {T : u_T} {N index len x y w : Nat} (hown : s.vm.findClass own = some m.cls) (hc : cl[x]? = some (C, T, N)) (hin : ∀ w ∈ u_ws C T N, w ∈ Ts) (hk : y < N) (hlink : (Cond.fieldLinkNest own index ref (T y).2.1 (T y).2.2.1 host).before args s = true) (hsame : ∀ q, s.fieldFound? (T y).1 (T y).2.1 (T y).2.2.1 = some q → s.fieldFound? ref (T y).2.1 (T y).2.2.1 = some q) (hdg : decode cc pc = .ok (.getfield index, 3)) (he : ev_s V dft (.getfield index, len, x, y, w) pc ls st h = some r) (kk : ev_Sim p l e R s m args below meth c Q D cl aC base ex nL n0 s0 r) : ev_Sim p l e R s m args below meth c Q D cl aC base ex nL n0 s0 (pc, ls, st, h) := by
  intro Ls H locs cells slots hl hn hh hS h1 h2
  simp only [ev_s] at he
  split at he
  · next a r2 =>
    split at he
    · next ci fs hcell =>
      split at he
      · next hci =>
        split at he
        · next v hv =>
          cases he
          subst hci
          exact va_getN hx hb hts hin hown hK hh.1 a (ev_ws_at hcell) hc y hk hlink hsame (by rw [List.getElem?_map, hv]; rfl) hdg (kk Ls H locs cells slots hl hn hh hS h1 h2)
        · cases he
      · cases he
    · cases he
  · cases he
def ev_tyc (ty : FieldType) : Nat := match ty with
  | .int => 0
  | .long => 1
  | .object _ => 2
  | .array _ => 2
  | _ => 3
theorem ev_okf_fits {ad : Nat → Nat} {ty : FieldType} {v : Value} (h : ev_okf (ev_tyc ty) v = true) : fits ty (ev_tv ad v) = true ∧ narrow ty (ev_tv ad v) = ev_tv ad v := by
  cases ty <;> cases v <;> first | exact ⟨rfl, rfl⟩ | (exact absurd h (by simp [ev_okf, ev_tyc]))
theorem ev_putfield (hx : p.tables.exec = Jvm.exec) (hb : c.code = cc) (hbn : base + n0 = s.heap.size) (hts : ∀ w ∈ Ts, w.before args s = true) (hK : va_K D cl (ev_tys aC) s) {own ref C : String} {T : u_T} {N index len x y w : Nat} (ty0 : Nat → FieldType) (hty : ∀ k, k < N → parseFieldDescriptor (T k).2.2.1 = some (ty0 k)) (hnm : ∀ a, a < N → ∀ b, b < N → a ≠ b → (T a).2.1 ≠ (T b).2.1) (hown : s.vm.findClass own = some m.cls) (hc : cl[x]? = some (C, T, N)) (hin : ∀ w ∈ u_ws C T N, w ∈ Ts) (hk : y < N) (hlink : Cond.fieldLink own index ref (T y).2.1 (T y).2.2.1 ∈ Ts) (hsame : ∀ q, s.fieldFound? (T y).1 (T y).2.1 (T y).2.2.1 = some q → s.fieldFound? ref (T y).2.1 (T y).2.2.1 = some q) (hfin : (T y).2.2.2 = false ∨ (meth.name = "<init>" ∧ (T y).1 = own)) (hw : w % 4 = ev_tyc (ty0 y)) (hdg : decode cc pc = .ok (.putfield index, 3)) (he : ev_s V dft (.putfield index, len, x, y, w) pc ls st h = some r) (kk : ev_Sim p l e R s m args below meth c Q D cl aC base ex nL n0 s0 r) : ev_Sim p l e R s m args below meth c Q D cl aC base ex nL n0 s0 (pc, ls, st, h) := by
  intro Ls H locs cells slots hl hn hh hS h1 h2
  simp only [ev_s] at he
  split at he
  · next v a r2 =>
    split at he
    · next ci fs hcell =>
      split at he
      · next hci =>
        split at he
        · next hv =>
          cases he
          subst hci
          obtain ⟨hv1, hv2⟩ := hv
          rw [hw] at hv1
          obtain ⟨f1, f2⟩ := ev_okf_fits (ad := ev_ad base ex) hv1
          have e9 : ev_cv (ev_ad base ex) aC (.inr (ci, fs.set y v)) = (.inr (ci, (fs.map (ev_tv (ev_ad base ex))).set y (ev_tv (ev_ad base ex) v)) : va_E) := by
            show (.inr (ci, (fs.set y v).map (ev_tv (ev_ad base ex))) : va_E) = _
            rw [List.map_set]
          have fin : ∀ (H1 : Heap) (locs1 : List Loc), va_P D cl ((ev_ws (ev_ad base ex) aC h.1).set a (ev_ad base ex a, .inr (ci, (fs.map (ev_tv (ev_ad base ex))).set y (ev_tv (ev_ad base ex) v)))) H1 → va_S (fun a : Nat => base ≤ a) H H1 locs1 → W p l e R s m args below meth c H1 locs1 cells slots Q (F0 m (pc + 3) Ls (r2.map (ev_tv (ev_ad base ex)))) := by
            intro H1 locs1 hP1 hS1
            refine ev_sized fun hsz => ?_
            rw [← e9] at hP1
            have hd := ev_done (x := .inr (ci, fs.set y v)) hbn hh h1 hS1 hsz hP1
            exact kk Ls H1 locs1 cells slots hl hn hd (ev_S1 hS hS1) h1 h2
          rcases hf : (T y).2.2.2 with _ | _
          · exact va_put hx hb hts hin ty0 hty hnm hown hK hh.1 (ev_D hh.2.2.2) (ev_S0 hS) a (ev_ws_at hcell) hc y hk (hts _ hlink) hsame hf (hty y hk) f2 f1 (by rw [List.length_map]; exact hv2) hdg (fun H1 locs1 hP1 _ hS1 => fin H1 locs1 hP1 hS1)
          · obtain ⟨g1, g2⟩ := hfin.resolve_left (by rw [hf]; decide)
            exact va_putF hx hb hts hin ty0 hty hnm hown hK hh.1 (ev_D hh.2.2.2) (ev_S0 hS) a (ev_ws_at hcell) hc y hk (hts _ hlink) hsame hf g1 g2 (hty y hk) f2 f1 (by rw [List.length_map]; exact hv2) hdg (fun H1 locs1 hP1 _ hS1 => fin H1 locs1 hP1 hS1)
        · cases he
      · cases he
    · cases he
  · cases he
theorem ev_new (hx : p.tables.exec = Jvm.exec) (hb : c.code = cc) (hbn : base + n0 = s.heap.size) (hts : ∀ w ∈ Ts, w.before args s = true) (hK : va_K D cl (ev_tys aC) s) {own C : String} {T : u_T} {N index len x y w : Nat} (ty0 : Nat → FieldType) (hty : ∀ k, k < N → parseFieldDescriptor (T k).2.2.1 = some (ty0 k)) (hown : s.vm.findClass own = some m.cls) (hc : cl[x]? = some (C, T, N)) (hin : ∀ w ∈ u_ws C T N, w ∈ Ts) (hlink : Cond.classLink own index C ∈ Ts) (hinst : Cond.instantiable C N ∈ Ts) (hini : Cond.initialized C ∈ Ts) (hdf : (dft x).length = N ∧ ∀ j, j < N → defaultValue (ty0 j) = vp_V (dft x) j) (hdn : ∀ v ∈ dft x, ∀ a, v ≠ .ref a) (hdg : decode cc pc = .ok (.new index, 3)) (he : ev_s V dft (.new index, len, x, y, w) pc ls st h = some r) (hrc : r.2.2.2.2.1 ≤ R.cells + n0 ∧ r.2.2.2.2.1 ≤ ev_ext ∧ r.2.2.2.2.2 ≤ R.slots + s0) (kk : ev_Sim p l e R s m args below meth c Q D cl aC base ex nL n0 s0 r) : ev_Sim p l e R s m args below meth c Q D cl aC base ex nL n0 s0 (pc, ls, st, h) := by
  intro Ls H locs cells slots hl hn hh hS h1 h2
  simp only [ev_s] at he
  cases he
  obtain ⟨q1, q2, q3⟩ := hrc
  dsimp only [ev_push] at q1 q2 q3
  dsimp only at h1 h2 hh
  have e9 : ev_cv (ev_ad base ex) aC (.inr (x, dft x)) = (.inr (x, dft x) : va_E) := by
    show (.inr (x, (dft x).map (ev_tv (ev_ad base ex))) : va_E) = _
    rw [List.map_congr_left (g := id) (fun v hv => ?_), List.map_id]
    cases v with
    | ref a => exact absurd rfl (hdn _ hv a)
    | _ => rfl
  have hX1 : base ≤ s.heap.size := by omega
  refine va_new hx hb hts hin ty0 hty hown (hts _ hlink) (hts _ hinst) (hts _ hini) hK hh.1 (ev_D hh.2.2.2) (ev_S0 hS) (fun q hq => Nat.le_trans hX1 (Nat.le_trans hS.1 hq)) hc hdf.2 (by omega) (by rw [hdf.1] at q3; omega) hdg (fun q H1 hP1 hD1 hS1 => ev_sized fun hsz => ?_)
  rw [← e9] at hP1 hD1
  obtain ⟨hq, hd⟩ := ev_born (n := (dft x).length) hbn hh h1 (by omega) hS1 hsz hP1 hD1
  rw [hq]
  exact kk Ls H1 locs (cells + 1) (slots + N) hl hn hd (ev_S1 hS hS1) (by show cells + 1 + n0 = h.2.1 + 1; omega) (by show slots + N + s0 = h.2.2 + (dft x).length; rw [hdf.1]; omega)
theorem ev_newarray (hx : p.tables.exec = Jvm.exec) (hb : c.code = cc) (hbn : base + n0 = s.heap.size) (hts : ∀ w ∈ Ts, w.before args s = true) (hK : va_K D cl (ev_tys aC) s) {ty : ArrayType} (harr : Cond.arrayClass (newarray.typeOf ty) ∈ Ts) (hdg : decode cc pc = .ok (.newarray ty, 2)) (he : ev_s V dft (.newarray ty, z) pc ls st h = some r) (hrc : r.2.2.2.2.1 ≤ R.cells + n0 ∧ r.2.2.2.2.1 ≤ ev_ext ∧ r.2.2.2.2.2 ≤ R.slots + s0) (kk : ev_Sim p l e R s m args below meth c Q D cl aC base ex nL n0 s0 r) : ev_Sim p l e R s m args below meth c Q D cl aC base ex nL n0 s0 (pc, ls, st, h) := by
  intro Ls H locs cells slots hl hn hh hS h1 h2
  simp only [ev_s] at he
  have hX1 : base ≤ s.heap.size := by omega
  have key : ∀ (t n9 : Nat) (x9 : (Nat → Int32) ⊕ (Nat → Int64) ⊕ (Nat → UInt32) ⊕ (Nat → UInt64) ⊕ (Nat → Option Nat)) (n : Int32) (r2 : List Value), st = .int n :: r2 → ¬ n < 0 → ¬ 1000000 < n.toNatClampNeg → (ev_tys aC)[t]? = some (aC t, newarray.typeOf ty) → (∀ cA : ClassId, s.vm.findClass ("[" ++ (newarray.typeOf ty).toString) = some cA → aC t = cA) → (∀ cA : ClassId, vp_cell cA (n.toNatClampNeg, x9) = arrV cA n.toNatClampNeg (fun _ => defaultValue (newarray.typeOf ty))) → ev_cv (ev_ad base ex) aC (.inl (t, n.toNatClampNeg, x9)) = .inl (aC t, n.toNatClampNeg, x9) → componentBytes (newarray.typeOf ty) ≤ 8 → r = (pc + 2, ls, .ref h.2.1 :: r2, ev_push h (.inl (t, n.toNatClampNeg, x9)) n.toNatClampNeg) → W p l e R s m args below meth c H locs cells slots Q (F0 m pc Ls (st.map (ev_tv (ev_ad base ex)))) := by
    intro t n9 x9 n r2 hst g1 g2 g3 g4 g5 g6 g7 hr
    subst hst; subst hr
    obtain ⟨q1, q2, q3⟩ := hrc
    dsimp only [ev_push] at q1 q2 q3
    dsimp only at h1 h2 hh
    refine va_newa hx hb (hts _ harr) (ty := newarray.typeOf ty) (a0 := (n.toNatClampNeg, x9)) rfl hK hh.1 (ev_D hh.2.2.2) (ev_S0 hS) (fun q hq => Nat.le_trans hX1 (Nat.le_trans hS.1 hq)) g5 g1 rfl (Nat.le_trans (Nat.mul_le_mul (Nat.not_lt.mp g2) g7) (by decide)) (by omega) (by omega) hdg (fun q cA H1 hK1 hP1 hD1 hS1 => ev_sized fun hsz => ?_)
    have hcA : aC t = cA := by
      apply g4
      have := (hK1.2 (ev_tys aC).length (cA, newarray.typeOf ty) (by rw [List.getElem?_append_right (Nat.le_refl _), Nat.sub_self]; rfl)).2
      cases ty <;> exact this
    rw [← hcA, ← g6] at hP1 hD1
    obtain ⟨hq, hd⟩ := ev_born (n := n.toNatClampNeg) hbn hh h1 (by omega) hS1 hsz hP1 hD1
    rw [hq]
    exact kk Ls H1 locs (cells + 1) (slots + n.toNatClampNeg) hl hn hd (ev_S1 hS hS1) (by show cells + 1 + n0 = h.2.1 + 1; omega) (by show slots + n.toNatClampNeg + s0 = h.2.2 + n.toNatClampNeg; omega)
  split at he
  · next n r2 =>
    split at he
    · cases he
    · next g1 =>
      split at he
      · cases he
      · next g2 =>
        have hf : ∀ t : Nat, (ev_tys aC)[t]? = some (aC t, newarray.typeOf ty) → ∀ cA : ClassId, s.vm.findClass ("[" ++ (newarray.typeOf ty).toString) = some cA → aC t = cA := by
          intro t ht cA hcA
          have := (hK.2 t _ ht).2
          have h9 : s.vm.findClass ("[" ++ (newarray.typeOf ty).toString) = some (aC t) := by cases ty <;> exact this
          exact Option.some.inj (h9.symm.trans hcA)
        split at he
        · cases he
          exact key 0 0 (.inl (fun _ => 0)) n r2 rfl g1 g2 rfl (hf 0 rfl) (fun _ => rfl) rfl (by decide) rfl
        · cases he
          exact key 1 0 (.inr (.inl (fun _ => 0))) n r2 rfl g1 g2 rfl (hf 1 rfl) (fun _ => rfl) rfl (by decide) rfl
        · cases he
          exact key 2 0 (.inl (fun _ => 0)) n r2 rfl g1 g2 rfl (hf 2 rfl) (fun _ => rfl) rfl (by decide) rfl
        · cases he
  · cases he
theorem ev_anewarray (hx : p.tables.exec = Jvm.exec) (hb : c.code = cc) (hbn : base + n0 = s.heap.size) (hts : ∀ w ∈ Ts, w.before args s = true) (hK : va_K D cl (ev_tys aC) s) {own C : String} {index len x y w : Nat} (hown : s.vm.findClass own = some m.cls) (hlink : Cond.classLink own index C ∈ Ts) (hao : va_AO C s) (ht0 : ev_tyl[x]? = some (.object C)) (hdg : decode cc pc = .ok (.anewarray index, 3)) (he : ev_s V dft (.anewarray index, len, x, y, w) pc ls st h = some r) (hrc : r.2.2.2.2.1 ≤ R.cells + n0 ∧ r.2.2.2.2.1 ≤ ev_ext ∧ r.2.2.2.2.2 ≤ R.slots + s0) (kk : ev_Sim p l e R s m args below meth c Q D cl aC base ex nL n0 s0 r) : ev_Sim p l e R s m args below meth c Q D cl aC base ex nL n0 s0 (pc, ls, st, h) := by
  intro Ls H locs cells slots hl hn hh hS h1 h2
  simp only [ev_s] at he
  have hX1 : base ≤ s.heap.size := by omega
  split at he
  · next n r2 =>
    split at he
    · cases he
    · next g1 =>
      split at he
      · cases he
      · next g2 =>
        cases he
        obtain ⟨q1, q2, q3⟩ := hrc
        dsimp only [ev_push] at q1 q2 q3
        dsimp only at h1 h2 hh
        refine va_newq hx hb hown (hts _ hlink) hao hK hh.1 (ev_D hh.2.2.2) (ev_S0 hS) (fun q hq => Nat.le_trans hX1 (Nat.le_trans hS.1 hq)) g1 rfl (Nat.le_trans (Nat.mul_le_mul_right 4 (Nat.not_lt.mp g2)) (by decide)) (by omega) (by omega) hdg (fun q cA H1 hK1 hP1 hD1 hS1 => ev_sized fun hsz => ?_)
        have ht1 : (ev_tys aC)[x]? = some (aC x, .object C) := by simp [ev_tys, ht0]
        have hcA : aC x = cA := by
          obtain ⟨k1, c1, -, -, -, a1⟩ := (hK.2 x _ ht1).2
          obtain ⟨k2, c2, -, -, -, a2⟩ := (hK1.2 (ev_tys aC).length (cA, .object C) (by rw [List.getElem?_append_right (Nat.le_refl _), Nat.sub_self]; rfl)).2
          exact Option.some.inj (a1.symm.trans a2)
        have e9 : ev_cv (ev_ad base ex) aC (.inl (x, n.toNatClampNeg, .inr (.inr (.inr (.inr (fun _ => none)))))) = (.inl (aC x, n.toNatClampNeg, .inr (.inr (.inr (.inr (fun _ => none))))) : va_E) := rfl
        rw [← hcA, ← e9] at hP1 hD1
        obtain ⟨hq, hd⟩ := ev_born (n := n.toNatClampNeg) hbn hh h1 (by omega) hS1 hsz hP1 hD1
        rw [hq]
        exact kk Ls H1 locs (cells + 1) (slots + n.toNatClampNeg) hl hn hd (ev_S1 hS hS1) (by show cells + 1 + n0 = h.2.1 + 1; omega) (by show slots + n.toNatClampNeg + s0 = h.2.2 + n.toNatClampNeg; omega)
  · cases he
theorem ev_ldc (hx : p.tables.exec = Jvm.exec) (hb : c.code = cc) (hts : ∀ w ∈ Ts, w.before args s = true) {own : String} {index len x : Nat} {w : Nat × Nat} (hown : s.vm.findClass own = some m.cls) (hlink : Cond.constant own index (Int32.ofNat x) ∈ Ts) (hdg : decode cc pc = .ok (.ldc index, 2)) (he : ev_s V dft (.ldc index, len, x, w) pc ls st h = some r) (kk : ev_Sim p l e R s m args below meth c Q D cl aC base ex nL n0 s0 r) : ev_Sim p l e R s m args below meth c Q D cl aC base ex nL n0 s0 (pc, ls, st, h) := by
  intro Ls H locs cells slots hl hn hh hS h1 h2
  simp only [ev_s] at he
  cases he
  exact lv_ldc hx hb hown (hts _ hlink) hdg (kk Ls H locs cells slots hl hn hh hS h1 h2)
theorem ev_ldcw (hx : p.tables.exec = Jvm.exec) (hb : c.code = cc) (hts : ∀ w ∈ Ts, w.before args s = true) {own : String} {index len x : Nat} {w : Nat × Nat} (hown : s.vm.findClass own = some m.cls) (hlink : Cond.constant own index (Int32.ofNat x) ∈ Ts) (hdg : decode cc pc = .ok (.ldc_w index, 3)) (he : ev_s V dft (.ldc_w index, len, x, w) pc ls st h = some r) (kk : ev_Sim p l e R s m args below meth c Q D cl aC base ex nL n0 s0 r) : ev_Sim p l e R s m args below meth c Q D cl aC base ex nL n0 s0 (pc, ls, st, h) := by
  intro Ls H locs cells slots hl hn hh hS h1 h2
  simp only [ev_s] at he
  cases he
  exact lv_ldcw hx hb hown (hts _ hlink) hdg (kk Ls H locs cells slots hl hn hh hS h1 h2)
theorem ev_ldc2 (hx : p.tables.exec = Jvm.exec) (hb : c.code = cc) (hts : ∀ w ∈ Ts, w.before args s = true) {own : String} {index len x : Nat} {w : Nat × Nat} (hown : s.vm.findClass own = some m.cls) (hlink : Cond.constantLong own index (Int64.ofNat x) ∈ Ts) (hdg : decode cc pc = .ok (.ldc2_w index, 3)) (he : ev_s V dft (.ldc2_w index, len, x, w) pc ls st h = some r) (kk : ev_Sim p l e R s m args below meth c Q D cl aC base ex nL n0 s0 r) : ev_Sim p l e R s m args below meth c Q D cl aC base ex nL n0 s0 (pc, ls, st, h) := by
  intro Ls H locs cells slots hl hn hh hS h1 h2
  simp only [ev_s] at he
  cases he
  exact lv_ldc2 hx hb hown (hts _ hlink) hdg (kk Ls H locs cells slots hl hn hh hS h1 h2)
/-- a cell of a class is an object of it -/
theorem ev_recv (hK : va_K D cl (ev_tys aC) s) {H : Heap} (hh : ev_rel D cl aC base ex h H) {a ci : Nat} {fs : List Value} {C : String} {T : u_T} {N : Nat} (hc : cl[ci]? = some (C, T, N)) (ha : h.1[a]? = some (.inr (ci, fs))) : ∃ cell : Cell, H[ev_ad base ex a]? = some cell ∧ cell.vm.isStatics = false ∧ s.vm.findClass C = some cell.cls := by
  obtain ⟨r9, hr, cell, g1, g2, g3, -⟩ := hh.1 a _ (ev_ws_at ha)
  cases hr.symm.trans hc
  exact ⟨cell, g1, by rw [g3]; rfl, by rw [g2]; exact (hK.1 ci _ hc).2.1⟩
theorem ev_checkcast (hx : p.tables.exec = Jvm.exec) (hb : c.code = cc) (hts : ∀ w ∈ Ts, w.before args s = true) (hK : va_K D cl (ev_tys aC) s) {own C nm : String} {T : u_T} {N index len x : Nat} {w : Nat × Nat} (hown : s.vm.findClass own = some m.cls) (hlink : Cond.classLink own index nm ∈ Ts) (hc : cl[x]? = some (C, T, N)) (hca : va_Nw (.castable C nm) s) (hdg : decode cc pc = .ok (.checkcast index, 3)) (he : ev_s V dft (.checkcast index, len, x, w) pc ls st h = some r) (kk : ev_Sim p l e R s m args below meth c Q D cl aC base ex nL n0 s0 r) : ev_Sim p l e R s m args below meth c Q D cl aC base ex nL n0 s0 (pc, ls, st, h) := by
  intro Ls H locs cells slots hl hn hh hS h1 h2
  simp only [ev_s] at he
  split at he
  · next a r2 =>
    split at he
    · next hv =>
      cases he
      obtain ⟨fs, hfs⟩ := ev_isC_at hv
      exact va_castY hx hb hown (hts _ hlink) hca (ev_recv hK hh hc hfs) hdg (kk Ls H locs cells slots hl hn hh hS h1 h2)
    · cases he
  · cases he
theorem ev_null (hx : p.tables.exec = Jvm.exec) (hb : c.code = cc) (hdg : decode cc pc = .ok (.aconst_null, 1)) (he : ev_s V dft (.aconst_null, z) pc ls st h = some r) (kk : ev_Sim p l e R s m args below meth c Q D cl aC base ex nL n0 s0 r) : ev_Sim p l e R s m args below meth c Q D cl aC base ex nL n0 s0 (pc, ls, st, h) := by
  intro Ls H locs cells slots hl hn hh hS h1 h2
  simp only [ev_s] at he
  cases he
  exact lv_null hx hb hdg (kk Ls H locs cells slots hl hn hh hS h1 h2)
theorem ev_getst (hx : p.tables.exec = Jvm.exec) (hb : c.code = cc) (hts : ∀ w ∈ Ts, w.before args s = true) {own : String} {index len x : Nat} {w : Nat × Nat} (hown : s.vm.findClass own = some m.cls) (hZ : va_Z "java/util/ArrayList" "DEFAULTCAPACITY_EMPTY_ELEMENTDATA" "[Ljava/lang/Object;" (.ref (ex 1)) (fun a : Nat => base ≤ a) s s.heap) (hlink : Cond.fieldLink own index "java/util/ArrayList" "DEFAULTCAPACITY_EMPTY_ELEMENTDATA" "[Ljava/lang/Object;" ∈ Ts) (hdg : decode cc pc = .ok (.getstatic index, 3)) (he : ev_s V dft (.getstatic index, len, x, w) pc ls st h = some r) (kk : ev_Sim p l e R s m args below meth c Q D cl aC base ex nL n0 s0 r) : ev_Sim p l e R s m args below meth c Q D cl aC base ex nL n0 s0 (pc, ls, st, h) := by
  intro Ls H locs cells slots hl hn hh hS h1 h2
  simp only [ev_s] at he
  split at he
  · cases he
    have K := kk Ls H locs cells slots hl hn hh hS h1 h2
    refine va_gets hx hb hZ hS hown (hts _ hlink) (fun _ h9 => h9) hdg ?_
    rw [← ev_ad_1 (base := base) (ex := ex)]
    exact K
  · cases he
theorem ev_acmp (hx : p.tables.exec = Jvm.exec) (hb : c.code = cc) (hex : ∀ k, ex k < base) {cd : ClassFile.ACond} {off : Int} (hdg : decode cc pc = .ok (.if_acmp cd off, 3)) (he : ev_s V dft (.if_acmp cd off, z) pc ls st h = some r) (kk : ev_Sim p l e R s m args below meth c Q D cl aC base ex nL n0 s0 r) : ev_Sim p l e R s m args below meth c Q D cl aC base ex nL n0 s0 (pc, ls, st, h) := by
  intro Ls H locs cells slots hl hn hh hS h1 h2
  simp only [ev_s] at he
  split at he
  · next j i rr =>
    split at he
    · next hq =>
      obtain ⟨t, ht, e1⟩ := Option.map_eq_some_iff.mp he
      subst e1
      have K := kk Ls H locs cells slots hl hn hh hS h1 h2
      have hij : ev_ad base ex i = ev_ad base ex j ↔ i = j := by
        constructor
        · intro e1
          rcases hq with q | q | q
          · exact q
          · by_cases hj : j < ev_ext
            · rw [ev_ad_in q, ev_ad_in hj] at e1; exact Nat.add_left_cancel e1
            · rw [ev_ad_in q] at e1
              have := hex (j - ev_ext)
              unfold ev_ad at e1
              rw [if_neg hj] at e1
              omega
          · by_cases hi : i < ev_ext
            · rw [ev_ad_in q, ev_ad_in hi] at e1; exact Nat.add_left_cancel e1
            · rw [ev_ad_in q] at e1
              have := hex (i - ev_ext)
              unfold ev_ad at e1
              rw [if_neg hi] at e1
              omega
        · intro e1; rw [e1]
      show W p l e R s m args below meth c H locs cells slots Q (F0 m pc Ls (va_rf (some (ev_ad base ex j)) :: va_rf (some (ev_ad base ex i)) :: rr.map (ev_tv (ev_ad base ex))))
      cases cd with
      | eq => exact lv_acmp_eq hx hb hdg (ev_jmp_eq ht) (fun q => by simpa [ev_ac, hij.mp (Option.some.inj q)] using K) (fun q => by
          have : ¬ i = j := fun w => q (by rw [w])
          simpa [ev_ac, this] using K)
      | ne => exact lv_acmp_ne hx hb hdg (ev_jmp_eq ht) (fun q => by
          have : ¬ i = j := fun w => q (by rw [w])
          simpa [ev_ac, this] using K) (fun q => by simpa [ev_ac, hij.mp (Option.some.inj q)] using K)
    · cases he
  · cases he
theorem ev_dupx1 (hx : p.tables.exec = Jvm.exec) (hb : c.code = cc) (hdg : decode cc pc = .ok (.dup_x1, 1)) (he : ev_s V dft (.dup_x1, z) pc ls st h = some r) (kk : ev_Sim p l e R s m args below meth c Q D cl aC base ex nL n0 s0 r) : ev_Sim p l e R s m args below meth c Q D cl aC base ex nL n0 s0 (pc, ls, st, h) := by
  intro Ls H locs cells slots hl hn hh hS h1 h2
  simp only [ev_s] at he
  split at he
  · next v w r2 =>
    split at he
    · next hc => cases he; exact lv_dup_x1 hx hb hdg (by rw [ev_cat]; exact hc.1) (by rw [ev_cat]; exact hc.2) (kk Ls H locs cells slots hl hn hh hS h1 h2)
    · cases he
  · cases he
theorem ev_lushr (hx : p.tables.exec = Jvm.exec) (hb : c.code = cc) (hdg : decode cc pc = .ok (.lushr, 1)) (he : ev_s V dft (.lushr, z) pc ls st h = some r) (kk : ev_Sim p l e R s m args below meth c Q D cl aC base ex nL n0 s0 r) : ev_Sim p l e R s m args below meth c Q D cl aC base ex nL n0 s0 (pc, ls, st, h) := by
  intro Ls H locs cells slots hl hn hh hS h1 h2
  simp only [ev_s] at he
  obtain ⟨rr, hr, e1⟩ := Option.map_eq_some_iff.mp he
  subst e1
  unfold ev_li at hr
  split at hr
  · next y x r2 => cases hr; exact lv_lushr hx hb hdg rfl (kk Ls H locs cells slots hl hn hh hS h1 h2)
  · cases hr
theorem ev_l2i (hx : p.tables.exec = Jvm.exec) (hb : c.code = cc) (hdg : decode cc pc = .ok (.l2i, 1)) (he : ev_s V dft (.l2i, z) pc ls st h = some r) (kk : ev_Sim p l e R s m args below meth c Q D cl aC base ex nL n0 s0 r) : ev_Sim p l e R s m args below meth c Q D cl aC base ex nL n0 s0 (pc, ls, st, h) := by
  intro Ls H locs cells slots hl hn hh hS h1 h2
  simp only [ev_s] at he
  split at he
  · next x r2 => cases he; exact lv_l2i hx hb hdg rfl (kk Ls H locs cells slots hl hn hh hS h1 h2)
  · cases he
theorem ev_lsw (hx : p.tables.exec = Jvm.exec) (hb : c.code = cc) {dflt : Int} {ps : Array (Int × Int)} {len : Nat} (hdg : decode cc pc = .ok (.lookupswitch dflt ps, len)) (he : ev_s V dft (.lookupswitch dflt ps, z) pc ls st h = some r) (kk : ev_Sim p l e R s m args below meth c Q D cl aC base ex nL n0 s0 r) : ev_Sim p l e R s m args below meth c Q D cl aC base ex nL n0 s0 (pc, ls, st, h) := by
  intro Ls H locs cells slots hl hn hh hS h1 h2
  simp only [ev_s] at he
  split at he
  · next x rr =>
    split at he
    · next hp =>
      obtain ⟨t, ht, e1⟩ := Option.map_eq_some_iff.mp he
      subst e1
      exact lv_lookup hx hb hdg hp rfl (ev_jmp_eq ht) (kk Ls H locs cells slots hl hn hh hS h1 h2)
    · cases he
  · cases he
end EvE
end
section
/-! The evaluator of methods: calls, ends, throws and catches. -/
abbrev ev_M : Type := List (Nat × ev_I)
/-- a method: name, bytes, number of locals, what it returns, its table of handlers, the class of each handler, instructions -/
abbrev ev_Q : Type := MethodName × ByteArray × Nat × Option FieldType × List (Nat × Nat × Nat × Nat) × List Nat × ev_M
def ev_find (c : ev_M) (pc : Nat) : Option ev_I := match c with
  | [] => none
  | (k, i) :: r => if k = pc then some i else ev_find r pc
def ev_nar (ret : Option FieldType) (v : Int32) : Bool := match ret with
  | some .int => true
  | some .boolean => v == 0 || v == 1
  | some .char => decide (0 ≤ v) && decide (v ≤ 65535)
  | _ => false
def ev_isr (ret : Option FieldType) : Bool := match ret with
  | some (.object _) => true
  | some (.array _) => true
  | _ => false
def ev_cats (st : List Value) : Nat := (st.map fun v => v.category).sum
def ev_sl (vs : List Value) : ev_L := vs.flatMap fun v => if v.category = 2 then [some v, none] else [some v]
/-- the locals with which a method begins -/
def ev_in (n : Nat) (vs : List Value) : ev_L := ev_sl vs ++ List.replicate (n - (ev_sl vs).length) none
def ev_hd (hh : List (Nat × Nat × Nat × Nat)) (ks : List Nat) (pc k : Nat) : Option Nat := match hh, ks with
  | (a, b, t, _) :: r, c :: cs => if a ≤ pc ∧ pc < b ∧ c = k then some t else ev_hd r cs pc k
  | _, _ => none
def ev_st0 (ls : ev_L) (i : Nat) : Option ev_L := if i < ls.length then some ((ev_clr ls i).set i none) else none
/-- behind a caught exception: it goes into a local that is not looked at -/
def ev_caught (I : Option ev_I) (pc : Nat) (ls : ev_L) : Option (Nat × ev_L) := match I with
  | some (.astore_n k, _) => (ev_st0 ls k.val).map (fun l => (pc + 1, l))
  | some (.astore k, _) => (ev_st0 ls k).map (fun l => (pc + 2, l))
  | _ => none
def ev_01 (f : Nat → Int32) (a n : Nat) : Bool := (List.range n).all (fun i => f (a + i) == 0 || f (a + i) == 1)
/-- System.arraycopy of ints or booleans -/
def ev_cpy (st : List Value) (h : ev_H) : Option (List Value × ev_H) := match st with
  | .int n :: .int dp :: .ref a :: .int sp :: .ref b :: r => match h.1[b]?, h.1[a]? with
    | some (.inl (t, n0, .inl f)), some (.inl (t', n1, .inl g)) => if t' = t ∧ (t = 0 ∨ t = 2) ∧ ¬ sp < 0 ∧ ¬ dp < 0 ∧ ¬ n < 0 ∧ sp.toNatClampNeg + n.toNatClampNeg ≤ n0 ∧ dp.toNatClampNeg + n.toNatClampNeg ≤ n1 then (if t = 0 ∨ ev_01 f sp.toNatClampNeg n.toNatClampNeg = true then some (r, ev_set h a (.inl (t, n1, .inl (va_cpy f g sp.toNatClampNeg dp.toNatClampNeg n.toNatClampNeg)))) else none) else none
    | _, _ => none
  | _ => none
abbrev ev_O : Type := Option Value ⊕ Nat
abbrev ev_F : Type := Nat → Nat → Nat → ev_L → List Value → ev_H → Option (ev_O × ev_H)
def ev_kd (i : Instr) : Nat := match i with
  | .ireturn | .lreturn | .areturn | .return_ => 1
  | .invokevirtual _ => 2
  | .invokestatic _ => 3
  | .invokespecial _ => 4
  | .new _ => 5
  | _ => 0
def ev_ret (i : Instr) (ret : Option FieldType) (st : List Value) : Option (Option Value) := match i with
  | .ireturn => match st with
    | [.int v] => if ev_nar ret v then some (some (.int v)) else none
    | _ => none
  | .lreturn => match st with
    | [.long v] => if ret = some .long then some (some (.long v)) else none
    | _ => none
  | .areturn => match st with
    | [.ref a] => if ev_isr ret then some (some (.ref a)) else none
    | _ => none
  | .return_ => match st with
    | [] => if ret = none then some none else none
    | _ => none
  | _ => none
/-- a receiver: none is asked for (0), an object of a class (1), any object (2) -/
def ev_rc (sp ci : Nat) (as : List Value) (h : ev_H) : Bool := match sp with
  | 0 => true
  | 1 => match as with
    | .ref a :: _ => ev_isC ci h.1[a]?
    | _ => false
  | _ => match as with
    | .ref _ :: _ => true
    | _ => false
/-- behind a call -/
def ev_back (f : ev_F) (hh : List (Nat × Nat × Nat × Nat)) (ks : List Nat) (code : ev_M) (d mi pc : Nat) (ls : ev_L) (rest : List Value) (o : ev_O) (h1 : ev_H) : Option (ev_O × ev_H) := match o with
  | .inl v => f d mi (pc + 3) ls (v.toList ++ rest) h1
  | .inr k => match ev_hd hh ks pc k with
    | none => if hh.isEmpty then some (.inr k, h1) else none
    | some t => match ev_caught (ev_find code t) t ls with
      | none => none
      | some q => f d mi q.1 q.2 [] h1
/-- a call: of the method x, with z arguments; sp: of what kind its receiver is -/
def ev_call (f : ev_F) (mt : List ev_Q) (hh : List (Nat × Nat × Nat × Nat)) (ks : List Nat) (code : ev_M) (sp d mi pc x y z : Nat) (ls : ev_L) (st : List Value) (h : ev_H) : Option (ev_O × ev_H) := match mt[x]? with
  | none => none
  | some q => if z ≤ st.length ∧ ev_cats (st.drop z) ≤ 8 ∧ (ev_sl (st.take z).reverse).length ≤ q.2.2.1 ∧ ev_rc sp (y / 16) (st.take z).reverse h = true then (match d with
    | 0 => none
    | d + 1 => match f d x 0 (ev_in q.2.2.1 (st.take z).reverse) [] h with
      | some r => ev_back f hh ks code (d + 1) mi pc ls (st.drop z) r.1 r.2
      | none => none) else none
def ev_step (f : ev_F) (V : ev_V) (dft : Nat → List Value) (I : ev_I) (d mi pc : Nat) (ls : ev_L) (st : List Value) (h : ev_H) : Option (ev_O × ev_H) := match ev_s V dft I pc ls st h with
  | some r => f d mi r.1 r.2.1 r.2.2.1 r.2.2.2
  | none => none
def ev_one (f : ev_F) (mt : List ev_Q) (V : ev_V) (dft : Nat → List Value) (ret : Option FieldType) (hh : List (Nat × Nat × Nat × Nat)) (ks : List Nat) (code : ev_M) (I : ev_I) (d mi pc : Nat) (ls : ev_L) (st : List Value) (h : ev_H) : Option (ev_O × ev_H) := match ev_kd I.1 with
  | 1 => (ev_ret I.1 ret st).map (fun v => (.inl v, h))
  | 2 => ev_call f mt hh ks code 1 d mi pc I.2.2.1 I.2.2.2.1 I.2.2.2.2 ls st h
  | 3 => if I.2.2.2.1 = 8 then (match ev_cpy st h with
    | some q => if ev_cats q.1 ≤ 8 then f d mi (pc + 3) ls q.1 q.2 else none
    | none => none) else ev_call f mt hh ks code 0 d mi pc I.2.2.1 I.2.2.2.1 I.2.2.2.2 ls st h
  | 4 => if I.2.2.2.1 = 9 then (match st with
    | .ref _ :: r => if ev_cats r ≤ 8 then f d mi (pc + 3) ls r h else none
    | _ => none) else ev_call f mt hh ks code 2 d mi pc I.2.2.1 I.2.2.2.1 I.2.2.2.2 ls st h
  | 5 => if I.2.2.2.2 = 1 then (if hh.isEmpty ∧ ev_cats st ≤ 8 then some (.inr I.2.2.1, ev_push h (.inr (I.2.2.1, [])) 6) else none) else ev_step f V dft I d mi pc ls st h
  | _ => ev_step f V dft I d mi pc ls st h
def ev (mt : List ev_Q) (V : ev_V) (dft : Nat → List Value) (n : Nat) : ev_F := match n with
  | 0 => fun _ _ _ _ _ _ => none
  | n + 1 => fun d mi pc ls st h => match mt[mi]? with
    | none => none
    | some q => match ev_find q.2.2.2.2.2.2 pc with
      | none => none
      | some I => ev_one (ev mt V dft n) mt V dft q.2.2.2.1 q.2.2.2.2.1 q.2.2.2.2.2.1 q.2.2.2.2.2.2 I d mi pc ls st h
end
section
/-! The heap of the evaluator only grows. -/
def ev_le (h h' : ev_H) : Prop := h.2.1 ≤ h'.2.1 ∧ h.2.2 ≤ h'.2.2
theorem ev_le_rf (h : ev_H) : ev_le h h := ⟨Nat.le_refl _, Nat.le_refl _⟩
theorem ev_le_tr {a b c : ev_H} (h : ev_le a b) (k : ev_le b c) : ev_le a c := ⟨Nat.le_trans h.1 k.1, Nat.le_trans h.2 k.2⟩
theorem ev_le_set (h : ev_H) (a : Nat) (c : ev_C) : ev_le h (ev_set h a c) := ⟨Nat.le_refl _, Nat.le_refl _⟩
theorem ev_le_push (h : ev_H) (c : ev_C) (n : Nat) : ev_le h (ev_push h c n) := ⟨Nat.le_succ _, Nat.le_add_right _ _⟩
theorem ev_asti_le {t : Nat} {st : List Value} {h : ev_H} {r : List Value × ev_H} (he : ev_asti t st h = some r) : ev_le h r.2 := by
  unfold ev_asti at he
  repeat' split at he
  all_goals first | (cases he; done) | (cases he; exact ev_le_set _ _ _)
theorem ev_astl_le {st : List Value} {h : ev_H} {r : List Value × ev_H} (he : ev_astl st h = some r) : ev_le h r.2 := by
  unfold ev_astl at he
  repeat' split at he
  all_goals first | (cases he; done) | (cases he; exact ev_le_set _ _ _)
theorem ev_astq_le {t ci : Nat} {st : List Value} {h : ev_H} {r : List Value × ev_H} (he : ev_astq t ci st h = some r) : ev_le h r.2 := by
  unfold ev_astq at he
  repeat' split at he
  all_goals first | (cases he; done) | (cases he; exact ev_le_set _ _ _)
theorem ev_cpy_le {st : List Value} {h : ev_H} {r : List Value × ev_H} (he : ev_cpy st h = some r) : ev_le h r.2 := by
  unfold ev_cpy at he
  repeat' split at he
  all_goals first | (cases he; done) | (cases he; exact ev_le_set _ _ _)
theorem ev_s_le {V : ev_V} {dft : Nat → List Value} {I : ev_I} {pc : Nat} {ls : ev_L} {st : List Value} {h : ev_H} {r : ev_R} (he : ev_s V dft I pc ls st h = some r) : ev_le h r.2.2.2 := by
  obtain ⟨i, len, x, y, z⟩ := I
  cases i with
  | iastore => simp only [ev_s] at he; obtain ⟨q, hq, e⟩ := Option.map_eq_some_iff.mp he; subst e; exact ev_asti_le hq
  | bastore => simp only [ev_s] at he; obtain ⟨q, hq, e⟩ := Option.map_eq_some_iff.mp he; subst e; exact ev_asti_le hq
  | lastore => simp only [ev_s] at he; obtain ⟨q, hq, e⟩ := Option.map_eq_some_iff.mp he; subst e; exact ev_astl_le hq
  | aastore => simp only [ev_s] at he; obtain ⟨q, hq, e⟩ := Option.map_eq_some_iff.mp he; subst e; exact ev_astq_le hq
  | tableswitch =>
    simp only [ev_s] at he
    split at he
    · obtain ⟨o, -, he⟩ := Option.bind_eq_some_iff.mp he
      obtain ⟨q, hq, e⟩ := Option.map_eq_some_iff.mp he; subst e; exact ev_le_rf _
    · cases he
  | getstatic =>
    simp only [ev_s] at he
    split at he
    · cases he; exact ev_le_rf _
    · cases he
  | if_acmp =>
    simp only [ev_s] at he
    split at he
    · split at he
      · obtain ⟨q, hq, e⟩ := Option.map_eq_some_iff.mp he; subst e; exact ev_le_rf _
      · cases he
    · cases he
  | lookupswitch =>
    simp only [ev_s] at he
    split at he
    · split at he
      · obtain ⟨q, hq, e⟩ := Option.map_eq_some_iff.mp he; subst e; exact ev_le_rf _
      · cases he
    · cases he
  | _ =>
    simp only [ev_s] at he
    first
      | (cases he; done)
      | (cases he; first | exact ev_le_rf _ | exact ev_le_push _ _ _)
      | (obtain ⟨q, hq, e⟩ := Option.map_eq_some_iff.mp he; subst e; exact ev_le_rf _)
      | (split at he
         · first
             | (cases he; done)
             | (cases he; exact ev_le_rf _)
             | (obtain ⟨q, hq, e⟩ := Option.map_eq_some_iff.mp he; subst e; exact ev_le_rf _)
             | (repeat' split at he
                all_goals first | (cases he; done) | (cases he; first | exact ev_le_rf _ | exact ev_le_set _ _ _ | exact ev_le_push _ _ _))
         · cases he)
def ev_fle (f : ev_F) : Prop := ∀ (d mi pc : Nat) (ls : ev_L) (st : List Value) (h : ev_H) (o : ev_O) (h' : ev_H), f d mi pc ls st h = some (o, h') → ev_le h h'
theorem ev_back_le {f : ev_F} (hf : ev_fle f) {hh : List (Nat × Nat × Nat × Nat)} {ks : List Nat} {code : ev_M} {d mi pc : Nat} {ls : ev_L} {rest : List Value} {o : ev_O} {h1 : ev_H} {o2 : ev_O} {h2 : ev_H} (he : ev_back f hh ks code d mi pc ls rest o h1 = some (o2, h2)) : ev_le h1 h2 := by
  unfold ev_back at he
  cases o with
  | inl v => exact hf _ _ _ _ _ _ _ _ he
  | inr k =>
    dsimp only at he
    split at he
    · split at he
      · cases he; exact ev_le_rf _
      · cases he
    · split at he
      · cases he
      · exact hf _ _ _ _ _ _ _ _ he
theorem ev_call_le {f : ev_F} (hf : ev_fle f) {mt : List ev_Q} {hh : List (Nat × Nat × Nat × Nat)} {ks : List Nat} {code : ev_M} {sp d mi pc x y z : Nat} {ls : ev_L} {st : List Value} {h : ev_H} {o2 : ev_O} {h2 : ev_H} (he : ev_call f mt hh ks code sp d mi pc x y z ls st h = some (o2, h2)) : ev_le h h2 := by
  unfold ev_call at he
  split at he
  · cases he
  · split at he
    · cases d with
      | zero => cases he
      | succ d =>
        dsimp only at he
        split at he
        · next r hr => exact ev_le_tr (hf _ _ _ _ _ _ r.1 r.2 hr) (ev_back_le hf he)
        · cases he
    · cases he
theorem ev_step_le {f : ev_F} (hf : ev_fle f) {V : ev_V} {dft : Nat → List Value} {I : ev_I} {d mi pc : Nat} {ls : ev_L} {st : List Value} {h : ev_H} {o2 : ev_O} {h2 : ev_H} (he : ev_step f V dft I d mi pc ls st h = some (o2, h2)) : ev_le h h2 := by
  unfold ev_step at he
  split at he
  · next r hr => exact ev_le_tr (ev_s_le hr) (hf _ _ _ _ _ _ _ _ he)
  · cases he
theorem ev_one_le {f : ev_F} (hf : ev_fle f) {mt : List ev_Q} {V : ev_V} {dft : Nat → List Value} {ret : Option FieldType} {hh : List (Nat × Nat × Nat × Nat)} {ks : List Nat} {code : ev_M} {I : ev_I} {d mi pc : Nat} {ls : ev_L} {st : List Value} {h : ev_H} {o2 : ev_O} {h2 : ev_H} (he : ev_one f mt V dft ret hh ks code I d mi pc ls st h = some (o2, h2)) : ev_le h h2 := by
  unfold ev_one at he
  split at he
  · obtain ⟨v, -, e⟩ := Option.map_eq_some_iff.mp he
    cases e; exact ev_le_rf _
  · exact ev_call_le hf he
  · split at he
    · split at he
      · next q hq =>
        split at he
        · exact ev_le_tr (ev_cpy_le hq) (hf _ _ _ _ _ _ _ _ he)
        · cases he
      · cases he
    · exact ev_call_le hf he
  · split at he
    · split at he
      · split at he
        · exact hf _ _ _ _ _ _ _ _ he
        · cases he
      · cases he
    · exact ev_call_le hf he
  · split at he
    · split at he
      · cases he; exact ev_le_push _ _ _
      · cases he
    · exact ev_step_le hf he
  · exact ev_step_le hf he
theorem ev_mono (mt : List ev_Q) (V : ev_V) (dft : Nat → List Value) (n : Nat) : ev_fle (ev mt V dft n) := by
  induction n with
  | zero => intro d mi pc ls st h o h' he; unfold ev at he; cases he
  | succ n ih =>
    intro d mi pc ls st h o h' he
    unfold ev at he
    split at he
    · cases he
    · split at he
      · cases he
      · exact ev_one_le ih he
end
section
/-! What a place in the code must have for a step: words of the tables. -/
def ev_len (i : Instr) : Nat := match i with
  | .iload _ | .lload _ | .aload _ | .istore _ | .lstore _ | .astore _ | .bipush _ | .ldc _ | .newarray _ => 2
  | .sipush _ | .iinc _ _ | .goto _ | .ifCond _ _ | .if_icmp _ _ | .if_acmp _ _ | .getfield _ | .putfield _ | .new _ | .ldc_w _ | .ldc2_w _ | .checkcast _ | .anewarray _ | .invokevirtual _ | .invokespecial _ | .invokestatic _ | .getstatic _ => 3
  | _ => 1
def ev_isw (i : Instr) : Bool := match i with
  | .tableswitch _ _ _ _ => true
  | .lookupswitch _ _ => true
  | _ => false
def ev_fld (Ts Bs : List Cond) (own ref : String) (index : Nat) (T : u_T) (y : Nat) : Prop :=
  (Cond.fieldLink own index ref (T y).2.1 (T y).2.2.1 ∈ Ts ∨ ∃ host, Cond.fieldLinkNest own index ref (T y).2.1 (T y).2.2.1 host ∈ Bs) ∧ (ref = (T y).1 ∨ Cond.sameField ref (T y).1 (T y).2.1 (T y).2.2.1 ∈ Ts)
def ev_site (cl : List vw_C) (Ts Bs : List Cond) (dft : Nat → List Value) (own mname : String) (I : ev_I) : Prop := match I with
  | (.getfield index, _, x, y, _) => ∃ C T N ref, cl[x]? = some (C, T, N) ∧ (∀ w ∈ u_ws C T N, w ∈ Ts) ∧ y < N ∧ ev_fld Ts Bs own ref index T y
  | (.putfield index, _, x, y, z) => ∃ C T N ref, ∃ ty0 : Nat → FieldType, cl[x]? = some (C, T, N) ∧ (∀ w ∈ u_ws C T N, w ∈ Ts) ∧ y < N ∧ Cond.fieldLink own index ref (T y).2.1 (T y).2.2.1 ∈ Ts ∧ (ref = (T y).1 ∨ Cond.sameField ref (T y).1 (T y).2.1 (T y).2.2.1 ∈ Ts) ∧ (∀ k, k < N → parseFieldDescriptor (T k).2.2.1 = some (ty0 k)) ∧ (∀ a, a < N → ∀ b, b < N → a ≠ b → (T a).2.1 ≠ (T b).2.1) ∧ ((T y).2.2.2 = false ∨ (mname = "<init>" ∧ (T y).1 = own)) ∧ z % 4 = ev_tyc (ty0 y)
  | (.new index, _, x, _) => ∃ C T N, ∃ ty0 : Nat → FieldType, cl[x]? = some (C, T, N) ∧ (∀ w ∈ u_ws C T N, w ∈ Ts) ∧ (∀ k, k < N → parseFieldDescriptor (T k).2.2.1 = some (ty0 k)) ∧ Cond.classLink own index C ∈ Ts ∧ Cond.instantiable C N ∈ Ts ∧ Cond.initialized C ∈ Ts ∧ ((dft x).length = N ∧ ∀ j, j < N → defaultValue (ty0 j) = vp_V (dft x) j) ∧ ∀ v ∈ dft x, ∀ a, v ≠ .ref a
  | (.newarray ty, _) => Cond.arrayClass (newarray.typeOf ty) ∈ Ts
  | (.anewarray index, _, x, _) => ∃ C, ev_tyl[x]? = some (.object C) ∧ Cond.classLink own index C ∈ Ts ∧ (C = "Threewayleaf$State" ∨ C = "java/lang/Object")
  | (.aaload, _, x, _) => ∃ C, ev_tyl[x]? = some (.object C)
  | (.aastore, _, x, y, _) => ∃ C rc, ev_tyl[x]? = some (.object C) ∧ cl[y]? = some rc ∧ Cond.castable rc.1 C ∈ Bs
  | (.checkcast index, _, x, _) => ∃ C T N nm, cl[x]? = some (C, T, N) ∧ Cond.classLink own index nm ∈ Ts ∧ Cond.castable C nm ∈ Bs
  | (.getstatic index, _) => Cond.fieldLink own index "java/util/ArrayList" "DEFAULTCAPACITY_EMPTY_ELEMENTDATA" "[Ljava/lang/Object;" ∈ Ts
  | (.ldc index, _, x, _) => Cond.constant own index (Int32.ofNat x) ∈ Ts
  | (.ldc_w index, _, x, _) => Cond.constant own index (Int32.ofNat x) ∈ Ts
  | (.ldc2_w index, _, x, _) => Cond.constantLong own index (Int64.ofNat x) ∈ Ts
  | _ => True
def ev_bw (w : Cond) : Bool := match w with
  | .castable _ _ | .declares _ | .methodLinkNest _ _ _ _ | .fieldLinkNest _ _ _ _ _ _ => true
  | _ => false
/-- what was there before the objects that the evaluator knows -/
def ev_X (base : Nat) (ex : Nat → Nat) (V : ev_V) (U : State) (H : Heap) : Prop :=
  va_X (ex 0) V.1 V.2 U H ∧ vx_Zq Bundle.tN "UNASSIGNED_STACK" Bundle.steD (fun a : Nat => base ≤ a) U H ∧ vx_Zq Bundle.tN "SUPPRESSED_SENTINEL" Bundle.listD (fun a : Nat => base ≤ a) U H ∧ va_Z "java/util/ArrayList" "DEFAULTCAPACITY_EMPTY_ELEMENTDATA" "[Ljava/lang/Object;" (.ref (ex 1)) (fun a : Nat => base ≤ a) U H ∧ va_T (.object "java/lang/Object") (ex 1) 0 (fun _ => .null) (fun a : Nat => base ≤ a) U H
/-- what a frame's state has beside the words of the tables -/
def ev_G (D : va_G) (cl : List vw_C) (aC : Nat → ClassId) (base : Nat) (ex : Nat → Nat) (V : ev_V) (Bs : List Cond) (Ss : List (String × Nat × String)) (U : State) : Prop :=
  (∀ w ∈ Bs, va_Nw w U) ∧ (∀ q ∈ Ss, ∃ sa, vk_R q.1 q.2.1 q.2.2 sa U) ∧ va_K D cl (ev_tys aC) U ∧ va_AO "Threewayleaf$State" U ∧ va_AO "java/lang/Object" U
section EvF
variable {p : Program} {l : Launch} {e : Env} {R : Room} {s : State} {m : MethodId} {args : Array Value} {below : List Frame} {meth : Method} {c : Code} {Q : State → Prop} {D : va_G} {cl : List vw_C} {aC : Nat → ClassId} {base : Nat} {ex : Nat → Nat} {nL n0 s0 : Nat}
variable {cc : ByteArray} {V : ev_V} {dft : Nat → List Value} {pc : Nat} {ls : ev_L} {st : List Value} {h : ev_H} {r : ev_R} {Ts Bs : List Cond} {Ss : List (String × Nat × String)}
theorem ev_step_sim (hx : p.tables.exec = Jvm.exec) (hb : c.code = cc) (hbn : base + n0 = s.heap.size) (hex : ∀ k, ex k < base) (hts : ∀ w ∈ Ts, w.before args s = true) (hbw : ∀ w ∈ Bs, ev_bw w = true) (hG : ev_G D cl aC base ex V Bs Ss s) (hX : ev_X base ex V s s.heap) {own : String} (hown : s.vm.findClass own = some m.cls) {i : Instr} {len x y z : Nat} (hdg : decode cc pc = .ok (i, len)) (hlen : len = ev_len i ∨ ev_isw i = true) (hs : ev_site cl Ts Bs dft own meth.name (i, len, x, y, z)) (he : ev_s V dft (i, len, x, y, z) pc ls st h = some r) (hrc : r.2.2.2.2.1 ≤ R.cells + n0 ∧ r.2.2.2.2.1 ≤ ev_ext ∧ r.2.2.2.2.2 ≤ R.slots + s0) (kk : ev_Sim p l e R s m args below meth c Q D cl aC base ex nL n0 s0 r) : ev_Sim p l e R s m args below meth c Q D cl aC base ex nL n0 s0 (pc, ls, st, h) := by
  obtain ⟨hB, hSs, hK, hA3, hA4⟩ := hG
  have hX0 := hex 0
  have hX1 : base ≤ s.heap.size := by omega
  have hsm : ∀ {T : u_T} {y : Nat} {ref : String}, (ref = (T y).1 ∨ Cond.sameField ref (T y).1 (T y).2.1 (T y).2.2.1 ∈ Ts) → ∀ q, s.fieldFound? (T y).1 (T y).2.1 (T y).2.2.1 = some q → s.fieldFound? ref (T y).2.1 (T y).2.2.1 = some q := by
    intro T y ref h9 q hq
    rcases h9 with h9 | h9
    · rw [h9]; exact hq
    · exact u_same (hts _ h9) q hq
  cases i with
  | tableswitch dflt lo hi offs => exact ev_tsw hx hb hdg he kk
  | lookupswitch dflt ps => exact ev_lsw hx hb hdg he kk
  | _ =>
    have hlen := hlen.resolve_right (by simp [ev_isw])
    subst hlen
    first
      | (simp only [ev_s] at he; cases he; done)
      | exact ev_iload_n hx hb hdg he kk
      | exact ev_iload hx hb hdg he kk
      | exact ev_lload_n hx hb hdg he kk
      | exact ev_lload hx hb hdg he kk
      | exact ev_aload_n hx hb hdg he kk
      | exact ev_aload hx hb hdg he kk
      | exact ev_istore_n hx hb hdg he kk
      | exact ev_istore hx hb hdg he kk
      | exact ev_lstore_n hx hb hdg he kk
      | exact ev_lstore hx hb hdg he kk
      | exact ev_astore_n hx hb hdg he kk
      | exact ev_astore hx hb hdg he kk
      | exact ev_iinc hx hb hdg he kk
      | exact ev_goto hx hb hdg he kk
      | exact ev_ifCond hx hb hdg he kk
      | exact ev_if_icmp hx hb hdg he kk
      | exact ev_iadd hx hb hdg he kk
      | exact ev_isub hx hb hdg he kk
      | exact ev_imul hx hb hdg he kk
      | exact ev_iand hx hb hdg he kk
      | exact ev_ior hx hb hdg he kk
      | exact ev_ishl hx hb hdg he kk
      | exact ev_ishr hx hb hdg he kk
      | exact ev_ladd hx hb hdg he kk
      | exact ev_lsub hx hb hdg he kk
      | exact ev_lmul hx hb hdg he kk
      | exact ev_land hx hb hdg he kk
      | exact ev_lor hx hb hdg he kk
      | exact ev_lxor hx hb hdg he kk
      | exact ev_lshl hx hb hdg he kk
      | exact ev_lshr hx hb hdg he kk
      | exact ev_idiv hx hb hdg he kk
      | exact ev_irem hx hb hdg he kk
      | exact ev_ineg hx hb hdg he kk
      | exact ev_lcmp hx hb hdg he kk
      | exact ev_i2l hx hb hdg he kk
      | exact ev_i2c hx hb hdg he kk
      | exact ev_iconst hx hb hdg he kk
      | exact ev_bipush hx hb hdg he kk
      | exact ev_sipush hx hb hdg he kk
      | exact ev_lconst hx hb hdg he kk
      | exact ev_dup hx hb hdg he kk
      | exact ev_dup2 hx hb hdg he kk
      | exact ev_pop hx hb hdg he kk
      | exact ev_iaload hx hb hK hX.1 hX0 hX1 hdg he kk
      | exact ev_baload hx hb hK hdg he kk
      | exact ev_laload hx hb hK hdg he kk
      | exact ev_iastore hx hb hbn hK hdg he kk
      | exact ev_bastore hx hb hbn hK hdg he kk
      | exact ev_lastore hx hb hbn hK hdg he kk
      | exact ev_alen hx hb hK hX.1 hX.2.2.2.2 hX0 hX1 hdg he kk
      | (obtain ⟨C, hC⟩ := hs; exact ev_aaload hx hb hK hC hdg he kk)
      | (obtain ⟨C, rc, h1, h2, h3⟩ := hs; exact ev_aastore hx hb hbn hK h1 h2 (hB _ h3) hdg he kk)
      | exact ev_newarray hx hb hbn hts hK hs hdg he hrc kk
      | (obtain ⟨C, h1, h2, h3⟩ := hs
         exact ev_anewarray hx hb hbn hts hK hown h2 (by rcases h3 with h3 | h3 <;> (rw [h3]; assumption)) h1 hdg he hrc kk)
      | (obtain ⟨C, T, N, ref, h1, h2, h3, h4, h5⟩ := hs
         rcases h4 with h4 | ⟨host, h4⟩
         · exact ev_getfield hx hb hts hK hown h1 h2 h3 h4 (hsm h5) hdg he kk
         · exact ev_getfieldN hx hb hts hK hown h1 h2 h3 (va_Nw.use rfl (hB _ h4)) (hsm h5) hdg he kk)
      | (obtain ⟨C, T, N, ref, ty0, h1, h2, h3, h4, h5, h6, h7, h8, h9⟩ := hs
         exact ev_putfield hx hb hbn hts hK ty0 h6 h7 hown h1 h2 h3 h4 (hsm h5) h8 h9 hdg he kk)
      | (obtain ⟨C, T, N, ty0, h1, h2, h3, h4, h5, h6, h7, h8⟩ := hs
         exact ev_new hx hb hbn hts hK ty0 h3 hown h1 h2 h4 h5 h6 h7 h8 hdg he hrc kk)
      | exact ev_null hx hb hdg he kk
      | exact ev_getst hx hb hts hown hX.2.2.2.1 hs hdg he kk
      | exact ev_acmp hx hb hex hdg he kk
      | exact ev_dupx1 hx hb hdg he kk
      | exact ev_lushr hx hb hdg he kk
      | exact ev_l2i hx hb hdg he kk
      | exact ev_ldc hx hb hts hown hs hdg he kk
      | exact ev_ldcw hx hb hts hown hs hdg he kk
      | exact ev_ldc2 hx hb hts hown hs hdg he kk
      | (obtain ⟨C, T, N, nm, h1, h2, h3⟩ := hs
         exact ev_checkcast hx hb hts hK hown h2 h1 (hB _ h3) hdg he kk)
end EvF
end
section
/-! A method that the evaluator runs to its end does so on the machine. -/
theorem ev_X.moved {base : Nat} {ex : Nat → Nat} {V : ev_V} {u U : State} {H : Heap} (hvm : u.vm.Alike U.vm) (h : ev_X base ex V u H) : ev_X base ex V U H :=
  ⟨va_X.moved hvm h.1, vx_Zq.moved hvm h.2.1, vx_Zq.moved hvm h.2.2.1, va_Z.moved hvm h.2.2.2.1, va_T.moved hvm h.2.2.2.2⟩
theorem ev_X.kept {base : Nat} {ex : Nat → Nat} {V : ev_V} {U : State} {H0 H : Heap} {locs : List Loc} (hex : ∀ k, ex k < base) (hX1 : base ≤ H0.size) (hS : va_S (fun a : Nat => base ≤ a) H0 H locs) (h : ev_X base ex V U H0) : ev_X base ex V U H :=
  ⟨h.1.kept (hS.2.1 _ (Nat.lt_of_lt_of_le (hex 0) hX1) (Nat.not_le.mpr (hex 0))), h.2.1.kept hS.2.1, h.2.2.1.kept hS.2.1, h.2.2.2.1.kept hS.2.1, h.2.2.2.2.kept hS.2.1⟩
theorem ev_G.warm {D : va_G} {cl : List vw_C} {aC : Nat → ClassId} {base : Nat} {ex : Nat → Nat} {V : ev_V} {Bs : List Cond} {Ss : List (String × Nat × String)} {s U : State} (hbw : ∀ w ∈ Bs, ev_bw w = true) (hW : s.WarmedH U.vm) (h : ev_G D cl aC base ex V Bs Ss s) : ev_G D cl aC base ex V Bs Ss U := by
  refine ⟨fun w hw => ?_, fun q hq => ?_, va_K.moved hW.alike h.2.2.1, va_AO.moved hW.alike h.2.2.2.1, va_AO.moved hW.alike h.2.2.2.2⟩
  · have h1 := hbw w hw
    have h2 := h.1 w hw
    cases w <;> first | (simp [ev_bw] at h1; done) | exact va_Nw.warmC hW h2 | exact va_Nw.warmD hW h2 | exact va_Nw.warmM hW h2 | exact va_Nw.warmF hW h2
  · obtain ⟨sa, hsa⟩ := h.2.1 q hq
    exact ⟨sa, vk_R.warm hW hsa⟩
def ev_Pc (D : va_G) (cl : List vw_C) (aC : Nat → ClassId) (base : Nat) (ex : Nat → Nat) (V : ev_V) (Bs : List Cond) (Ss : List (String × Nat × String)) (as : List Value) (h : ev_H) : Array Value → State → Prop := fun a U =>
  a = (as.map (ev_tv (ev_ad base ex))).toArray ∧ ev_rel D cl aC base ex h U.heap ∧ ev_G D cl aC base ex V Bs Ss U ∧ ev_X base ex V U U.heap
def ev_Qc (D : va_G) (cl : List vw_C) (aC : Nat → ClassId) (base : Nat) (ex : Nat → Nat) (o : ev_O) (h : ev_H) : Array Value → State → Outcome → State → Prop := fun _ st oc t =>
  (∃ v, o = .inl v ∧ oc = .returned (v.map (ev_tv (ev_ad base ex)))) ∧ ev_rel D cl aC base ex h t.heap ∧ va_F (fun a : Nat => base ≤ a) st t
def ev_XC (D : va_G) (cl : List vw_C) (aC : Nat → ClassId) (base : Nat) (ex : Nat → Nat) (o : ev_O) (h : ev_H) : String → State → State → Prop := fun E st t =>
  (∃ k T N, o = .inr k ∧ cl[k]? = some (E, T, N)) ∧ ev_rel D cl aC base ex h t.heap ∧ va_F (fun a : Nat => base ≤ a) st t
theorem ev_Pc_blind {D : va_G} {cl : List vw_C} {aC : Nat → ClassId} {base : Nat} {ex : Nat → Nat} {V : ev_V} {Bs : List Cond} {Ss : List (String × Nat × String)} {as : List Value} {h : ev_H} (hbw : ∀ w ∈ Bs, ev_bw w = true) : FrameBlind (ev_Pc D cl aC base ex V Bs Ss as h) := by
  intro a U g mk ⟨h1, h2, h3, h4⟩
  exact ⟨h1, h2, ev_G.warm (U := U.calling g mk a) hbw (State.WarmedH.refl U) h3, ev_X.moved (U := U.calling g mk a) (Vm.Alike.refl U.vm) h4⟩
/-! what a place that calls or throws must have -/
def ev_rm (d mc ms : Nat) : Room := { frames := d + 8, cells := mc, slots := ms, locals := 100 * d + 200 }
def ev_lnk (cl : List vw_C) (Ts Bs : List Cond) (mt : List ev_Q) (own : String) (I : ev_I) : Prop := ∀ q, mt[I.2.2.1]? = some q → match I.1 with
  | .invokevirtual index => (∃ T N, cl[I.2.2.2.1 / 16]? = some (q.1.cls, T, N)) ∧ Cond.instanceMethod q.1 ∈ Ts ∧ Cond.selects q.1.cls q.1 q.1 ∈ Ts ∧ Cond.initialized q.1.cls ∈ Ts ∧ Cond.methodLink own index q.1 ∈ Ts ∧ 1 ≤ I.2.2.2.2 ∧ (parseMethodDescriptor q.1.desc).map (fun d => d.parameters.length) = some (I.2.2.2.2 - 1)
  | .invokespecial index => q.1.name = "<init>" ∧ q.2.2.2.1 = none ∧ Cond.instanceMethod q.1 ∈ Ts ∧ Cond.initialized q.1.cls ∈ Ts ∧ (Cond.methodLink own index q.1 ∈ Ts ∨ ∃ host, Cond.methodLinkNest own index q.1 host ∈ Bs) ∧ 1 ≤ I.2.2.2.2 ∧ (parseMethodDescriptor q.1.desc).map (fun d => d.parameters.length) = some (I.2.2.2.2 - 1)
  | .invokestatic index => Cond.static q.1 ∈ Ts ∧ Cond.initialized q.1.cls ∈ Ts ∧ (Cond.methodLink own index q.1 ∈ Ts ∨ ∃ host, Cond.methodLinkNest own index q.1 host ∈ Bs) ∧ (parseMethodDescriptor q.1.desc).map (fun d => d.parameters.length) = some I.2.2.2.2
  | _ => True
def ev_thr (cl : List vw_C) (Ts Bs : List Cond) (Ss : List (String × Nat × String)) (own : String) (bytes : ByteArray) (pc : Nat) (I : ev_I) : Prop := ∃ cls T0 text is ic ik, ∃ names : List String, cl[I.2.2.1]? = some (cls, T0, 0) ∧ I.1 = .new ik ∧ decode bytes (pc + 3) = .ok (.dup, 1) ∧ ((decode bytes (pc + 4) = .ok (.ldc is, 2) ∧ decode bytes (pc + 6) = .ok (.invokespecial ic, 3) ∧ decode bytes (pc + 9) = .ok (.athrow, 1)) ∨ (decode bytes (pc + 4) = .ok (.ldc_w is, 3) ∧ decode bytes (pc + 7) = .ok (.invokespecial ic, 3) ∧ decode bytes (pc + 10) = .ok (.athrow, 1))) ∧ Cond.classLink own ik cls ∈ Ts ∧ Cond.initialized cls ∈ Ts ∧ (own, is, text) ∈ Ss ∧ Bundle.fit cls = true ∧ (∀ n ∈ names, Bundle.fit n = true) ∧ names.length ≤ 3 ∧ (∀ w ∈ vx_atS own ic cls names, w ∈ Ts ∨ w ∈ Bs) ∧ (∀ w ∈ Cond.classLink own ik cls :: Cond.initialized cls :: vx_atS own ic cls names, vx_ot w = true)
/-- a method whose places have all that they must have -/
def ev_mok (cl : List vw_C) (Ts Bs : List Cond) (Ss : List (String × Nat × String)) (dft : Nat → List Value) (mt : List ev_Q) (q : ev_Q) : Prop :=
  plainName q.1.cls = true ∧ q.2.2.2.2.1 = [] ∧ Cond.code q.1 q.2.1 q.2.2.1 q.2.2.2.1 ∈ Ts ∧ q.2.2.1 ≤ 80 ∧ (q.1.cls ≠ "java/lang/invoke/MethodHandle" ∧ q.1.cls ≠ "java/lang/invoke/VarHandle") ∧
  ∀ pc I, ev_find q.2.2.2.2.2.2 pc = some I → decode q.2.1 pc = .ok (I.1, I.2.1) ∧ (I.2.1 = ev_len I.1 ∨ ev_isw I.1 = true) ∧
    (match ev_kd I.1 with
      | 0 => ev_site cl Ts Bs dft q.1.cls q.1.name I
      | 1 => True
      | 2 => ev_lnk cl Ts Bs mt q.1.cls I
      | 3 => if I.2.2.2.1 = 8 then (∃ index, I.1 = .invokestatic index ∧ Cond.methodLink q.1.cls index arraycopyName ∈ Ts ∧ Cond.native arraycopyName ∈ Ts ∧ Cond.static arraycopyName ∈ Ts ∧ Cond.initialized "java/lang/System" ∈ Ts) else ev_lnk cl Ts Bs mt q.1.cls I
      | 4 => if I.2.2.2.1 = 9 then (∃ index, I.1 = .invokespecial index ∧ Cond.methodLink q.1.cls index Lib.objectInit ∈ Ts ∧ Cond.instanceMethod Lib.objectInit ∈ Ts ∧ Cond.code Lib.objectInit ⟨#[0xb1]⟩ 1 none ∈ Ts) else ev_lnk cl Ts Bs mt q.1.cls I
      | _ => if I.2.2.2.2 = 1 then ev_thr cl Ts Bs Ss q.1.cls q.2.1 pc I else ev_site cl Ts Bs dft q.1.cls q.1.name I)
section EvG
variable {p : Program} {l : Launch} {e : Env} {R : Room} {s : State} {m : MethodId} {args : Array Value} {below : List Frame} {meth : Method} {c : Code} {H : Heap} {locs : List Loc} {cells slots : Nat} {Q : State → Prop}
theorem ev_after {mc ms pc : Nat} {Ls : Array Slot} {st0 rest : List Value} {Qa : State → Outcome → State → Prop} {XC : String → State → State → Prop} {free : Addr → Prop} (hr : vx_Run p l e R s m args below meth c H locs cells slots mc ms (F0 m pc Ls st0) rest Qa XC free) (hl : ∀ z ∈ locs, free z.base)
    (kv : ∀ (v : Option Value) (st₀ t : State) (locs1 : List Loc), st₀.heap = H → Qa st₀ (.returned v) t → (∀ z ∈ locs1, free z.base) → W p l e R s m args below meth c t.heap locs1 (cells + mc) (slots + ms) Q (F0 m (pc + 3) Ls (v.toList ++ rest)))
    (kx : ∀ (E : String) (st₀ t : State) (locs1 : List Loc) (q : Addr) (ce : Cell), st₀.heap = H → XC E st₀ t → (∀ z ∈ locs1, free z.base) → t.heap[q]? = some ce → ce.vm = .none → s.vm.findClass E = some ce.cls → vx_W p l e R s m args below meth c t.heap locs1 (cells + mc) (slots + ms) Q (F0 m pc Ls rest) q) : W p l e R s m args below meth c H locs cells slots Q (F0 m pc Ls st0) := by
  intro T hT X
  rcases hr T hT X with ⟨v, st₀, t, T', L, h0, X', hL, e1, e2, hq, st⟩ | ⟨q, st₀, t, T', L, E, ce, h0, X', hL, e1, e2, hq, hce, hcv, hcl, st⟩
  · obtain ⟨t2, a1, b1⟩ := kv v st₀ t (locs ++ L) h0 hq (fun z hz => (List.mem_append.mp hz).elim (hl z) (hL z)) T' e1 X'
    exact ⟨t2, st t2 a1, b1⟩
  · obtain ⟨t2, a1, b1⟩ := kx E st₀ t (locs ++ L) q ce h0 hq (fun z hz => (List.mem_append.mp hz).elim (hl z) (hL z)) hce hcv hcl T' e1 X'
    exact ⟨t2, st.trans a1, b1⟩
end EvG
/-! the locals at a method's entry -/
theorem ev_sl_len (ad : Nat → Nat) (vs : List Value) : (lg_sl (vs.map (ev_tv ad))).length = (ev_sl vs).length := by
  induction vs with
  | nil => rfl
  | cons v vs ih =>
    have e1 : lg_sl (List.map (ev_tv ad) (v :: vs)) = (if (ev_tv ad v).category = 2 then [Slot.val (ev_tv ad v), Slot.second] else [Slot.val (ev_tv ad v)]) ++ lg_sl (vs.map (ev_tv ad)) := by simp [lg_sl]
    have e2 : ev_sl (v :: vs) = (if v.category = 2 then [some v, none] else [some v]) ++ ev_sl vs := by simp [ev_sl]
    rw [e1, e2, List.length_append, List.length_append, ih, ev_cat]
    by_cases hc : v.category = 2 <;> simp [hc]
theorem ev_sl_mem (ad : Nat → Nat) : ∀ (vs : List Value) (k i : Nat) (v : Value), (ev_sl vs)[i]? = some (some v) → (k + i, ev_tv ad v) ∈ lv_args k (vs.map (ev_tv ad)) := by
  intro vs
  induction vs with
  | nil => intro k i v h; simp [ev_sl] at h
  | cons w ws ih =>
    intro k i v h
    have e2 : ev_sl (w :: ws) = (if w.category = 2 then [some w, none] else [some w]) ++ ev_sl ws := by simp [ev_sl]
    rw [e2] at h
    show _ ∈ (k, ev_tv ad w) :: lv_args (if (ev_tv ad w).category = 2 then k + 2 else k + 1) (ws.map (ev_tv ad))
    rw [ev_cat]
    by_cases hc : w.category = 2
    · rw [if_pos hc] at h ⊢
      match i, h with
      | 0, h => cases h; exact List.mem_cons_self
      | 1, h => cases h
      | j + 2, h =>
        have := ih (k + 2) j v h
        rw [show k + (j + 2) = k + 2 + j by omega]
        exact List.mem_cons_of_mem _ this
    · rw [if_neg hc] at h ⊢
      match i, h with
      | 0, h => cases h; exact List.mem_cons_self
      | j + 1, h =>
        have := ih (k + 1) j v h
        rw [show k + (j + 1) = k + 1 + j by omega]
        exact List.mem_cons_of_mem _ this
theorem ev_in_lr {ad : Nat → Nat} {n : Nat} {vs : List Value} (h : (ev_sl vs).length ≤ n) : (ev_in n vs).length = n ∧ ev_lr ad ((lg_sl (vs.map (ev_tv ad)) ++ List.replicate (n - (lg_sl (vs.map (ev_tv ad))).length) Slot.unset).toArray) (ev_in n vs) := by
  have hlen : (ev_in n vs).length = n := by simp [ev_in]; omega
  refine ⟨hlen, ?_⟩
  have h1 := lv_entry (vs.map (ev_tv ad)) (n := n) (by rw [ev_sl_len]; exact h)
  unfold ev_lr
  rw [hlen]
  refine ev_lv_sub h1 (fun q hq => ?_)
  obtain ⟨w, hw, e⟩ := ev_as_mem.mp hq
  unfold ev_in at hw
  by_cases hi : q.1 < (ev_sl vs).length
  · rw [List.getElem?_append_left hi] at hw
    have := ev_sl_mem ad vs 0 q.1 w hw
    rw [Nat.zero_add, ← e] at this
    exact this
  · rw [List.getElem?_append_right (by omega)] at hw
    have := List.eq_of_mem_replicate (List.mem_of_getElem? hw)
    cases this
end
section
/-! THE SIMULATION: whatever the evaluator comes to, the machine comes to. -/
def ev_Fr (p : Program) (R : Room) (s : State) (m : MethodId) (args : Array Value) (meth : Method) (c : Code) (D : va_G) (cl : List vw_C) (aC : Nat → ClassId) (base : Nat) (ex : Nat → Nat) (V : ev_V) (Ts Bs : List Cond) (Ss : List (String × Nat × String)) (q : ev_Q) (d n0 s0 mc ms : Nat) (h' : ev_H) : Prop :=
  p.tables.exec = Jvm.exec ∧ c.code = q.2.1 ∧ c.maxLocals = q.2.2.1 ∧ s.vm.findClass q.1.cls = some m.cls ∧ (∀ w ∈ Ts, w.before args s = true) ∧ ev_G D cl aC base ex V Bs Ss s ∧ ev_X base ex V s s.heap ∧
  meth.sig.returnType = q.2.2.2.1 ∧ meth.locks = false ∧ meth.name = q.1.name ∧ (∀ x ∈ c.exceptionTable.toList, False) ∧ base + n0 = s.heap.size ∧ (d + 8 ≤ R.frames ∧ 100 * d + 200 ≤ R.locals) ∧ mc ≤ R.cells ∧ ms ≤ R.slots ∧ mc + n0 = h'.2.1 ∧ ms + s0 = h'.2.2 ∧ h'.2.1 ≤ ev_ext
def ev_Cl (l : Launch) (D : va_G) (cl : List vw_C) (aC : Nat → ClassId) (base : Nat) (ex : Nat → Nat) (V : ev_V) (Ts Bs : List Cond) (Ss : List (String × Nat × String)) (mt : List ev_Q) (f : ev_F) : Prop :=
  ∀ (d mi pc : Nat) (ls : ev_L) (st : List Value) (h : ev_H) (o : ev_O) (h' : ev_H) (q : ev_Q), mt[mi]? = some q → f d mi pc ls st h = some (o, h') → ∀ (p : Program) (e : Env) (R : Room) (s : State) (m : MethodId) (args : Array Value) (below : List Frame) (meth : Method) (c : Code) (n0 s0 mc ms : Nat), ev_Fr p R s m args meth c D cl aC base ex V Ts Bs Ss q d n0 s0 mc ms h' →
    ev_Sim p l e R s m args below meth c (vx_MQ below (ev_Qc D cl aC base ex o h') (ev_XC D cl aC base ex o h') args s mc ms (fun a : Nat => base ≤ a)) D cl aC base ex q.2.2.1 n0 s0 (pc, ls, st, h)
section EvH
variable {l : Launch} {D : va_G} {cl : List vw_C} {aC : Nat → ClassId} {base : Nat} {ex : Nat → Nat} {V : ev_V} {Ts Bs : List Cond} {Ss : List (String × Nat × String)} {dft : Nat → List Value} {mt : List ev_Q} {f : ev_F}
theorem ev_meet (hf : ev_Cl l D cl aC base ex V Ts Bs Ss mt f) {d x : Nat} {as : List Value} {h h1 : ev_H} {o : ev_O} {q : ev_Q} (hq : mt[x]? = some q) (hpl : plainName q.1.cls = true) (he : f d x 0 (ev_in q.2.2.1 as) [] h = some (o, h1)) (hlen : (ev_sl as).length ≤ q.2.2.1) (hle : ev_le h h1) (hext : h1.2.1 ≤ ev_ext) :
    vx_Met l q.1 (Cond.code q.1 q.2.1 q.2.2.1 q.2.2.2.1 :: Ts) (ev_rm d (h1.2.1 - h.2.1) (h1.2.2 - h.2.2)) (ev_Pc D cl aC base ex V Bs Ss as h) (ev_Qc D cl aC base ex o h1) (ev_XC D cl aC base ex o h1) (h1.2.1 - h.2.1) (h1.2.2 - h.2.2) (fun a : Nat => base ≤ a) := by
  refine vx_ofW (cc := q.2.1) (maxL := q.2.2.1) (ret := q.2.2.2.1) hpl rfl ?_
  intro p e s m args below meth c s₁ B hml htab hv
  obtain ⟨rfl, hrel, hG, hX⟩ := hv
  have hts0 := atoms_spec (ws := Cond.code q.1 q.2.1 q.2.2.1 q.2.2.2.1 :: Ts) B.pre
  obtain ⟨e1, e2⟩ := ev_in_lr (ad := ev_ad base ex) hlen
  rw [lg_entry_eq]
  have hz := hrel.2.1
  have hc := hrel.2.2.1
  obtain ⟨l1, l2⟩ := hle
  exact hf d x 0 (ev_in q.2.2.1 as) [] h o h1 q hq he p e _ s m _ below meth c h.2.1 h.2.2 (h1.2.1 - h.2.1) (h1.2.2 - h.2.2)
    ⟨B.exec, B.bytes, hml, findClass_of_methodNamed B.named, fun w hw => hts0 w (List.mem_cons_of_mem _ hw), hG, hX, B.returns, B.notSynchronized, (name_of_methodNamed B.named B.method).1, htab, by rw [hc]; exact hz.symm, ⟨Nat.le_refl _, Nat.le_refl _⟩, Nat.le_refl _, Nat.le_refl _, by omega, by omega, hext⟩
    _ s.heap [] 0 0 e2 e1 hrel va_S.rf (by simp) (by simp)
theorem ev_F1 {A : Nat → Prop} {H0 H : Heap} {locs locs1 : List Loc} {st t : State} (hS : va_S A H0 H locs) (h0 : st.heap = H) (hF : va_F A st t) (hl : ∀ z ∈ locs1, A z.base) : va_S A H0 t.heap locs1 := by
  subst h0
  exact ⟨Nat.le_trans hS.1 hF.1, fun q q1 q2 => (hF.2 q (Nat.lt_of_lt_of_le q1 hS.1) q2).trans (hS.2.1 q q1 q2), hl⟩
/-- behind any call: the method goes on, or the exception leaves it -/
theorem ev_goon (hf : ev_Cl l D cl aC base ex V Ts Bs Ss mt f) {d mi pc : Nat} {ls : ev_L} {rest : List Value} {h h1 h' : ev_H} {o1 o : ev_O} {q : ev_Q} {code : ev_M} {ks : List Nat} (hq : mt[mi]? = some q) (hb0 : ev_back f [] ks code d mi pc ls rest o1 h1 = some (o, h')) (hle1 : ev_le h1 h') (hle : ev_le h h1)
    {p : Program} {e : Env} {R : Room} {s : State} {m : MethodId} {args : Array Value} {below : List Frame} {meth : Method} {c : Code} {n0 s0 mc ms : Nat} (hFr : ev_Fr p R s m args meth c D cl aC base ex V Ts Bs Ss q d n0 s0 mc ms h')
    {Ls : Array Slot} {H : Heap} {locs : List Loc} {cells slots : Nat} (hl : ev_lr (ev_ad base ex) Ls ls) (hn : ls.length = q.2.2.1) (hS : va_S (fun a : Nat => base ≤ a) s.heap H locs) (h1c : cells + n0 = h.2.1) (h2c : slots + s0 = h.2.2) {st0 : List Value} {a9 : Array Value}
    (hr : vx_Run p l e R s m args below meth c H locs cells slots (h1.2.1 - h.2.1) (h1.2.2 - h.2.2) (F0 m pc Ls st0) (rest.map (ev_tv (ev_ad base ex))) (ev_Qc D cl aC base ex o1 h1 a9) (ev_XC D cl aC base ex o1 h1) (fun a : Nat => base ≤ a)) :
    W p l e R s m args below meth c H locs cells slots (vx_MQ below (ev_Qc D cl aC base ex o h') (ev_XC D cl aC base ex o h') args s mc ms (fun a : Nat => base ≤ a)) (F0 m pc Ls st0) := by
  obtain ⟨l1, l2⟩ := hle
  refine ev_after hr hS.2.2 (fun v' st₀ t locs1 h0 hqc hlo => ?_) (fun E st₀ t locs1 q9 ce h0 hxc hlo g1 g2 g3 => ?_)
  · obtain ⟨⟨v, ho, hoc⟩, hrel, hF⟩ := hqc
    subst ho
    cases hoc
    have hS1 := ev_F1 hS h0 hF hlo
    have K := hf d mi (pc + 3) ls (v.toList ++ rest) h1 o h' q hq hb0 p e R s m args below meth c n0 s0 mc ms hFr Ls t.heap locs1 (cells + (h1.2.1 - h.2.1)) (slots + (h1.2.2 - h.2.2)) hl hn hrel hS1 (by show cells + _ + n0 = h1.2.1; omega) (by show slots + _ + s0 = h1.2.2; omega)
    have e9 : (v.toList ++ rest).map (ev_tv (ev_ad base ex)) = (v.map (ev_tv (ev_ad base ex))).toList ++ rest.map (ev_tv (ev_ad base ex)) := by
      cases v <;> simp
    dsimp only at K
    rw [e9] at K
    exact K
  · obtain ⟨⟨k, T, N, ho, hcl⟩, hrel, hF⟩ := hxc
    subst ho
    have hb1 : (.inr k, h1) = (o, h') := Option.some.inj hb0
    cases hb1
    have hS1 := ev_F1 hS h0 hF hlo
    obtain ⟨-, -, -, -, -, -, -, -, hlocks, -, htab, -, -, -, -, q1, q2, -⟩ := hFr
    exact vx_out (fun x hx => absurd (htab x hx) id) hlocks g1 g2 g3 (fun t' ht' _ => ⟨⟨k, T, N, rfl, hcl⟩, by rw [ht']; exact hrel, hS1.F ht'⟩) hlo (by omega) (by omega)
theorem ev_good (hgood : ∀ w ∈ Ts, goodWord w = true) {w0 : Cond} (hw : w0 ∈ Ts) : GoodIn Ts (w0 :: Ts) := by
  intro w h
  have hm : w ∈ Ts := (List.mem_cons.mp h).elim (fun e => by rw [e]; exact hw) id
  exact ⟨hm, good_of_word (hgood w hm)⟩
theorem ev_pre (hbw : ∀ w ∈ Bs, ev_bw w = true) (hex : ∀ k, ex k < base) {s : State} (hX1 : base ≤ s.heap.size) (hG : ev_G D cl aC base ex V Bs Ss s) (hX : ev_X base ex V s s.heap) {h : ev_H} {H : Heap} {locs : List Loc} (hh : ev_rel D cl aC base ex h H) (hS : va_S (fun a : Nat => base ≤ a) s.heap H locs) (as : List Value) (U : State) (hU : U.heap = H) (hW : s.WarmedH U.vm) : ev_Pc D cl aC base ex V Bs Ss as h (as.map (ev_tv (ev_ad base ex))).toArray U := by
  subst hU
  exact ⟨rfl, hh, ev_G.warm hbw hW hG, ev_X.moved hW.alike (ev_X.kept hex hX1 hS hX)⟩
end EvH
end
section
/-! calls of each kind, ends and throws -/
theorem ev_split {st : List Value} {z : Nat} (h : z ≤ st.length) : st = (st.take z).reverse.reverse ++ st.drop z := by
  rw [List.reverse_reverse, List.take_append_drop]
theorem ev_par {x : Option MethodDescriptor} {n : Nat} (h : x.map (fun d => d.parameters.length) = some n) : ∀ sig, x = some sig → n = sig.parameters.length := by
  intro sig hs
  rw [hs] at h
  exact (Option.some.inj h).symm
theorem ev_rc1 {ci : Nat} {as : List Value} {h : ev_H} (c : ev_rc 1 ci as h = true) : ∃ a as' fs, as = .ref a :: as' ∧ h.1[a]? = some (.inr (ci, fs)) := by
  cases as with
  | nil => cases c
  | cons v as' =>
    cases v with
    | ref a =>
      obtain ⟨fs, hfs⟩ := ev_isC_at (show ev_isC ci h.1[a]? = true from c)
      exact ⟨a, as', fs, rfl, hfs⟩
    | _ => cases c
theorem ev_rc2 {ci : Nat} {as : List Value} {h : ev_H} (c : ev_rc 2 ci as h = true) : ∃ a as', as = .ref a :: as' := by
  cases as with
  | nil => cases c
  | cons v as' =>
    cases v with
    | ref a => exact ⟨a, as', rfl⟩
    | _ => cases c
section EvI
variable {l : Launch} {D : va_G} {cl : List vw_C} {aC : Nat → ClassId} {base : Nat} {ex : Nat → Nat} {V : ev_V} {Ts Bs : List Cond} {Ss : List (String × Nat × String)} {dft : Nat → List Value} {mt : List ev_Q} {f : ev_F}
theorem ev_call_sim (hfm : ev_fle f) (hf : ev_Cl l D cl aC base ex V Ts Bs Ss mt f) (hgood : ∀ w ∈ Ts, goodWord w = true) (hbw : ∀ w ∈ Bs, ev_bw w = true) (hex : ∀ k, ex k < base) (hmt : ∀ (mi : Nat) (q : ev_Q), mt[mi]? = some q → ev_mok cl Ts Bs Ss dft mt q)
    {sp d mi pc len x y z : Nat} {i : Instr} {ls : ev_L} {st : List Value} {h h' : ev_H} {o : ev_O} {q : ev_Q} {code : ev_M} {ks : List Nat} (hq : mt[mi]? = some q) (he : ev_call f mt [] ks code sp d mi pc x y z ls st h = some (o, h')) (hdg : decode q.2.1 pc = .ok (i, len)) (hlen : len = ev_len i) (hk : (sp = 1 ∧ ∃ k, i = .invokevirtual k) ∨ (sp = 0 ∧ ∃ k, i = .invokestatic k) ∨ (sp = 2 ∧ ∃ k, i = .invokespecial k)) (hlk : ev_lnk cl Ts Bs mt q.1.cls (i, len, x, y, z))
    {p : Program} {e : Env} {R : Room} {s : State} {m : MethodId} {args : Array Value} {below : List Frame} {meth : Method} {c : Code} {n0 s0 mc ms : Nat} (hFr : ev_Fr p R s m args meth c D cl aC base ex V Ts Bs Ss q d n0 s0 mc ms h') :
    ev_Sim p l e R s m args below meth c (vx_MQ below (ev_Qc D cl aC base ex o h') (ev_XC D cl aC base ex o h') args s mc ms (fun a : Nat => base ≤ a)) D cl aC base ex q.2.2.1 n0 s0 (pc, ls, st, h) := by
  intro Ls H locs cells slots hl hn hh hS h1c h2c
  dsimp only at hl hn hh h1c h2c ⊢
  unfold ev_call at he
  split at he
  · cases he
  · next q' hq' =>
    split at he
    · next hcond =>
      obtain ⟨c1, c2, c3, c4⟩ := hcond
      cases d with
      | zero => cases he
      | succ d =>
        dsimp only at he
        split at he
        · next r hr =>
          obtain ⟨o1, h1⟩ := r
          have hle := hfm _ _ _ _ _ _ _ _ hr
          have hle1 := ev_back_le hfm he
          obtain ⟨m1, m2, m3, m4, m5, m6⟩ := hmt x q' hq'
          have hlk' := hlk q' hq'
          have hFr0 := hFr
          obtain ⟨hx, hb, hml, hown, hts, hG, hX, hret, hlocks, hname, htab, hbn, hroom, g1, g2, g3, g4, g5⟩ := hFr
          have hX1 : base ≤ s.heap.size := by omega
          have hM := ev_meet (D := D) (aC := aC) (base := base) (ex := ex) hf hq' m1 hr c3 hle (Nat.le_trans hle1.1 g5)
          have hGd := ev_good hgood m3
          have hR : (ev_rm d (h1.2.1 - h.2.1) (h1.2.2 - h.2.2)).frames + 1 ≤ R.frames ∧ 8 + (q'.2.2.1 + 11) + (ev_rm d (h1.2.1 - h.2.1) (h1.2.2 - h.2.2)).locals ≤ R.locals := by
            constructor
            · show d + 8 + 1 ≤ R.frames; omega
            · show 8 + (q'.2.2.1 + 11) + (100 * d + 200) ≤ R.locals; omega
          obtain ⟨l1, l2⟩ := hle
          obtain ⟨k1, k2⟩ := hle1
          dsimp only at k1 k2 l1 l2
          have hfit : cells + (h1.2.1 - h.2.1) ≤ R.cells ∧ slots + (h1.2.2 - h.2.2) ≤ R.slots := by omega
          have hsz : (F0 m pc Ls (st.map (ev_tv (ev_ad base ex)))).locals.size = q.2.2.1 := by
            show Ls.size = _
            rw [← hn]; exact hl.1
          have hW8 : 2 * (F0 m pc Ls (st.map (ev_tv (ev_ad base ex)))).monitorRoom + (((st.drop z).map (ev_tv (ev_ad base ex))).map fun v => v.category).sum ≤ 8 := by
            refine lv_room ?_
            rw [List.map_map]
            have e1 : ((fun v : Value => v.category) ∘ ev_tv (ev_ad base ex)) = fun v => v.category := by funext v; exact ev_cat _ v
            rw [e1]
            exact c2
          have hst := ev_split c1
          have hdg3 : decode q.2.1 pc = .ok (i, 3) := by
            rcases hk with ⟨-, k, rfl⟩ | ⟨-, k, rfl⟩ | ⟨-, k, rfl⟩ <;> (rw [hdg, hlen]; rfl)
          generalize has : (st.take z).reverse = as at hr c3 c4 hM hst
          generalize hre : st.drop z = rest at he c2 hW8 hst
          have hasl : as.length = z := by rw [← has]; simp; omega
          have hmap : st.map (ev_tv (ev_ad base ex)) = (as.map (ev_tv (ev_ad base ex))).reverse ++ rest.map (ev_tv (ev_ad base ex)) := by
            rw [hst, List.map_append, List.map_reverse]
          have hS0 : CallFix p m c q.2.1 q.2.2.1 s args Ts q.1.cls := ⟨hx, hb, hml, hown, hts⟩
          rcases hk with ⟨rfl, k, rfl⟩ | ⟨rfl, k, rfl⟩ | ⟨rfl, k, rfl⟩
          · -- virtual
            obtain ⟨⟨T, N, hcl⟩, w1, w2, w3, w4, w5, w6⟩ := hlk'
            obtain ⟨a, as', fs, rfl, hfs⟩ := ev_rc1 c4
            refine ev_goon hf hq he ⟨k1, k2⟩ ⟨l1, l2⟩ hFr0 hl hn hS h1c h2c (a9 := (Value.ref (ev_ad base ex a) :: as'.map (ev_tv (ev_ad base ex))).toArray) ?_
            refine vx_runV (C := q'.1.cls) (As := as'.map (ev_tv (ev_ad base ex))) (b := ev_ad base ex a) hS0 hM ⟨callB_of (z - 1) hts hGd rfl rfl rfl (hts _ w3) (hts _ w4) ⟨m5.1, m5.2, w6⟩ hR, hts _ w1, hts _ w2⟩ ⟨ev_Pc_blind hbw, ev_recv hG.2.2.1 hh hcl hfs, fun U hU hW => ?_⟩ rfl (by simp only [List.length_map]; simp at hasl; omega) hsz ?_ hW8 hdg3 hfit
            · exact ev_pre hbw hex hX1 hG hX hh hS (.ref a :: as') U hU hW
            · show st.map (ev_tv (ev_ad base ex)) = _
              rw [hmap]
              simp [ev_tv]
          · -- static
            obtain ⟨w1, w2, w3, w4⟩ := hlk'
            refine ev_goon hf hq he ⟨k1, k2⟩ ⟨l1, l2⟩ hFr0 hl hn hS h1c h2c (a9 := (as.map (ev_tv (ev_ad base ex))).toArray) ?_
            rcases w3 with w3 | ⟨host, w3⟩
            · exact vx_runS (As := as.map (ev_tv (ev_ad base ex))) hS0 hM ⟨callB_of z hts hGd rfl rfl rfl (hts _ w2) (hts _ w3) ⟨m5.1, m5.2, w4⟩ hR, hts _ w1⟩ ⟨ev_Pc_blind hbw, fun U hU hW => ev_pre hbw hex hX1 hG hX hh hS as U hU hW⟩ rfl (by rw [List.length_map]; exact hasl) hsz hmap hW8 hdg3 hfit
            · exact vx_runSN (As := as.map (ev_tv (ev_ad base ex))) hS0 hM ⟨va_cnB z hts hGd rfl rfl rfl (hG.1 _ w3) (hts _ w2) ⟨m5.1, m5.2, w4⟩ hR, hts _ w1, trivial⟩ ⟨ev_Pc_blind hbw, fun U hU hW => ev_pre hbw hex hX1 hG hX hh hS as U hU hW⟩ rfl (by rw [List.length_map]; exact hasl) hsz hmap hW8 hdg3 hfit
          · -- special
            obtain ⟨w0, wr, w1, w2, w3, w5, w6⟩ := hlk'
            obtain ⟨a, as', rfl⟩ := ev_rc2 c4
            refine ev_goon hf hq he ⟨k1, k2⟩ ⟨l1, l2⟩ hFr0 hl hn hS h1c h2c (a9 := (Value.ref (ev_ad base ex a) :: as'.map (ev_tv (ev_ad base ex))).toArray) ?_
            rw [wr] at hM hGd
            have hstk : (F0 m pc Ls (st.map (ev_tv (ev_ad base ex)))).stack = (as'.map (ev_tv (ev_ad base ex))).reverse ++ .ref (ev_ad base ex a) :: rest.map (ev_tv (ev_ad base ex)) := by
              show st.map (ev_tv (ev_ad base ex)) = _
              rw [hmap]
              simp [ev_tv]
            have hlen9 : (as'.map (ev_tv (ev_ad base ex))).length = z - 1 := by simp only [List.length_map]; simp at hasl; omega
            rcases w3 with w3 | ⟨host, w3⟩
            · exact vx_runI (As := as'.map (ev_tv (ev_ad base ex))) (b := ev_ad base ex a) hS0 hM ⟨callB_of (z - 1) hts hGd rfl rfl rfl (hts _ w2) (hts _ w3) ⟨m5.1, m5.2, w6⟩ hR, w0, hts _ w1⟩ ⟨ev_Pc_blind hbw, fun U hU hW => ev_pre hbw hex hX1 hG hX hh hS (.ref a :: as') U hU hW⟩ rfl hlen9 hsz hstk hW8 hdg3 hfit
            · exact vx_runIN (As := as'.map (ev_tv (ev_ad base ex))) (b := ev_ad base ex a) hS0 hM ⟨va_cnB (z - 1) hts hGd rfl rfl rfl (hG.1 _ w3) (hts _ w2) ⟨m5.1, m5.2, w6⟩ hR, w0, hts _ w1⟩ ⟨ev_Pc_blind hbw, fun U hU hW => ev_pre hbw hex hX1 hG hX hh hS (.ref a :: as') U hU hW⟩ rfl hlen9 hsz hstk hW8 hdg3 hfit
        · cases he
    · cases he
end EvI
end
section
/-! ends, throws, and all together -/
theorem ev_nar_of {ret : Option FieldType} {v : Int32} (h : ev_nar ret v = true) : ∃ ty, ret = some ty ∧ narrow ty (.int v) = .int v := by
  unfold ev_nar at h
  split at h
  · exact ⟨_, rfl, rfl⟩
  · refine ⟨_, rfl, ?_⟩
    simp only [Bool.or_eq_true, beq_iff_eq] at h
    rcases h with h | h <;> (subst h; rfl)
  · refine ⟨_, rfl, ?_⟩
    simp only [Bool.and_eq_true, decide_eq_true_eq] at h
    obtain ⟨j, hj, e⟩ := nI_of2 (x := v) (M := 65535) (n := 65535) (by decide) (by
      have := h.1
      simp only [Int32.le_iff_toInt_le, Int32.lt_iff_toInt_lt] at *
      omega) h.2
    rw [e]
    exact (pk_charN (by omega)).1
  · cases h
theorem ev_isr_of {ret : Option FieldType} (h : ev_isr ret = true) : ∃ rt, ret = some rt ∧ ((∃ n, rt = .object n) ∨ ∃ t, rt = .array t) := by
  unfold ev_isr at h
  split at h
  · exact ⟨_, rfl, Or.inl ⟨_, rfl⟩⟩
  · exact ⟨_, rfl, Or.inr ⟨_, rfl⟩⟩
  · cases h
theorem ev_bw_tab {w : Cond} (h : ev_bw w = true) : w.onTables = true := by
  cases w <;> first | rfl | (simp [ev_bw] at h; done)
theorem ev_cats_tv (ad : Nat → Nat) (st : List Value) : ((st.map (ev_tv ad)).map fun v => v.category).sum = ev_cats st := by
  rw [List.map_map]
  have e1 : ((fun v : Value => v.category) ∘ ev_tv ad) = fun v => v.category := by funext v; exact ev_cat _ v
  rw [e1]; rfl
section EvJ
variable {l : Launch} {D : va_G} {cl : List vw_C} {aC : Nat → ClassId} {base : Nat} {ex : Nat → Nat} {V : ev_V} {Ts Bs : List Cond} {Ss : List (String × Nat × String)} {dft : Nat → List Value} {mt : List ev_Q} {f : ev_F}
theorem ev_ret_sim {d mi pc len : Nat} {i : Instr} {ls : ev_L} {st : List Value} {h : ev_H} {v : Option Value} {q : ev_Q} (he : ev_ret i q.2.2.2.1 st = some v) (hdg : decode q.2.1 pc = .ok (i, len)) (hlen : len = ev_len i)
    {p : Program} {e : Env} {R : Room} {s : State} {m : MethodId} {args : Array Value} {below : List Frame} {meth : Method} {c : Code} {n0 s0 mc ms : Nat} (hFr : ev_Fr p R s m args meth c D cl aC base ex V Ts Bs Ss q d n0 s0 mc ms h) :
    ev_Sim p l e R s m args below meth c (vx_MQ below (ev_Qc D cl aC base ex (.inl v) h) (ev_XC D cl aC base ex (.inl v) h) args s mc ms (fun a : Nat => base ≤ a)) D cl aC base ex q.2.2.1 n0 s0 (pc, ls, st, h) := by
  intro Ls H locs cells slots hl hn hh hS h1c h2c
  dsimp only at hl hn hh h1c h2c ⊢
  obtain ⟨hx, hb, hml, hown, hts, hG, hX, hret, hlocks, hname, htab, hbn, hroom, g1, g2, g3, g4, g5⟩ := hFr
  have hcm : cells = mc := by omega
  have hsm : slots = ms := by omega
  subst hcm; subst hsm
  have fin : ∀ (v : Option Value) (t : State), t.heap = H → ev_Qc D cl aC base ex (.inl v) h args s (.returned (v.map (ev_tv (ev_ad base ex)))) t := fun v t ht => ⟨⟨v, rfl, rfl⟩, by rw [ht]; exact hh, hS.F ht⟩
  unfold ev_ret at he
  split at he
  · split at he
    · next w =>
      split at he
      · next hw =>
        cases he
        obtain ⟨ty, e1, e2⟩ := ev_nar_of hw
        exact vx_ret (W.zret hx hb (hret.trans e1) e2 (fun t ht _ => fin _ t ht) hS.2.2 (by rw [hdg, hlen]; rfl) hlocks)
      · cases he
    · cases he
  · split at he
    · next w =>
      split at he
      · next hw =>
        cases he
        exact vx_ret (W.lret hx hb (hret.trans hw) (fun t ht _ => fin _ t ht) hS.2.2 (by rw [hdg, hlen]; rfl) hlocks)
      · cases he
    · cases he
  · split at he
    · next w =>
      split at he
      · next hw =>
        cases he
        obtain ⟨rt, e1, e2⟩ := ev_isr_of hw
        exact vx_ret (W.aret hx hb (hret.trans e1) e2 (Or.inr ⟨_, rfl⟩) (fun t ht _ => fin (some (.ref w)) t ht) hS.2.2 (by rw [hdg, hlen]; rfl) hlocks)
      · cases he
    · cases he
  · split at he
    · split at he
      · next hw =>
        cases he
        exact vx_ret (W.vret hx hb (hret.trans hw) (fun t ht _ => fin none t ht) hS.2.2 (by rw [hdg, hlen]; rfl) hlocks)
      · cases he
    · cases he
  · cases he
theorem ev_throw_sim (hl0 : l.stackTraces = false) (hbw : ∀ w ∈ Bs, ev_bw w = true) {d mi pc : Nat} {I : ev_I} {ls : ev_L} {st : List Value} {h : ev_H} {q : ev_Q} (hdg : decode q.2.1 pc = .ok (I.1, I.2.1)) (hlen : I.2.1 = ev_len I.1) (hc8 : ev_cats st ≤ 8) (hthr : ev_thr cl Ts Bs Ss q.1.cls q.2.1 pc I)
    {p : Program} {e : Env} {R : Room} {s : State} {m : MethodId} {args : Array Value} {below : List Frame} {meth : Method} {c : Code} {n0 s0 mc ms : Nat} (hFr : ev_Fr p R s m args meth c D cl aC base ex V Ts Bs Ss q d n0 s0 mc ms (ev_push h (.inr (I.2.2.1, [])) 6)) :
    ev_Sim p l e R s m args below meth c (vx_MQ below (ev_Qc D cl aC base ex (.inr I.2.2.1) (ev_push h (.inr (I.2.2.1, [])) 6)) (ev_XC D cl aC base ex (.inr I.2.2.1) (ev_push h (.inr (I.2.2.1, [])) 6)) args s mc ms (fun a : Nat => base ≤ a)) D cl aC base ex q.2.2.1 n0 s0 (pc, ls, st, h) := by
  intro Ls H locs cells slots hl hn hh hS h1c h2c
  dsimp only at hl hn hh h1c h2c ⊢
  obtain ⟨hx, hb, hml, hown, hts, hG, hX, hret, hlocks, hname, htab, hbn, hroom, g1, g2, g3, g4, g5⟩ := hFr
  dsimp only [ev_push] at g3 g4 g5
  obtain ⟨cls, T0, text, is, ic, ik, names, t1, t2, t3, t4, t5, t6, t7, t8, t9, t10, t11, t12⟩ := hthr
  have hX1 : base ≤ s.heap.size := by omega
  obtain ⟨sa, hsa⟩ := hG.2.1 _ t7
  have hat : ∀ w ∈ vx_atS q.1.cls ic cls names, w.before args s = true := fun w hw => (t11 w hw).elim (hts w) (fun hB => va_Nw.use (ev_bw_tab (hbw w hB)) (hG.1 w hB))
  have d0 : decode q.2.1 pc = .ok (.new ik, 3) := by rw [hdg, hlen, t2]; rfl
  have hsz : Ls.size = c.maxLocals := by rw [hml, ← hn]; exact hl.1
  have hA : ∀ a : Nat, s.heap.size ≤ a → (fun a : Nat => base ≤ a) a := fun a ha => Nat.le_trans hX1 ha
  have hcat := ev_cats_tv (ev_ad base ex) st
  have fin : ∀ (pc9 : Nat) (a : Nat) (H1 : Heap), decode q.2.1 pc9 = .ok (.athrow, 1) → va_P D cl (ev_ws (ev_ad base ex) aC h.1 ++ [(a, .inr (I.2.2.1, []))]) H1 → va_D (fun a : Nat => base ≤ a) (ev_ws (ev_ad base ex) aC h.1 ++ [(a, .inr (I.2.2.1, []))]) → va_S (fun a : Nat => base ≤ a) s.heap H1 locs → W p l e R s m args below meth c H1 locs (cells + 1) (slots + 6) (vx_MQ below (ev_Qc D cl aC base ex (.inr I.2.2.1) (ev_push h (.inr (I.2.2.1, [])) 6)) (ev_XC D cl aC base ex (.inr I.2.2.1) (ev_push h (.inr (I.2.2.1, [])) 6)) args s mc ms (fun a : Nat => base ≤ a)) (F0 m pc9 Ls (.ref a :: st.map (ev_tv (ev_ad base ex)))) := by
    intro pc9 a H1 d9 hP1 hD1 hS1
    refine ev_sized fun hsz1 => ?_
    have hlast : (ev_ws (ev_ad base ex) aC h.1 ++ [(a, (.inr (I.2.2.1, []) : va_E))])[(ev_ws (ev_ad base ex) aC h.1).length]? = some (a, .inr (I.2.2.1, [])) := by
      rw [List.getElem?_append_right (Nat.le_refl _), Nat.sub_self]; rfl
    obtain ⟨r9, hr9, cell, f1, f2, f3, -⟩ := hP1 _ _ hlast
    cases hr9.symm.trans t1
    have hle2 : H.size ≤ H1.size := by
      have q2 := hh.2.1
      have q3 := hh.2.2.1
      have hlen9 : (ev_ws (ev_ad base ex) aC h.1).length = h.1.length := by simp [ev_ws]
      rcases Nat.eq_zero_or_pos h.1.length with w | w
      · have := hS1.1
        omega
      · have hj : h.1.length - 1 < h.1.length := by omega
        have e1 : (ev_ws (ev_ad base ex) aC h.1 ++ [(a, (.inr (I.2.2.1, []) : va_E))])[h.1.length - 1]? = some (ev_ad base ex (h.1.length - 1), ev_cv (ev_ad base ex) aC h.1[h.1.length - 1]) := by
          rw [List.getElem?_append_left (by omega)]
          exact ev_ws_at (List.getElem?_eq_getElem hj)
        have e2 := (hP1 _ _ e1).lt
        have e3 : ev_ad base ex (h.1.length - 1) = base + (h.1.length - 1) := ev_ad_in (by have := hh.2.2.2; omega)
        dsimp only at e2
        rw [e3] at e2
        omega
    have hS9 : va_S (fun a : Nat => base ≤ a) H H1 [] := by
      refine ⟨hle2, fun q hq hna => ?_, fun z hz => nomatch hz⟩
      have hqb : q < base := Nat.not_le.mp hna
      rw [hS1.2.1 q (by omega) hna, hS.2.1 q (by omega) hna]
    have hext : h.2.1 < ev_ext := by omega
    obtain ⟨hq, hd⟩ := ev_born (x := .inr (I.2.2.1, [])) (n := 6) (locs1 := []) hbn hh h1c hext hS9 (by omega) hP1 hD1
    refine vx_athrow hx hb d9 ?_
    exact vx_out (fun x hx => absurd (htab x hx) id) hlocks f1 f3 (by rw [f2]; exact (hG.2.2.1.1 _ _ t1).2.1) (fun t ht _ => ⟨⟨_, T0, 0, rfl, t1⟩, by rw [ht]; exact hd, hS1.F ht⟩) hS1.2.2 (by omega) (by omega)
  rcases t4 with ⟨d4, d6, d9⟩ | ⟨d4, d6, d9⟩
  · exact vx_makeS hx hb hl0 hown t8 t9 (hts _ t5) (hts _ t6) hsa hat t12 hX.2.1 hX.2.2.1 hS hsz d0 t3 d4 d6 hG.2.2.1 hh.1 (ev_D hh.2.2.2) hA t1 (by omega) (by rw [hcat]; omega) (by omega) (by omega) (fun a H1 hP1 hD1 hS1 => fin _ a H1 d9 hP1 hD1 hS1)
  · exact vx_makeSW hx hb hl0 hown t8 t9 (hts _ t5) (hts _ t6) hsa hat t12 hX.2.1 hX.2.2.1 hS hsz d0 t3 d4 d6 hG.2.2.1 hh.1 (ev_D hh.2.2.2) hA t1 (by omega) (by rw [hcat]; omega) (by omega) (by omega) (fun a H1 hP1 hD1 hS1 => fin _ a H1 d9 hP1 hD1 hS1)
end EvJ
end
section
/-! array copies, Object's constructor, and THE THEOREM -/
theorem ev_01_of {f : Nat → Int32} {a n : Nat} (h : ev_01 f a n = true) : ∀ i, i < n → fits .boolean (.int (f (a + i))) = true := by
  intro i hi
  unfold ev_01 at h
  have := List.all_eq_true.mp h i (List.mem_range.mpr hi)
  exact this
theorem ev_cpy_words : nativeFrameWords "java/lang/System" "arraycopy" 5 + 11 ≤ 100 := by decide +kernel
theorem ev_kd2 {i : Instr} (h : ev_kd i = 2) : ∃ k, i = .invokevirtual k := by
  cases i <;> first | exact ⟨_, rfl⟩ | (exact absurd h (by simp [ev_kd]))
theorem ev_kd3 {i : Instr} (h : ev_kd i = 3) : ∃ k, i = .invokestatic k := by
  cases i <;> first | exact ⟨_, rfl⟩ | (exact absurd h (by simp [ev_kd]))
theorem ev_kd4 {i : Instr} (h : ev_kd i = 4) : ∃ k, i = .invokespecial k := by
  cases i <;> first | exact ⟨_, rfl⟩ | (exact absurd h (by simp [ev_kd]))
section EvK
variable {l : Launch} {D : va_G} {cl : List vw_C} {aC : Nat → ClassId} {base : Nat} {ex : Nat → Nat} {V : ev_V} {Ts Bs : List Cond} {Ss : List (String × Nat × String)} {dft : Nat → List Value} {mt : List ev_Q} {f : ev_F}
variable {p : Program} {e : Env} {R : Room} {s : State} {m : MethodId} {args : Array Value} {below : List Frame} {meth : Method} {c : Code} {Q : State → Prop} {nL n0 s0 : Nat} {cc : ByteArray}
theorem ev_cpy_sim (hx : p.tables.exec = Jvm.exec) (hb : c.code = cc) (hml : c.maxLocals = nL) {own : String} {index : Nat} (hown : s.vm.findClass own = some m.cls) (hlink : (Cond.methodLink own index arraycopyName).before args s = true) (hnat : (Cond.native arraycopyName).before args s = true) (hstat : (Cond.static arraycopyName).before args s = true) (hini : (Cond.initialized "java/lang/System").before args s = true)
    (hbn : base + n0 = s.heap.size) (hK : va_K D cl (ev_tys aC) s) (hfr : 1 ≤ R.frames) (hlo : 200 ≤ R.locals) {pc : Nat} {ls : ev_L} {st : List Value} {h : ev_H} {r : List Value × ev_H} (hdg : decode cc pc = .ok (.invokestatic index, 3)) (he : ev_cpy st h = some r) (hc8 : ev_cats r.1 ≤ 8)
    (kk : ev_Sim p l e R s m args below meth c Q D cl aC base ex nL n0 s0 (pc + 3, ls, r.1, r.2)) : ev_Sim p l e R s m args below meth c Q D cl aC base ex nL n0 s0 (pc, ls, st, h) := by
  intro Ls H locs cells slots hl hn hh hS h1c h2c
  dsimp only at hl hn hh h1c h2c ⊢
  have hsz : c.maxLocals = Ls.size := by rw [hml, ← hn]; exact hl.1.symm
  unfold ev_cpy at he
  split at he
  · next n dp a sp b rr =>
    split at he
    · next t n0' f t' n1 g hb1 ha1 =>
      split at he
      · next hc =>
        obtain ⟨rfl, ht, q1, q2, q3, q4, q5⟩ := hc
        split at he
        · next hv =>
          cases he
          have hcat := ev_cats_tv (ev_ad base ex) rr
          have hw := ev_cpy_words
          dsimp only at hc8
          have go : ∀ (ty : FieldType), (ev_tys aC)[t']? = some (aC t', ty) → refKind ty = false → (∀ i, i < n.toNatClampNeg → fits ty (.int (f (sp.toNatClampNeg + i))) = true) → W p l e R s m args below meth c H locs cells slots Q (F0 m pc Ls (.int n :: .int dp :: .ref (ev_ad base ex a) :: .int sp :: .ref (ev_ad base ex b) :: rr.map (ev_tv (ev_ad base ex)))) := by
            intro ty hty hrk hfit
            refine va_copyi hx hb hsz hown hlink hnat hstat hini hK hh.1 (ev_D hh.2.2.2) (ev_S0 hS) b a t' t' (ev_ws_at hb1) (ev_ws_at ha1) hty hty hrk q1 q2 q3 q4 q5 hfit hfr (by rw [hcat]; omega) hdg (fun H1 locs1 hP1 hD1 hS1 => ev_sized fun hsz1 => ?_)
            have hd := ev_done (x := .inl (t', n1, .inl (va_cpy f g sp.toNatClampNeg dp.toNatClampNeg n.toNatClampNeg))) hbn hh h1c hS1 hsz1 hP1
            exact kk Ls H1 locs1 cells slots hl hn hd (ev_S1 hS hS1) h1c h2c
          rcases ht with rfl | rfl
          · exact go .int rfl rfl (fun _ _ => rfl)
          · exact go .boolean rfl rfl (ev_01_of (hv.resolve_left (by decide)))
        · cases he
      · cases he
    · cases he
  · cases he
theorem ev_obj_sim (hx : p.tables.exec = Jvm.exec) (hb : c.code = cc) (hml : c.maxLocals = nL) {own : String} {index : Nat} (hown : s.vm.findClass own = some m.cls) (hlink : (Cond.methodLink own index Lib.objectInit).before args s = true) (hinst : (Cond.instanceMethod Lib.objectInit).before args s = true) (hcode : (Cond.code Lib.objectInit ⟨#[0xb1]⟩ 1 none).before args s = true)
    (hfr : 1 ≤ R.frames) (hlo : 200 ≤ R.locals) {pc a : Nat} {ls : ev_L} {rr : List Value} {h : ev_H} (hdg : decode cc pc = .ok (.invokespecial index, 3)) (hc8 : ev_cats rr ≤ 8)
    (kk : ev_Sim p l e R s m args below meth c Q D cl aC base ex nL n0 s0 (pc + 3, ls, rr, h)) : ev_Sim p l e R s m args below meth c Q D cl aC base ex nL n0 s0 (pc, ls, .ref a :: rr, h) := by
  intro Ls H locs cells slots hl hn hh hS h1c h2c
  dsimp only at hl hn hh h1c h2c ⊢
  have hsz : Ls.size = c.maxLocals := by rw [hml, ← hn]; exact hl.1
  have hcat := ev_cats_tv (ev_ad base ex) rr
  refine W.objInit hx hb hown hlink hinst hcode rfl hsz rfl hdg hfr ?_ (kk Ls H locs cells slots hl hn hh hS h1c h2c)
  have : 2 * (F0 m pc Ls ((Value.ref a :: rr).map (ev_tv (ev_ad base ex)))).monitorRoom + ((rr.map (ev_tv (ev_ad base ex))).map fun v => v.category).sum ≤ 8 := lv_room (by rw [hcat]; exact hc8)
  omega
end EvK
theorem ev_sim {l : Launch} {D : va_G} {cl : List vw_C} {aC : Nat → ClassId} {base : Nat} {ex : Nat → Nat} {V : ev_V} {Ts Bs : List Cond} {Ss : List (String × Nat × String)} {dft : Nat → List Value} {mt : List ev_Q} (hl0 : l.stackTraces = false) (hgood : ∀ w ∈ Ts, goodWord w = true) (hbw : ∀ w ∈ Bs, ev_bw w = true) (hex : ∀ k, ex k < base) (hmt : ∀ (mi : Nat) (q : ev_Q), mt[mi]? = some q → ev_mok cl Ts Bs Ss dft mt q) : ∀ n : Nat, ev_Cl l D cl aC base ex V Ts Bs Ss mt (ev mt V dft n) := by
  intro n
  induction n with
  | zero => intro d mi pc ls st h o h' q hq he; unfold ev at he; cases he
  | succ n ih =>
    intro d mi pc ls st h o h' q hq he p e R s m args below meth c n0 s0 mc ms hFr
    have hmono := ev_mono mt V dft n
    unfold ev at he
    rw [hq] at he
    dsimp only at he
    split at he
    · cases he
    · next I hI =>
      obtain ⟨m1, m2, m3, m4, m5, m6⟩ := hmt mi q hq
      obtain ⟨d1, d2, d3⟩ := m6 pc I hI
      rw [m2] at he
      have hFr0 := hFr
      obtain ⟨hx, hb, hml, hown, hts, hG, hX, hret, hlocks, hname, htab, hbn, hroom, g1, g2, g3, g4, g5⟩ := hFr
      have hX1 : base ≤ s.heap.size := by omega
      have hstep : ∀ (hs : ev_site cl Ts Bs dft q.1.cls q.1.name I) (_ : ev_step (ev mt V dft n) V dft I d mi pc ls st h = some (o, h')), ev_Sim p l e R s m args below meth c (vx_MQ below (ev_Qc D cl aC base ex o h') (ev_XC D cl aC base ex o h') args s mc ms (fun a : Nat => base ≤ a)) D cl aC base ex q.2.2.1 n0 s0 (pc, ls, st, h) := by
        intro hs he2
        unfold ev_step at he2
        split at he2
        · next r hr =>
          obtain ⟨k1, k2⟩ := hmono _ _ _ _ _ _ _ _ he2
          obtain ⟨i, len, x, y, z⟩ := I
          exact ev_step_sim hx hb hbn hex hts hbw hG hX hown d1 d2 (by rw [hname]; exact hs) hr ⟨by omega, by omega, by omega⟩ (ih d mi r.1 r.2.1 r.2.2.1 r.2.2.2 o h' q hq he2 p e R s m args below meth c n0 s0 mc ms hFr0)
        · cases he2
      have hnosw : ∀ k, ev_kd I.1 = k → k ≠ 0 → I.2.1 = ev_len I.1 := by
        intro k hk h0
        refine d2.resolve_right (fun hw => h0 ?_)
        rw [← hk]
        unfold ev_isw at hw
        split at hw
        · next e9 => rw [e9]; rfl
        · next e9 => rw [e9]; rfl
        · cases hw
      unfold ev_one at he
      split at he
      · next hk =>
        obtain ⟨v, hv, e9⟩ := Option.map_eq_some_iff.mp he
        cases e9
        exact ev_ret_sim (mi := mi) hv d1 (hnosw _ hk (by decide)) hFr0
      · next hk =>
        rw [hk] at d3
        obtain ⟨i, len, x, y, z⟩ := I
        have hi : ∃ k, i = .invokevirtual k := ev_kd2 hk
        exact ev_call_sim hmono ih hgood hbw hex hmt hq he d1 (hnosw _ hk (by decide)) (Or.inl ⟨rfl, hi⟩) d3 hFr0
      · next hk =>
        rw [hk] at d3
        split at he
        · next hy =>
          rw [if_pos hy] at d3
          obtain ⟨index, i1, i2, i3, i4, i5⟩ := d3
          split at he
          · next r hr =>
            split at he
            · next h8 =>
              obtain ⟨k1, k2⟩ := hmono _ _ _ _ _ _ _ _ he
              exact ev_cpy_sim hx hb hml hown (hts _ i2) (hts _ i3) (hts _ i4) (hts _ i5) hbn hG.2.2.1 (by omega) (by omega) (by rw [d1, hnosw _ hk (by decide), i1]; rfl) hr h8 (ih d mi (pc + 3) ls r.1 r.2 o h' q hq he p e R s m args below meth c n0 s0 mc ms hFr0)
            · cases he
          · cases he
        · next hy =>
          rw [if_neg hy] at d3
          obtain ⟨i, len, x, y, z⟩ := I
          have hi : ∃ k, i = .invokestatic k := ev_kd3 hk
          exact ev_call_sim hmono ih hgood hbw hex hmt hq he d1 (hnosw _ hk (by decide)) (Or.inr (Or.inl ⟨rfl, hi⟩)) d3 hFr0
      · next hk =>
        rw [hk] at d3
        split at he
        · next hy =>
          rw [if_pos hy] at d3
          obtain ⟨index, i1, i2, i3, i4⟩ := d3
          split at he
          · next a rr =>
            split at he
            · next h8 =>
              exact ev_obj_sim hx hb hml hown (hts _ i2) (hts _ i3) (hts _ i4) (by omega) (by omega) (by rw [d1, hnosw _ hk (by decide), i1]; rfl) h8 (ih d mi (pc + 3) ls rr h o h' q hq he p e R s m args below meth c n0 s0 mc ms hFr0)
            · cases he
          · cases he
        · next hy =>
          rw [if_neg hy] at d3
          obtain ⟨i, len, x, y, z⟩ := I
          have hi : ∃ k, i = .invokespecial k := ev_kd4 hk
          exact ev_call_sim hmono ih hgood hbw hex hmt hq he d1 (hnosw _ hk (by decide)) (Or.inr (Or.inr ⟨rfl, hi⟩)) d3 hFr0
      · next hk =>
        rw [hk] at d3
        split at he
        · next hz =>
          rw [if_pos hz] at d3
          split at he
          · next h8 =>
            cases he
            exact ev_throw_sim (mi := mi) hl0 hbw d1 (hnosw _ hk (by decide)) h8.2 d3 hFr0
          · cases he
        · next hz =>
          rw [if_neg hz] at d3
          exact hstep d3 he
      · next k1 k2 k3 k4 k5 =>
        have h0 : ev_kd I.1 = 0 := by
          unfold ev_kd at k1 k2 k3 k4 k5 ⊢
          split <;> first | rfl | simp_all
        rw [h0] at d3
        exact hstep d3 he
end
section
/-! The evaluator without fuel, and its equation. -/
def ev_sub (f g : ev_F) : Prop := ∀ (d mi pc : Nat) (ls : ev_L) (st : List Value) (h : ev_H) (r : ev_O × ev_H), f d mi pc ls st h = some r → g d mi pc ls st h = some r
/-- an increasing row of evaluators comes to g -/
def ev_sup (F : Nat → ev_F) (g : ev_F) : Prop := (∀ n, ev_sub (F n) (F (n + 1))) ∧ ∀ (d mi pc : Nat) (ls : ev_L) (st : List Value) (h : ev_H) (r : ev_O × ev_H), g d mi pc ls st h = some r → ∃ n, F n d mi pc ls st h = some r
theorem ev_sup_le {F : Nat → ev_F} {g : ev_F} (hs : ev_sup F g) {a b : Nat} (h : a ≤ b) : ev_sub (F a) (F b) := by
  induction b with
  | zero => have : a = 0 := by omega
            subst this; exact fun _ _ _ _ _ _ _ k => k
  | succ b ih =>
    by_cases hab : a = b + 1
    · subst hab; exact fun _ _ _ _ _ _ _ k => k
    · have h1 := ih (by omega)
      exact fun d mi pc ls st h r k => hs.1 b d mi pc ls st h r (h1 d mi pc ls st h r k)
section EvL
variable {f g : ev_F} {mt : List ev_Q} {V : ev_V} {dft : Nat → List Value} {ret : Option FieldType} {hh : List (Nat × Nat × Nat × Nat)} {ks : List Nat} {code : ev_M} {I : ev_I} {sp d mi pc x y z : Nat} {ls : ev_L} {st rest : List Value} {h h1 : ev_H} {o : ev_O} {r : ev_O × ev_H}
theorem ev_back_mono (hs : ev_sub f g) (he : ev_back f hh ks code d mi pc ls rest o h1 = some r) : ev_back g hh ks code d mi pc ls rest o h1 = some r := by
  unfold ev_back at he ⊢
  cases o with
  | inl v => exact hs _ _ _ _ _ _ _ he
  | inr k =>
    dsimp only at he ⊢
    split at he
    · next e1 => (try rw [e1]); exact he
    · next t e1 =>
      (try rw [e1])
      (try dsimp only)
      split at he
      · cases he
      · next q e2 => (try rw [e2]); exact hs _ _ _ _ _ _ _ he
theorem ev_call_mono (hs : ev_sub f g) (he : ev_call f mt hh ks code sp d mi pc x y z ls st h = some r) : ev_call g mt hh ks code sp d mi pc x y z ls st h = some r := by
  unfold ev_call at he ⊢
  split at he
  · cases he
  · next q e1 =>
    (try rw [e1])
    (try dsimp only)
    split at he
    · next hc =>
      (try rw [if_pos hc])
      cases d with
      | zero => cases he
      | succ d =>
        dsimp only at he ⊢
        split at he
        · next r1 e2 => rw [hs _ _ _ _ _ _ _ e2]; exact ev_back_mono hs he
        · cases he
    · cases he
theorem ev_step_mono (hs : ev_sub f g) (he : ev_step f V dft I d mi pc ls st h = some r) : ev_step g V dft I d mi pc ls st h = some r := by
  unfold ev_step at he ⊢
  split at he
  · next q e1 => (try rw [e1]); exact hs _ _ _ _ _ _ _ he
  · cases he
theorem ev_one_mono (hs : ev_sub f g) (he : ev_one f mt V dft ret hh ks code I d mi pc ls st h = some r) : ev_one g mt V dft ret hh ks code I d mi pc ls st h = some r := by
  unfold ev_one at he ⊢
  split at he
  · exact he
  · exact ev_call_mono hs he
  · split at he
    · next hy =>
      (try rw [if_pos hy])
      split at he
      · next q e1 =>
        (try rw [e1])
        (try dsimp only)
        split at he
        · next h8 => (try rw [if_pos h8]); exact hs _ _ _ _ _ _ _ he
        · cases he
      · cases he
    · next hy => (try rw [if_neg hy]); exact ev_call_mono hs he
  · split at he
    · next hy =>
      (try rw [if_pos hy])
      split at he
      · split at he
        · next h8 => (try dsimp only); (try rw [if_pos h8]); exact hs _ _ _ _ _ _ _ he
        · cases he
      · cases he
    · next hy => (try rw [if_neg hy]); exact ev_call_mono hs he
  · split at he
    · next hz => (try rw [if_pos hz]); exact he
    · next hz => (try rw [if_neg hz]); exact ev_step_mono hs he
  · exact ev_step_mono hs he
variable {F : Nat → ev_F}
theorem ev_back_cont (hs : ev_sup F g) (he : ev_back g hh ks code d mi pc ls rest o h1 = some r) : ∃ n, ev_back (F n) hh ks code d mi pc ls rest o h1 = some r := by
  unfold ev_back at he
  cases o with
  | inl v => exact hs.2 _ _ _ _ _ _ _ he
  | inr k =>
    dsimp only at he
    split at he
    · next e1 => refine ⟨0, ?_⟩; unfold ev_back; (try dsimp only); (try rw [e1]); exact he
    · next t e1 =>
      split at he
      · cases he
      · next q e2 =>
        obtain ⟨n, hn⟩ := hs.2 _ _ _ _ _ _ _ he
        refine ⟨n, ?_⟩
        unfold ev_back; (try dsimp only); (try rw [e1]); (try dsimp only); (try rw [e2]); exact hn
theorem ev_call_cont (hs : ev_sup F g) (he : ev_call g mt hh ks code sp d mi pc x y z ls st h = some r) : ∃ n, ev_call (F n) mt hh ks code sp d mi pc x y z ls st h = some r := by
  unfold ev_call at he
  split at he
  · cases he
  · next q e1 =>
    split at he
    · next hc =>
      cases d with
      | zero => cases he
      | succ d =>
        dsimp only at he
        split at he
        · next r1 e2 =>
          obtain ⟨n1, k1⟩ := hs.2 _ _ _ _ _ _ _ e2
          obtain ⟨n2, k2⟩ := ev_back_cont hs he
          refine ⟨max n1 n2, ?_⟩
          unfold ev_call
          (try rw [e1]); (try dsimp only)
          (try rw [if_pos hc]); (try dsimp only)
          rw [ev_sup_le hs (Nat.le_max_left n1 n2) _ _ _ _ _ _ _ k1]
          exact ev_back_mono (ev_sup_le hs (Nat.le_max_right n1 n2)) k2
        · cases he
    · cases he
theorem ev_step_cont (hs : ev_sup F g) (he : ev_step g V dft I d mi pc ls st h = some r) : ∃ n, ev_step (F n) V dft I d mi pc ls st h = some r := by
  unfold ev_step at he
  split at he
  · next q e1 =>
    obtain ⟨n, k⟩ := hs.2 _ _ _ _ _ _ _ he
    refine ⟨n, ?_⟩
    unfold ev_step; (try rw [e1]); exact k
  · cases he
theorem ev_one_cont (hs : ev_sup F g) (he : ev_one g mt V dft ret hh ks code I d mi pc ls st h = some r) : ∃ n, ev_one (F n) mt V dft ret hh ks code I d mi pc ls st h = some r := by
  unfold ev_one at he ⊢
  split at he
  · exact ⟨0, he⟩
  · exact ev_call_cont hs he
  · split at he
    · next hy =>
      simp only [if_pos hy]
      split at he
      · next q e1 =>
        split at he
        · next h8 =>
          obtain ⟨n, k⟩ := hs.2 _ _ _ _ _ _ _ he
          exact ⟨n, by (try rw [e1]); (try dsimp only); (try rw [if_pos h8]); exact k⟩
        · cases he
      · cases he
    · next hy => simp only [if_neg hy]; exact ev_call_cont hs he
  · split at he
    · next hy =>
      simp only [if_pos hy]
      split at he
      · split at he
        · next h8 =>
          obtain ⟨n, k⟩ := hs.2 _ _ _ _ _ _ _ he
          exact ⟨n, by (try dsimp only); (try rw [if_pos h8]); exact k⟩
        · cases he
      · cases he
    · next hy => simp only [if_neg hy]; exact ev_call_cont hs he
  · split at he
    · next hz => exact ⟨0, by (try rw [if_pos hz]); exact he⟩
    · next hz => simp only [if_neg hz]; exact ev_step_cont hs he
  · exact ev_step_cont hs he
end EvL
def ev_body (f : ev_F) (mt : List ev_Q) (V : ev_V) (dft : Nat → List Value) : ev_F := fun d mi pc ls st h => match mt[mi]? with
  | none => none
  | some q => match ev_find q.2.2.2.2.2.2 pc with
    | none => none
    | some I => ev_one f mt V dft q.2.2.2.1 q.2.2.2.2.1 q.2.2.2.2.2.1 q.2.2.2.2.2.2 I d mi pc ls st h
theorem ev_succ (mt : List ev_Q) (V : ev_V) (dft : Nat → List Value) (n : Nat) : ev mt V dft (n + 1) = ev_body (ev mt V dft n) mt V dft := rfl
theorem ev_body_mono {f g : ev_F} {mt : List ev_Q} {V : ev_V} {dft : Nat → List Value} (hs : ev_sub f g) : ev_sub (ev_body f mt V dft) (ev_body g mt V dft) := by
  intro d mi pc ls st h r he
  unfold ev_body at he ⊢
  split at he
  · cases he
  · next q e1 =>
    (try rw [e1]); (try dsimp only)
    split at he
    · cases he
    · next I e2 => (try rw [e2]); exact ev_one_mono hs he
theorem ev_up (mt : List ev_Q) (V : ev_V) (dft : Nat → List Value) : ∀ n, ev_sub (ev mt V dft n) (ev mt V dft (n + 1)) := by
  intro n
  induction n with
  | zero => intro d mi pc ls st h r he; unfold ev at he; cases he
  | succ n ih => rw [ev_succ, ev_succ]; exact ev_body_mono ih
noncomputable def evL (mt : List ev_Q) (V : ev_V) (dft : Nat → List Value) : ev_F := fun d mi pc ls st h =>
  @dite _ (∃ r n, ev mt V dft n d mi pc ls st h = some r) (Classical.propDecidable _) (fun k => some (Classical.choose k)) (fun _ => none)
theorem evL_of {mt : List ev_Q} {V : ev_V} {dft : Nat → List Value} {d mi pc : Nat} {ls : ev_L} {st : List Value} {h : ev_H} {r : ev_O × ev_H} (he : evL mt V dft d mi pc ls st h = some r) : ∃ n, ev mt V dft n d mi pc ls st h = some r := by
  unfold evL at he
  split at he
  · next k =>
    have := Classical.choose_spec k
    cases he
    exact this
  · cases he
theorem evL_sup0 (mt : List ev_Q) (V : ev_V) (dft : Nat → List Value) : ev_sup (ev mt V dft) (evL mt V dft) := ⟨ev_up mt V dft, fun _ _ _ _ _ _ _ h => evL_of h⟩
theorem evL_eq {mt : List ev_Q} {V : ev_V} {dft : Nat → List Value} {n d mi pc : Nat} {ls : ev_L} {st : List Value} {h : ev_H} {r : ev_O × ev_H} (he : ev mt V dft n d mi pc ls st h = some r) : evL mt V dft d mi pc ls st h = some r := by
  have k : ∃ r n, ev mt V dft n d mi pc ls st h = some r := ⟨r, n, he⟩
  obtain ⟨n2, h2⟩ := Classical.choose_spec k
  have e1 := ev_sup_le (evL_sup0 mt V dft) (Nat.le_max_left n n2) _ _ _ _ _ _ _ he
  have e2 := ev_sup_le (evL_sup0 mt V dft) (Nat.le_max_right n n2) _ _ _ _ _ _ _ h2
  have e3 : r = Classical.choose k := Option.some.inj (e1.symm.trans e2)
  unfold evL
  rw [dif_pos k, e3]
theorem evL_fix (mt : List ev_Q) (V : ev_V) (dft : Nat → List Value) (d mi pc : Nat) (ls : ev_L) (st : List Value) (h : ev_H) : evL mt V dft d mi pc ls st h = ev_body (evL mt V dft) mt V dft d mi pc ls st h := by
  apply Option.ext
  intro r
  constructor
  · intro he
    obtain ⟨n, hn⟩ := evL_of he
    cases n with
    | zero => unfold ev at hn; cases hn
    | succ n =>
      rw [ev_succ] at hn
      exact ev_body_mono (fun d mi pc ls st h r k => evL_eq k) d mi pc ls st h r hn
  · intro he
    have he0 := he
    unfold ev_body at he
    split at he
    · cases he
    · next q e1 =>
      split at he
      · cases he
      · next I e2 =>
        obtain ⟨n, hn⟩ := ev_one_cont (evL_sup0 mt V dft) he
        refine evL_eq (n := n + 1) ?_
        rw [ev_succ]
        unfold ev_body
        (try rw [e1]); (try dsimp only)
        (try rw [e2]); exact hn
end
section
/-! An exception whose constructor calls the one above it by another entry than most do. -/
def eh_chain (X : String) (jx : Nat) (rx : ByteArray) (names : List String) : List Cond := match names with
  | [] => Bundle.passSAtoms X Bundle.tN jx rx
  | Y :: r => Bundle.passSAtoms X Y jx rx ++ Bundle.chainSAtoms Y r
/-- what is said of the thrown thing itself -/
def eh_rest (own : String) (ic : Nat) (X : String) : List Cond :=
  [.isRef (.static Bundle.tN "UNASSIGNED_STACK" Bundle.steD), .isRef (.static Bundle.tN "SUPPRESSED_SENTINEL" Bundle.listD), .fieldLink Bundle.tN 198 Bundle.tN "backtrace" "Ljava/lang/Object;", .lays Bundle.tN Bundle.tN "backtrace" "Ljava/lang/Object;",
   .methodLink own ic (Bundle.initS X), .instantiable X 6, .selects X Bundle.tFill0 Bundle.tFill0, .selects X Bundle.tFill Bundle.tFill] ++
  [("cause", "Ljava/lang/Throwable;"), ("stackTrace", Bundle.steD), ("suppressedExceptions", Bundle.listD), ("detailMessage", "Ljava/lang/String;"), ("backtrace", "Ljava/lang/Object;")].map (fun q => Cond.lays X Bundle.tN q.1 q.2)
def eh_own (own : String) (ic : Nat) (X : String) (jx : Nat) (rx : ByteArray) (names : List String) : List Cond := Bundle.throwableAtoms ++ (Bundle.throwableSAtoms ++ (eh_chain X jx rx names ++ eh_rest own ic X))
def eh_at (own : String) (ic : Nat) (X : String) (jx : Nat) (rx : ByteArray) (names : List String) : List Cond := (eh_own own ic X jx rx names).filter vx_no
theorem eh_chainS {args : Array Value} {s : State} {pl : Platform} (hpl : pl.magicAccessors = ({} : Platform).magicAccessors) {top : MethodId} (htop : s.methodNamed? (Bundle.initS Bundle.tN) = some top) {jx : Nat} {rx : ByteArray}
    (x0 : decode rx 0 = .ok (.aload_n 0, 1)) (x1 : decode rx 1 = .ok (.aload_n 1, 1)) (x2 : decode rx 2 = .ok (.invokespecial jx, 3)) (x5 : decode rx 5 = .ok (.return_, 1)) (names : List String) (X : String) (hX : Bundle.fit X = true) (hn : ∀ n ∈ names, Bundle.fit n = true) (h : ∀ c ∈ eh_chain X jx rx names, c.before args s = true) :
    ∃ (P1 : PassC) (Ps : List PassC), Ps.length = names.length ∧ P1.LinksS pl s ∧ (∀ P, P ∈ Ps → P.LinksS pl s) ∧ s.methodNamed? (Bundle.initS X) = some P1.m ∧ P1.sup = firstOf top (Ps.map (·.toPassT)) ∧ PassesOn top (Ps.map (·.toPassT)) := by
  have hp := (Bundle.fit_spec hX).1
  match names, hn, h with
  | [], _, h =>
    obtain ⟨P, L, hm, hs⟩ := PassC.ofS_atoms (args := args) (s := s) hpl (X := X) (Y := Bundle.tN) hp (by decide) x0 x1 x2 x5 h
    exact ⟨P, [], rfl, L, (fun _ k => by cases k), hm, Option.some.inj (hs.symm.trans htop), trivial⟩
  | Y :: r, hn, h =>
    have hY := hn Y List.mem_cons_self
    have h1 : ∀ c ∈ Bundle.passSAtoms X Y jx rx, c.before args s = true := fun c k => h c (List.mem_append_left _ k)
    have h2 : ∀ c ∈ Bundle.chainSAtoms Y r, c.before args s = true := fun c k => h c (List.mem_append_right _ k)
    obtain ⟨P, L, hm, hs⟩ := PassC.ofS_atoms (args := args) (s := s) hpl (X := X) (Y := Y) hp (Bundle.fit_spec hY).2 x0 x1 x2 x5 h1
    obtain ⟨P2, Ps, e1, e2, e3, e4, e5, e6⟩ := Bundle.chainS (args := args) hpl htop r Y hY (fun n k => hn n (List.mem_cons_of_mem _ k)) h2
    exact ⟨P, P2 :: Ps, by rw [List.length_cons, e1]; rfl, L, fun Q k => (List.mem_cons.mp k).elim (fun e => by rw [e]; exact e2) (e3 Q), hm, Option.some.inj (hs.symm.trans e4), e5, e6⟩
section EHK
variable {p : Program} {l : Launch} {e : Env} {R : Room} {s : State} {m₀ : MethodId} {args : Array Value} {below : List Frame} {meth : Method} {c : Code} {W : State} {locs : List Loc} {cells slots : Nat}
set_option maxHeartbeats 1000000 in
theorem eh_ctorMadeS (X : Stand p l e R s m₀ args below meth c W locs cells slots) (hexec : p.tables.exec = Jvm.exec) (htr : e.platform.stackTraces = false) {own cls : String} {names : List String} {ic jx : Nat} {rx : ByteArray} (x0 : decode rx 0 = .ok (.aload_n 0, 1)) (x1 : decode rx 1 = .ok (.aload_n 1, 1)) (x2 : decode rx 2 = .ok (.invokespecial jx, 3)) (x5 : decode rx 5 = .ok (.return_, 1))
    (hown : s.vm.findClass own = some m₀.cls) (hcls : Bundle.fit cls = true) (hnames : ∀ n ∈ names, Bundle.fit n = true)
    (h : ∀ a ∈ eh_own own ic cls jx rx names, a.before args s = true)
    (hlocs : ∀ x ∈ locs, ∀ cell, s.heap[x.base]? = some cell → cell.vm.isStatics = false)
    {a : Addr} {cX : ClassId} {kX : Class} (hfoundX : s.vm.findClass cls = some cX) (hkX : s.vm.classes[cX]? = some kX) (hcell : W.heap[a]? = some (freshCell cX kX)) (hnew : s.heap.size ≤ a)
    {msg : Value} (hmsg : msg.isRef = true)
    {g : JFrame} (hg : g.method = m₀) (hsize : g.locals.size = c.maxLocals) {rest : List Value} (hstack : g.stack = msg :: .ref a :: .ref a :: rest)
    (hd6 : decode c.code g.pc = .ok (.invokespecial ic, 3))
    (hRframes : names.length + 3 < R.frames) (hRlocals : 2 * g.monitorRoom + ((Value.ref a :: rest).map fun v => v.category).sum + (13 * (names.length + 1) + 42) ≤ R.locals) :
    ∃ (V : State) (ce : Cell) (L : List Loc), Stand p l e R s m₀ args below meth c (V.setCell a ce) (locs ++ L) cells slots ∧ (∀ y ∈ L, y.base = a) ∧ a < V.heap.size ∧ ce.cls = cX ∧ ce.vm = .none ∧
      ∀ target, Steps p.tables e below ((V.setCell a ce).setTop { g with stack := .ref a :: rest, pc := g.pc + 3 }) target → Steps p.tables e below (W.setTop g) target := by
  have howns : e.platform.frameOwnsMonitors = true := by rw [X.admits.platform]
  have hfin : e.platform.finalization = false := by rw [X.admits.platform]
  have hpl : e.platform.magicAccessors = ({} : Platform).magicAccessors := by rw [X.admits.platform]
  have a' : ∀ x, x ∈ eh_own own ic cls jx rx names → x.holds args s none s [] = true := fun x hx => h x hx
  obtain ⟨T, Z0, L, -, Y⟩ := ThrowableC.of_atoms (args := args) howns hfin hpl (fun x hx => h x (by simp [eh_own, eh_rest, hx]))
  obtain ⟨Z, M, LZ, LM, hnZ⟩ := Init0T.ofS_atoms (args := args) hpl L Y (fun x hx => h x (by simp [eh_own, eh_rest, hx]))
  obtain ⟨P1, Ps, hlen, L1, hL, hP1m, hlink1, hlink⟩ := eh_chainS (args := args) hpl hnZ x0 x1 x2 x5 names cls hcls hnames (fun x hx => h x (by simp [eh_own, eh_rest, hx]))
  have hfound : s.vm.findClass cls = some P1.m.cls := findClass_of_methodNamed hP1m
  cases Option.some.inj (hfoundX.symm.trans hfound)
  obtain ⟨c1, kX', hc1, hk, hord, -, -, hn6⟩ := Cond.instantiable_spec (a' (.instantiable cls 6) (by simp [eh_own, eh_rest]))
  cases Option.some.inj (hc1.symm.trans hfound)
  cases Option.some.inj (hkX.symm.trans hk)
  have hsel0 : selectMethod e.platform s.vm P1.m.cls T.fill0 = .method T.fill0 := by
    obtain ⟨c2, r2, m2, q1, q2, q3, q4, -⟩ := Cond.selects_spec (a' (.selects cls Bundle.tFill0 Bundle.tFill0) (by simp [eh_own, eh_rest]))
    cases Option.some.inj (q1.symm.trans hfound)
    cases Option.some.inj (q2.symm.trans (State.methodFound?_of_named Y.fill0 (by decide)))
    cases Option.some.inj (q3.symm.trans Y.fill0)
    rw [Launch.admits_selectMethod X.admits]; exact q4
  have hselF : selectMethod e.platform s.vm P1.m.cls T.fill = .method T.fill := by
    obtain ⟨c2, r2, m2, q1, q2, q3, q4, -⟩ := Cond.selects_spec (a' (.selects cls Bundle.tFill Bundle.tFill) (by simp [eh_own, eh_rest]))
    cases Option.some.inj (q1.symm.trans hfound)
    cases Option.some.inj (q2.symm.trans (State.methodFound?_of_named Y.fill (by decide)))
    cases Option.some.inj (q3.symm.trans Y.fill)
    rw [Launch.admits_selectMethod X.admits]; exact q4
  obtain ⟨cellS0, hcS0, hiss⟩ := Y.statics
  obtain ⟨u0, hu0⟩ := Cond.staticRefV Y.unassigned L.unassignedStatic L.statics hcS0 hiss (a' (.isRef (.static Bundle.tN "UNASSIGNED_STACK" Bundle.steD)) (by simp [eh_own, eh_rest]))
  obtain ⟨sen, hsen⟩ := Cond.staticRefV Y.sentinel L.sentinelStatic L.statics hcS0 hiss (a' (.isRef (.static Bundle.tN "SUPPRESSED_SENTINEL" Bundle.listD)) (by simp [eh_own, eh_rest]))
  obtain ⟨ci198, i198, fB, hk198, hg198, ha198, hsB, -, hnB, htB, hffB⟩ := Cond.ownField (t := .object "java/lang/Object") Y.found L.cls (by decide +kernel) (a' (.fieldLink Bundle.tN 198 Bundle.tN "backtrace" "Ljava/lang/Object;") (by simp [eh_own, eh_rest])) (a' (.lays Bundle.tN Bundle.tN "backtrace" "Ljava/lang/Object;") (by simp [eh_own, eh_rest])) e.platform hpl
  obtain ⟨cellS, hcS', heS, -, hkeep⟩ := X.same.2.2.2.2.2 T.aS cellS0 hcS0
  have hcellS : W.heap[T.aS]? = some cellS := hcS'
  have hout' : ∀ i, (⟨T.aS, i⟩ : Loc) ∉ locs := fun i hmem => by
    have := hlocs _ hmem cellS0 hcS0
    rw [hiss] at this; cases this
  have hknownS : cellS.vm ≠ .unknown := by
    rw [heS]; intro hu
    rw [show cellS0.vm = .unknown from hu] at hiss
    cases hiss
  have hneS : T.aS ≠ a := Nat.ne_of_lt (Nat.lt_of_lt_of_le (Array.getElem?_eq_some_iff.mp hcS0).1 hnew)
  obtain ⟨iM, hffM⟩ := Y.msg
  obtain ⟨tyC, dC, hdC, hdnC⟩ := Cond.laysAt hfound hk Y.cause (a' (.lays cls Bundle.tN "cause" "Ljava/lang/Throwable;") (by simp [eh_own, eh_rest]))
  obtain ⟨tyS, dS, hdS, hdnS⟩ := Cond.laysAt hfound hk Y.stack (a' (.lays cls Bundle.tN "stackTrace" Bundle.steD) (by simp [eh_own, eh_rest]))
  obtain ⟨tyP, dP, hdP, hdnP⟩ := Cond.laysAt hfound hk Y.supp (a' (.lays cls Bundle.tN "suppressedExceptions" Bundle.listD) (by simp [eh_own, eh_rest]))
  obtain ⟨tyM, dM, hdM, hdnM⟩ := Cond.laysAt hfound hk hffM (a' (.lays cls Bundle.tN "detailMessage" "Ljava/lang/String;") (by simp [eh_own, eh_rest]))
  obtain ⟨tyB, dB, hdB, hdnB⟩ := Cond.laysAt hfound hk hffB (a' (.lays cls Bundle.tN "backtrace" "Ljava/lang/Object;") (by simp [eh_own, eh_rest]))
  have bC := Cond.laysApart hdB hdC hdnB hdnC (by rw [hnB, Y.causeName]; decide)
  have bS := Cond.laysApart hdB hdS hdnB hdnS (by rw [hnB, Y.stackName]; decide)
  have bP := Cond.laysApart hdB hdP hdnB hdnP (by rw [hnB, Y.suppName]; decide)
  have hskip : SkipFacts T e.platform s (fun u => u) u0 ((preparedCellV T.toThrowableT (freshCell P1.m.cls kX) a u0 sen).withEntry W.cur) :=
    ⟨{ ci198 := ci198, i198 := i198, fBack := fB }, ⟨hk198, hg198, ha198, hsB⟩, by
      have := fresh_default (c := P1.m.cls) tyB
      rw [htB] at this
      simpa [preparedCellV, Cell.setSlot, Cell.withEntry, Array.getElem?_setIfInBounds, bC, bS, bP, bC.symm, bS.symm, bP.symm, defaultValue] using this, fun _ _ => rfl⟩
  obtain ⟨tm, methC, cdC, kC, vm₁, hnC, -, -, -, -, -, -, -, hW₁, st1⟩ := Steps.initColdS (tb := p.tables) (e := e) (below := below) (s := s) (U := W) X.here hexec X.warmed hpl hown (t := Bundle.initS cls) rfl rfl (Bundle.fit_spec hcls).2
    (a' (.methodLink own ic (Bundle.initS cls)) (by simp [eh_own, eh_rest])) (h (.instanceMethod (Bundle.initS cls)) (by cases names <;> simp [eh_own, eh_rest, eh_chain, Bundle.passSAtoms])) (bytes := rx) (maxL := 2) (h (.code (Bundle.initS cls) rx 2 none) (by cases names <;> simp [eh_own, eh_rest, eh_chain, Bundle.passSAtoms]))
    (f := g) hg (a := a) (msg := msg) (rest := .ref a :: rest) hstack hd6
  cases Option.some.inj (hnC.symm.trans hP1m)
  have X₁ := X.noted hW₁
  obtain ⟨vm₂, X₂, st2⟩ := X₁.ctorMessageOffV hexec (g := { g with stack := .ref a :: rest }) hg hsize T L Z LZ M LM (P1 :: Ps)
    (fun P hP => by rcases List.mem_cons.mp hP with rfl | hP; exact L1; exact hL P hP) ⟨hlink1, hlink⟩ (u0 := u0) (sen := sen) (self := a) hmsg (cell := freshCell P1.m.cls kX) (cellS := cellS)
    hcell (fun _ => by simp) (by simp) rfl rfl hsel0 hselF hcellS hneS hknownS (by rw [hkeep _ (hout' _)]; exact hu0) (by rw [hkeep _ (hout' _)]; exact hsen)
    (Takes.of_laid hk hord tyC (by rw [Y.causeType]; rfl)) (Takes.of_laid hk hord tyS (by rw [Y.stackType]; exact fits_refV_array _ u0)) (Takes.of_laid hk hord tyP (by rw [Y.suppType]; exact fits_refV_object _ sen))
    (Takes.of_laid hk hord tyM (by rw [Y.msgType]; exact fits_refV_object _ ⟨msg, hmsg⟩)) Y.objLocals hskip htr [] hd6
    (by simp only [List.length_cons, hlen]; omega) (by simp only [List.length_cons, hlen]; exact hRlocals)
  have hlt : a < ((W.setVm vm₁).setVm vm₂).heap.size := (Array.getElem?_eq_some_iff.mp hcell).1
  refine ⟨(W.setVm vm₁).setVm vm₂, _, _, X₂, fun y hy => ?_, hlt, rfl, rfl, fun target hwalk => st1 _ (fun acts => ?_)⟩
  · simp only [List.mem_cons, List.not_mem_nil, or_false] at hy
    rcases hy with rfl | rfl | rfl | rfl | rfl <;> rfl
  · rw [doInvoke_state]
    exact st2 _ hwalk
end EHK
section EHK3
variable {p : Program} {l : Launch} {e : Env} {R : Room} {s : State} {m : MethodId} {args : Array Value} {below : List Frame} {meth : Method} {c : Code} {H : Heap} {locs : List Loc} {cells slots : Nat} {Q : State → Prop}
variable {ls : Array Slot} {rest : List Value} {D : va_G} {cl : List vw_C} {tys : List (ClassId × FieldType)} {ws : va_W}
theorem eh_makeSW {cc : ByteArray} {pc : Nat} (hexec : p.tables.exec = Jvm.exec) (hb : c.code = cc) (hl : l.stackTraces = false) {own cls text : String} {names : List String} {ik is ic sa ci jx : Nat} {rx : ByteArray} (x0 : decode rx 0 = .ok (.aload_n 0, 1)) (x1 : decode rx 1 = .ok (.aload_n 1, 1)) (x2 : decode rx 2 = .ok (.invokespecial jx, 3)) (x5 : decode rx 5 = .ok (.return_, 1)) {A : Nat → Prop} {T0 : u_T}
    (hown : s.vm.findClass own = some m.cls) (hcls : Bundle.fit cls = true) (hnames : ∀ n ∈ names, Bundle.fit n = true)
    (hk : (Cond.classLink own ik cls).before args s = true) (hini : (Cond.initialized cls).before args s = true) (hstr : vk_R own is text sa s) (hat : ∀ w ∈ eh_at own ic cls jx rx names, w.before args s = true)
    (hgood : ∀ w ∈ Cond.classLink own ik cls :: Cond.initialized cls :: eh_at own ic cls jx rx names, vx_ot w = true)
    (hU : vx_Zq Bundle.tN "UNASSIGNED_STACK" Bundle.steD A s s.heap) (hN : vx_Zq Bundle.tN "SUPPRESSED_SENTINEL" Bundle.listD A s s.heap) (hS : va_S A s.heap H locs) (hsize : ls.size = c.maxLocals)
    (d0 : decode cc pc = .ok (.new ik, 3)) (d3 : decode cc (pc + 3) = .ok (.dup, 1)) (d4 : decode cc (pc + 4) = .ok (.ldc_w is, 3)) (d7 : decode cc (pc + 7) = .ok (.invokespecial ic, 3))
    (hK : va_K D cl tys s) (hP : va_P D cl ws H) (hD : va_D A ws) (hA : ∀ q, s.heap.size ≤ q → A q) (hc : cl[ci]? = some (cls, T0, 0))
    (hRframes : names.length + 3 < R.frames) (hRlocals : (rest.map fun v => v.category).sum + (13 * (names.length + 1) + 43) ≤ R.locals) (hRcells : cells + 1 ≤ R.cells) (hRslots : slots + 6 ≤ R.slots)
    (kk : ∀ (q : Nat) (H1 : Heap), va_P D cl (ws ++ [(q, .inr (ci, []))]) H1 → va_D A (ws ++ [(q, .inr (ci, []))]) → va_S A s.heap H1 locs → W p l e R s m args below meth c H1 locs (cells + 1) (slots + 6) Q (F0 m (pc + 10) ls (.ref q :: rest))) :
    W p l e R s m args below meth c H locs cells slots Q (F0 m pc ls rest) := by
  intro T hT X
  subst hT
  have htr : e.platform.stackTraces = false := (show e.platform.stackTraces = l.stackTraces by rw [X.admits.platform]).trans hl
  have Y := vx_rebase X (R' := { frames := R.frames, locals := R.locals, cells := 1, slots := 6 }) (Nat.le_refl _) (Nat.le_refl _) hRcells hRslots
  obtain ⟨s', hA'⟩ : ∃ z, z = (T.setVm s.vm).setFrames (.invoking m args :: below) := ⟨_, rfl⟩
  rw [← hA'] at Y
  have hvm : s'.vm = s.vm := by rw [hA']; rfl
  have hhp : s'.heap = T.heap := by rw [hA']; rfl
  have hW0 : s.WarmedH s'.vm := by rw [hvm]; exact State.WarmedH.refl s
  have hat' : ∀ w ∈ eh_at own ic cls jx rx names, w.before args s' = true := fun w hw => vx_ot_at hW0 hvm.symm (hgood w (List.mem_cons_of_mem _ (List.mem_cons_of_mem _ hw))) (hat w hw)
  have hk' : (Cond.classLink own ik cls).before args s' = true := vx_ot_at hW0 hvm.symm (hgood _ List.mem_cons_self) hk
  have hini' : (Cond.initialized cls).before args s' = true := vx_ot_at hW0 hvm.symm (hgood _ (List.mem_cons_of_mem _ List.mem_cons_self)) hini
  have hU' : vx_Zq Bundle.tN "UNASSIGNED_STACK" Bundle.steD A s' s'.heap := by rw [hhp]; exact vx_Zq.moved hW0.alike (hU.kept hS.2.1)
  have hN' : vx_Zq Bundle.tN "SUPPRESSED_SENTINEL" Bundle.listD A s' s'.heap := by rw [hhp]; exact vx_Zq.moved hW0.alike (hN.kept hS.2.1)
  have h : ∀ w ∈ eh_own own ic cls jx rx names, w.before args s' = true := vx_own hat' (vx_isRefq hU'.1) (vx_isRefq hN'.1) hU'.2.word hN'.2.word
  have hown' : s'.vm.findClass own = some m.cls := by rw [hvm]; exact hown
  have hins : (Cond.instantiable cls 6).before args s' = true := h _ (by simp [eh_own, eh_rest])
  obtain ⟨vm₁, cX, kX, hfX, hkX, -, -, X₁, st1⟩ := Y.newCold hexec (own := own) (C := cls) (index := ik) (n := 6) hown' hk' hins hini'
    (g := F0 m pc ls rest) rfl (by rw [hb]; exact d0) (Nat.le_refl _) (Nat.le_refl _)
  generalize hT1 : (T.setVm vm₁).pushCell { cls := cX, slots := kX.instanceTypes.map defaultValue, vm := .none } = T1 at X₁ st1
  have hcat : (Value.ref T.heap.size).category = 1 := rfl
  have hcellA : T1.heap[T.heap.size]? = some (freshCell cX kX) := by rw [← hT1]; exact State.heap_pushCell_size _ _
  have d3' : decode c.code (pc + 3) = .ok (.dup, 1) := by rw [hb]; exact d3
  have d4' : decode c.code (pc + 4) = .ok (.ldc_w is, 3) := by rw [hb]; exact d4
  have hstr' : vk_R own is text sa s' := vk_R.warm hW0 hstr
  obtain ⟨V, ce, L, Z, hL, hlt, hcl9, hvm9, st⟩ := eh_ctorMadeS X₁ hexec htr x0 x1 x2 x5 (own := own) (cls := cls) (names := names) (ic := ic) hown' hcls hnames h (fun x hx => nomatch hx) hfX hkX hcellA (by rw [hhp]; exact Nat.le_refl _) (msg := .ref sa) rfl
    (g := { method := m, pc := pc + 7, locals := ls, stack := .ref sa :: .ref T.heap.size :: .ref T.heap.size :: rest, locked := none }) rfl hsize (rest := rest) rfl
    (by rw [hb]; exact d7) hRframes (by simp only [List.map_cons, List.sum_cons, hcat]; omega)
  have Z0 := Stand.forget (locs := []) Z (fun y hy => by rw [hL y hy, hhp]; exact Nat.le_refl _)
  obtain ⟨f1, f2⟩ := vx_frame Z0.same
  rw [hhp] at f1 f2
  have hcid : ce.cls = D.1 ci := by
    rw [hcl9]
    have h1 := (hK.1 ci _ hc).2.1
    rw [hvm] at hfX
    exact Option.some.inj (hfX.symm.trans h1)
  have hh : (V.setCell T.heap.size ce).heap[T.heap.size]? = some ce := heapAt_setCell_self (s := V) ce hlt
  subst hA'
  have X5 := vx_back9 X Y Z0
  have X6 : Stand p l e R s m args below meth c (V.setCell T.heap.size ce) locs (cells + 1) (slots + 6) := { X5 with same := X5.same.mono (by omega) (by omega) }
  have hk9 : ∀ (k : Nat) (x : Nat × va_E), ws[k]? = some x → (V.setCell T.heap.size ce).heap[x.1]? = T.heap[x.1]? := fun k x hx => f2 x.1 ((hP k x hx).lt) (fun z hz => nomatch hz)
  obtain ⟨t, a1, b1⟩ := kk T.heap.size (V.setCell T.heap.size ce).heap ((hP.kept hk9).app (fun k x hx => by
      have hz : k < 1 := (List.getElem?_eq_some_iff.mp hx).1
      rw [show k = 0 by omega] at hx
      cases hx
      exact ⟨_, hc, ce, hh, hcid, hvm9, fun k hk => absurd hk (Nat.not_lt_zero k)⟩)) (hD.push hP rfl (hA _ hS.1)) ⟨Nat.le_trans hS.1 f1, fun q h1 h2 => (f2 q (Nat.lt_of_lt_of_le h1 hS.1) (fun z hz => nomatch hz)).trans (hS.2.1 q h1 h2), hS.2.2⟩ _ rfl X6
  refine ⟨t, st1 _ ?_, b1⟩
  show Steps p.tables e below (T1.setTop { method := m, pc := pc + 3, locals := ls, stack := .ref T.heap.size :: rest, locked := none }) _
  jvm_step X₁.here [X₁.here.top, hexec, d3', Value.category]
  exact X₁.ldcStringW hexec (own := own) (text := text) (index := is) (a := sa) hown' hstr'.1 hstr'.2
    (g := { method := m, pc := pc + 4, locals := ls, stack := .ref T.heap.size :: .ref T.heap.size :: rest, locked := none }) rfl d4' _ (st _ a1)
end EHK3
end
section
/-! The simulation, for methods that catch too: turned from parts 14 to 18. -/
/-- the word of a method's code -/
def eh_cw (q : ev_Q) : Cond := if q.2.2.2.2.1 = [] then Cond.code q.1 q.2.1 q.2.2.1 q.2.2.2.1 else Cond.codeWith q.1 q.2.1 q.2.2.1 q.2.2.2.1 q.2.2.2.2.1
/-- a table of handlers: row by row with what is caught; rows ahead name others -/
def eh_hk (cl : List vw_C) (Ts Bs : List Cond) (Ns : List (String × String)) (own : String) (hh : List (Nat × Nat × Nat × Nat)) (ks : List Nat) : Prop :=
  ∀ (j : Nat) (x : Nat × Nat × Nat × Nat) (k : Nat), hh[j]? = some x → ks[j]? = some k → x.2.2.2 ≠ 0 ∧ ∃ E T N, cl[k]? = some (E, T, N) ∧ Cond.classLink own x.2.2.2 E ∈ Ts ∧ Cond.castable E E ∈ Bs ∧ ∀ (k' : Nat) (E' : String) (T' : u_T) (N' : Nat), k' ∈ ks → k' ≠ k → cl[k']? = some (E', T', N') → (E', E) ∈ Ns
def eh_lnk (cl : List vw_C) (Ts Bs : List Cond) (mt : List ev_Q) (own : String) (I : ev_I) : Prop := (∀ q, mt[I.2.2.1]? = some q → 1 ≤ I.2.2.1 ∧ (q.2.2.2.2.1 = [] ∨ ∃ index, I.1 = .invokestatic index ∧ Cond.methodLink own index q.1 ∈ Ts)) ∧ ev_lnk cl Ts Bs mt own I
def eh_G (D : va_G) (cl : List vw_C) (aC : Nat → ClassId) (base : Nat) (ex : Nat → Nat) (V : ev_V) (Bs : List Cond) (Ss : List (String × Nat × String)) (Ns : List (String × String)) (U : State) : Prop := ev_G D cl aC base ex V Bs Ss U ∧ ∀ n ∈ Ns, va_Nc n.1 n.2 U
theorem eh_G.warm {D : va_G} {cl : List vw_C} {aC : Nat → ClassId} {base : Nat} {ex : Nat → Nat} {V : ev_V} {Bs : List Cond} {Ss : List (String × Nat × String)} {Ns : List (String × String)} {s U : State} (hbw : ∀ w ∈ Bs, ev_bw w = true) (hW : s.WarmedH U.vm) (h : eh_G D cl aC base ex V Bs Ss Ns s) : eh_G D cl aC base ex V Bs Ss Ns U := ⟨ev_G.warm hbw hW h.1, fun n hn => va_Nc.moved hW.alike (h.2 n hn)⟩
def eh_Pc (D : va_G) (cl : List vw_C) (aC : Nat → ClassId) (base : Nat) (ex : Nat → Nat) (V : ev_V) (Bs : List Cond) (Ss : List (String × Nat × String)) (Ns : List (String × String)) (as : List Value) (h : ev_H) : Array Value → State → Prop := fun a U =>
  a = (as.map (ev_tv (ev_ad base ex))).toArray ∧ ev_rel D cl aC base ex h U.heap ∧ eh_G D cl aC base ex V Bs Ss Ns U ∧ ev_X base ex V U U.heap
theorem eh_Pc_blind {D : va_G} {cl : List vw_C} {aC : Nat → ClassId} {base : Nat} {ex : Nat → Nat} {V : ev_V} {Bs : List Cond} {Ss : List (String × Nat × String)} {Ns : List (String × String)} {as : List Value} {h : ev_H} (hbw : ∀ w ∈ Bs, ev_bw w = true) : FrameBlind (eh_Pc D cl aC base ex V Bs Ss Ns as h) := by
  intro a U g mk ⟨h1, h2, h3, h4⟩
  exact ⟨h1, h2, eh_G.warm (U := U.calling g mk a) hbw (State.WarmedH.refl U) h3, ev_X.moved (U := U.calling g mk a) (Vm.Alike.refl U.vm) h4⟩
def eh_thrX (cl : List vw_C) (Ts Bs : List Cond) (Ss : List (String × Nat × String)) (own : String) (bytes : ByteArray) (pc : Nat) (I : ev_I) : Prop := ∃ cls T0 text is ic ik jx, ∃ (rx : ByteArray) (names : List String), cl[I.2.2.1]? = some (cls, T0, 0) ∧ I.1 = .new ik ∧ decode bytes (pc + 3) = .ok (.dup, 1) ∧ (decode bytes (pc + 4) = .ok (.ldc_w is, 3) ∧ decode bytes (pc + 7) = .ok (.invokespecial ic, 3) ∧ decode bytes (pc + 10) = .ok (.athrow, 1)) ∧ (decode rx 0 = .ok (.aload_n 0, 1) ∧ decode rx 1 = .ok (.aload_n 1, 1) ∧ decode rx 2 = .ok (.invokespecial jx, 3) ∧ decode rx 5 = .ok (.return_, 1)) ∧ Cond.classLink own ik cls ∈ Ts ∧ Cond.initialized cls ∈ Ts ∧ (own, is, text) ∈ Ss ∧ Bundle.fit cls = true ∧ (∀ n ∈ names, Bundle.fit n = true) ∧ names.length ≤ 3 ∧ (∀ w ∈ eh_at own ic cls jx rx names, w ∈ Ts ∨ w ∈ Bs) ∧ (∀ w ∈ Cond.classLink own ik cls :: Cond.initialized cls :: eh_at own ic cls jx rx names, vx_ot w = true)
def eh_mok (cl : List vw_C) (Ts Bs : List Cond) (Ss : List (String × Nat × String)) (Ns : List (String × String)) (dft : Nat → List Value) (mt : List ev_Q) (q : ev_Q) : Prop :=
  plainName q.1.cls = true ∧ eh_hk cl Ts Bs Ns q.1.cls q.2.2.2.2.1 q.2.2.2.2.2.1 ∧ q.2.2.1 ≤ 80 ∧ (q.1.cls ≠ "java/lang/invoke/MethodHandle" ∧ q.1.cls ≠ "java/lang/invoke/VarHandle") ∧
  ∀ pc I, ev_find q.2.2.2.2.2.2 pc = some I → decode q.2.1 pc = .ok (I.1, I.2.1) ∧ (I.2.1 = ev_len I.1 ∨ ev_isw I.1 = true) ∧
    (match ev_kd I.1 with
      | 0 => ev_site cl Ts Bs dft q.1.cls q.1.name I
      | 1 => True
      | 2 => eh_lnk cl Ts Bs mt q.1.cls I
      | 3 => if I.2.2.2.1 = 8 then (∃ index, I.1 = .invokestatic index ∧ Cond.methodLink q.1.cls index arraycopyName ∈ Ts ∧ Cond.native arraycopyName ∈ Ts ∧ Cond.static arraycopyName ∈ Ts ∧ Cond.initialized "java/lang/System" ∈ Ts) else eh_lnk cl Ts Bs mt q.1.cls I
      | 4 => if I.2.2.2.1 = 9 then (∃ index, I.1 = .invokespecial index ∧ Cond.methodLink q.1.cls index Lib.objectInit ∈ Ts ∧ Cond.instanceMethod Lib.objectInit ∈ Ts ∧ Cond.code Lib.objectInit ⟨#[0xb1]⟩ 1 none ∈ Ts) else eh_lnk cl Ts Bs mt q.1.cls I
      | _ => if I.2.2.2.2 = 1 then (ev_thr cl Ts Bs Ss q.1.cls q.2.1 pc I ∨ eh_thrX cl Ts Bs Ss q.1.cls q.2.1 pc I) else ev_site cl Ts Bs dft q.1.cls q.1.name I)

def eh_Fr (p : Program) (R : Room) (s : State) (m : MethodId) (args : Array Value) (meth : Method) (c : Code) (D : va_G) (cl : List vw_C) (aC : Nat → ClassId) (base : Nat) (ex : Nat → Nat) (V : ev_V) (Ts Bs : List Cond) (Ss : List (String × Nat × String)) (Ns : List (String × String)) (q : ev_Q) (d n0 s0 mc ms : Nat) (h' : ev_H) : Prop :=
  p.tables.exec = Jvm.exec ∧ c.code = q.2.1 ∧ c.maxLocals = q.2.2.1 ∧ s.vm.findClass q.1.cls = some m.cls ∧ (∀ w ∈ Ts, w.before args s = true) ∧ eh_G D cl aC base ex V Bs Ss Ns s ∧ ev_X base ex V s s.heap ∧
  meth.sig.returnType = q.2.2.2.1 ∧ meth.locks = false ∧ meth.name = q.1.name ∧ c.exceptionTable.toList = tableOf q.2.2.2.2.1 ∧ base + n0 = s.heap.size ∧ (d + 8 ≤ R.frames ∧ 100 * d + 200 ≤ R.locals) ∧ mc ≤ R.cells ∧ ms ≤ R.slots ∧ mc + n0 = h'.2.1 ∧ ms + s0 = h'.2.2 ∧ h'.2.1 ≤ ev_ext
def eh_Cl (l : Launch) (D : va_G) (cl : List vw_C) (aC : Nat → ClassId) (base : Nat) (ex : Nat → Nat) (V : ev_V) (Ts Bs : List Cond) (Ss : List (String × Nat × String)) (Ns : List (String × String)) (mt : List ev_Q) (f : ev_F) : Prop :=
  ∀ (d mi pc : Nat) (ls : ev_L) (st : List Value) (h : ev_H) (o : ev_O) (h' : ev_H) (q : ev_Q), mt[mi]? = some q → f d mi pc ls st h = some (o, h') → ∀ (p : Program) (e : Env) (R : Room) (s : State) (m : MethodId) (args : Array Value) (below : List Frame) (meth : Method) (c : Code) (n0 s0 mc ms : Nat), eh_Fr p R s m args meth c D cl aC base ex V Ts Bs Ss Ns q d n0 s0 mc ms h' →
    ev_Sim p l e R s m args below meth c (vx_MQ below (ev_Qc D cl aC base ex o h') (ev_XC D cl aC base ex o h') args s mc ms (fun a : Nat => base ≤ a)) D cl aC base ex q.2.2.1 n0 s0 (pc, ls, st, h)
section EvH
variable {l : Launch} {D : va_G} {cl : List vw_C} {aC : Nat → ClassId} {base : Nat} {ex : Nat → Nat} {V : ev_V} {Ts Bs : List Cond} {Ss : List (String × Nat × String)} {Ns : List (String × String)} {dft : Nat → List Value} {mt : List ev_Q} {f : ev_F}
theorem eh_meet (hf : eh_Cl l D cl aC base ex V Ts Bs Ss Ns mt f) {d x : Nat} {as : List Value} {h h1 : ev_H} {o : ev_O} {q : ev_Q} (hq : mt[x]? = some q) (hpl : plainName q.1.cls = true) (he : f d x 0 (ev_in q.2.2.1 as) [] h = some (o, h1)) (hlen : (ev_sl as).length ≤ q.2.2.1) (hle : ev_le h h1) (hext : h1.2.1 ≤ ev_ext) :
    vx_Met l q.1 (eh_cw q :: Ts) (ev_rm d (h1.2.1 - h.2.1) (h1.2.2 - h.2.2)) (eh_Pc D cl aC base ex V Bs Ss Ns as h) (ev_Qc D cl aC base ex o h1) (ev_XC D cl aC base ex o h1) (h1.2.1 - h.2.1) (h1.2.2 - h.2.2) (fun a : Nat => base ≤ a) := by
  have key : ∀ (p : Program) (e : Env) (s : State) (m : MethodId) (args : Array Value) (below : List Frame) (meth : Method) (c : Code) (s₁ : State), BodyLoose p l q.1 (headSpec (eh_cw q :: Ts) (ev_rm d (h1.2.1 - h.2.1) (h1.2.2 - h.2.2))) q.2.1 q.2.2.1 q.2.2.2.1 e s m args below meth c s₁ → c.maxLocals = q.2.2.1 → c.exceptionTable.toList = tableOf q.2.2.2.2.1 → eh_Pc D cl aC base ex V Bs Ss Ns as h args s →
      W p l e (headSpec (eh_cw q :: Ts) (ev_rm d (h1.2.1 - h.2.1) (h1.2.2 - h.2.2))).room s m args below meth c s.heap [] 0 0 (vx_MQ below (ev_Qc D cl aC base ex o h1) (ev_XC D cl aC base ex o h1) args s (h1.2.1 - h.2.1) (h1.2.2 - h.2.2) (fun a : Nat => base ≤ a)) (entryFrame m args q.2.2.1) := by
    intro p e s m args below meth c s₁ B hml htab hv
    obtain ⟨rfl, hrel, hG, hX⟩ := hv
    have hts0 := atoms_spec (ws := eh_cw q :: Ts) B.pre
    obtain ⟨e1, e2⟩ := ev_in_lr (ad := ev_ad base ex) hlen
    rw [lg_entry_eq]
    have hz := hrel.2.1
    have hc := hrel.2.2.1
    obtain ⟨l1, l2⟩ := hle
    exact hf d x 0 (ev_in q.2.2.1 as) [] h o h1 q hq he p e _ s m _ below meth c h.2.1 h.2.2 (h1.2.1 - h.2.1) (h1.2.2 - h.2.2)
      ⟨B.exec, B.bytes, hml, findClass_of_methodNamed B.named, fun w hw => hts0 w (List.mem_cons_of_mem _ hw), hG, hX, B.returns, B.notSynchronized, (name_of_methodNamed B.named B.method).1, htab, by rw [hc]; exact hz.symm, ⟨Nat.le_refl _, Nat.le_refl _⟩, Nat.le_refl _, Nat.le_refl _, by omega, by omega, hext⟩
      _ s.heap [] 0 0 e2 e1 hrel va_S.rf (by simp) (by simp)
  by_cases hh : q.2.2.2.2.1 = []
  · have hcw : eh_cw q = Cond.code q.1 q.2.1 q.2.2.1 q.2.2.2.1 := if_pos hh
    refine vx_ofW (cc := q.2.1) (maxL := q.2.2.1) (ret := q.2.2.2.1) hpl (by rw [hcw]) ?_
    intro p e s m args below meth c s₁ B hml htab hv
    exact key p e s m args below meth c s₁ B hml (by rw [hh, List.eq_nil_iff_forall_not_mem.mpr (fun x hx => htab x hx)]; rfl) hv
  · have hcw : eh_cw q = Cond.codeWith q.1 q.2.1 q.2.2.1 q.2.2.2.1 q.2.2.2.2.1 := if_neg hh
    refine vx_ofWH (cc := q.2.1) (maxL := q.2.2.1) (ret := q.2.2.2.1) (hh := q.2.2.2.2.1) hpl (by rw [hcw]) ?_
    intro p e s m args below meth c s₁ B hml hv
    exact key p e s m args below meth c s₁ B hml (vx_table (x := q.1) B (by rw [← hcw]; exact atoms_spec (ws := eh_cw q :: Ts) B.pre _ List.mem_cons_self)) hv
theorem eh_hd {hh : List (Nat × Nat × Nat × Nat)} : ∀ {ks : List Nat} {pc k t : Nat}, ev_hd hh ks pc k = some t → ∃ (j : Nat) (x : Nat × Nat × Nat × Nat), hh[j]? = some x ∧ ks[j]? = some k ∧ x.1 ≤ pc ∧ pc < x.2.1 ∧ x.2.2.1 = t ∧ ∀ (i : Nat) (y : Nat × Nat × Nat × Nat), i < j → hh[i]? = some y → ∃ k', ks[i]? = some k' ∧ ¬ (y.1 ≤ pc ∧ pc < y.2.1 ∧ k' = k) := by
  induction hh with
  | nil => intro ks pc k t h; unfold ev_hd at h; cases h
  | cons x r ih =>
    intro ks pc k t h
    obtain ⟨a, b, u, z⟩ := x
    cases ks with
    | nil => unfold ev_hd at h; cases h
    | cons c cs =>
      have h : (if a ≤ pc ∧ pc < b ∧ c = k then some u else ev_hd r cs pc k) = some t := h
      by_cases hc : a ≤ pc ∧ pc < b ∧ c = k
      · rw [if_pos hc] at h
        cases h
        exact ⟨0, _, rfl, by rw [hc.2.2]; rfl, hc.1, hc.2.1, rfl, fun i y hi => absurd hi (Nat.not_lt_zero i)⟩
      · rw [if_neg hc] at h
        obtain ⟨j, x, h1, h2, h3, h4, h5, h6⟩ := ih h
        refine ⟨j + 1, x, h1, h2, h3, h4, h5, fun i y hi hy => ?_⟩
        cases i with
        | zero => cases hy; exact ⟨c, rfl, hc⟩
        | succ i => exact h6 i y (Nat.lt_of_succ_lt_succ hi) hy
theorem eh_st0_lr {ad : Nat → Nat} {ls ls' : ev_L} {i : Nat} {v : Value} (he : ev_st0 ls i = some ls') : i < ls.length ∧ ls'.length = ls.length ∧ ∀ Ls', lv_has Ls' ls.length ((i, v) :: (ev_as ad ls).filter (fun q => !(q.1 == i) && !(q.1 + 1 == i && q.2.category == 2))) → ev_lr ad Ls' ls' := by
  unfold ev_st0 at he
  split at he
  · next hi =>
    cases he
    have hlen : ((ev_clr ls i).set i none).length = ls.length := by simp [ev_clr_len]
    refine ⟨hi, hlen, fun Ls' h => ?_⟩
    unfold ev_lr
    rw [hlen]
    refine ev_lv_sub h (fun q hq => ?_)
    obtain ⟨w, hw, e⟩ := ev_as_mem.mp hq
    by_cases hqi : i = q.1
    · rw [List.getElem?_set, if_pos hqi] at hw
      split at hw <;> cases hw
    · rw [List.getElem?_set, if_neg hqi] at hw
      obtain ⟨h1, h2⟩ := ev_clr_get hw
      refine List.mem_cons_of_mem _ (List.mem_filter.mpr ⟨ev_as_mem.mpr ⟨w, h1, e⟩, ?_⟩)
      rw [e, ev_cat]
      simp only [Bool.and_eq_true, Bool.not_eq_true', beq_eq_false_iff_ne, ne_eq, Bool.and_eq_false_iff]
      refine ⟨fun z => hqi z.symm, ?_⟩
      by_cases hz : q.1 + 1 = i
      · exact Or.inr (fun z => h2 ⟨hz, z⟩)
      · exact Or.inl hz
  · cases he

/-- behind any call: the method goes on, or the exception leaves it -/
theorem eh_goon (hbw : ∀ w ∈ Bs, ev_bw w = true) (hmt : ∀ (mi : Nat) (q : ev_Q), mt[mi]? = some q → eh_mok cl Ts Bs Ss Ns dft mt q) (hf : eh_Cl l D cl aC base ex V Ts Bs Ss Ns mt f) {d mi pc : Nat} {ls : ev_L} {rest : List Value} {h h1 h' : ev_H} {o1 o : ev_O} {q : ev_Q} (hq : mt[mi]? = some q) (hb0 : ev_back f q.2.2.2.2.1 q.2.2.2.2.2.1 q.2.2.2.2.2.2 d mi pc ls rest o1 h1 = some (o, h')) (hle1 : ev_le h1 h') (hle : ev_le h h1)
    {p : Program} {e : Env} {R : Room} {s : State} {m : MethodId} {args : Array Value} {below : List Frame} {meth : Method} {c : Code} {n0 s0 mc ms : Nat} (hFr : eh_Fr p R s m args meth c D cl aC base ex V Ts Bs Ss Ns q d n0 s0 mc ms h')
    {Ls : Array Slot} {H : Heap} {locs : List Loc} {cells slots : Nat} (hl : ev_lr (ev_ad base ex) Ls ls) (hn : ls.length = q.2.2.1) (hS : va_S (fun a : Nat => base ≤ a) s.heap H locs) (h1c : cells + n0 = h.2.1) (h2c : slots + s0 = h.2.2) {st0 : List Value} {a9 : Array Value}
    (hr : vx_Run p l e R s m args below meth c H locs cells slots (h1.2.1 - h.2.1) (h1.2.2 - h.2.2) (F0 m pc Ls st0) (rest.map (ev_tv (ev_ad base ex))) (ev_Qc D cl aC base ex o1 h1 a9) (ev_XC D cl aC base ex o1 h1) (fun a : Nat => base ≤ a)) :
    W p l e R s m args below meth c H locs cells slots (vx_MQ below (ev_Qc D cl aC base ex o h') (ev_XC D cl aC base ex o h') args s mc ms (fun a : Nat => base ≤ a)) (F0 m pc Ls st0) := by
  obtain ⟨l1, l2⟩ := hle
  refine ev_after hr hS.2.2 (fun v' st₀ t locs1 h0 hqc hlo => ?_) (fun E st₀ t locs1 q9 ce h0 hxc hlo g1 g2 g3 => ?_)
  · obtain ⟨⟨v, ho, hoc⟩, hrel, hF⟩ := hqc
    subst ho
    cases hoc
    have hS1 := ev_F1 hS h0 hF hlo
    have K := hf d mi (pc + 3) ls (v.toList ++ rest) h1 o h' q hq hb0 p e R s m args below meth c n0 s0 mc ms hFr Ls t.heap locs1 (cells + (h1.2.1 - h.2.1)) (slots + (h1.2.2 - h.2.2)) hl hn hrel hS1 (by show cells + _ + n0 = h1.2.1; omega) (by show slots + _ + s0 = h1.2.2; omega)
    have e9 : (v.toList ++ rest).map (ev_tv (ev_ad base ex)) = (v.map (ev_tv (ev_ad base ex))).toList ++ rest.map (ev_tv (ev_ad base ex)) := by
      cases v <;> simp
    dsimp only at K
    rw [e9] at K
    exact K
  · obtain ⟨⟨k, T, N, ho, hcl⟩, hrel, hF⟩ := hxc
    subst ho
    have hS1 := ev_F1 hS h0 hF hlo
    have hFr0 := hFr
    obtain ⟨hx, hb, hml, hown, hts, hG, hX, hret, hlocks, hname, htab, hbn, hroom, hgc, hgs, q1, q2, q3⟩ := hFr
    have hb1 : (match ev_hd q.2.2.2.2.1 q.2.2.2.2.2.1 pc k with
      | none => if q.2.2.2.2.1.isEmpty then some (.inr k, h1) else none
      | some t => match ev_caught (ev_find q.2.2.2.2.2.2 t) t ls with
        | none => none
        | some z => f d mi z.1 z.2 [] h1) = some (o, h') := hb0
    split at hb1
    · next hd =>
      split at hb1
      · next hemp =>
        cases hb1
        have htab0 : ∀ x ∈ c.exceptionTable.toList, False := by
          intro x hx9
          rw [htab, List.isEmpty_iff.mp hemp] at hx9
          cases hx9
        exact vx_out (fun x hx => absurd (htab0 x hx) id) hlocks g1 g2 g3 (fun t' ht' _ => ⟨⟨k, T, N, rfl, hcl⟩, by rw [ht']; exact hrel, hS1.F ht'⟩) hlo (by omega) (by omega)
      · cases hb1
    · next tg hd =>
      obtain ⟨j, x, x1, x2, x3, x4, x5, x6⟩ := eh_hd hd
      obtain ⟨n1, n2, n3, n4, n5⟩ := hmt mi q hq
      obtain ⟨y0, E9, T9, N9, y1, y2, y3, y4⟩ := n2 j x k x1 x2
      cases hcl.symm.trans y1
      have hsp : c.exceptionTable.toList = tableOf (q.2.2.2.2.1.take j) ++ ⟨x.1, x.2.1, x.2.2.1, x.2.2.2⟩ :: tableOf (q.2.2.2.2.1.drop (j + 1)) := by
        have hj := (List.getElem?_eq_some_iff.mp x1)
        obtain ⟨hj1, hj2⟩ := hj
        rw [htab]
        conv => lhs; rw [← List.take_append_drop j q.2.2.2.2.1, List.drop_eq_getElem_cons hj1, hj2]
        unfold tableOf
        rw [List.map_append, List.map_cons]
      have hcov : ∀ y : Nat × Nat × Nat × Nat, covers ⟨y.1, y.2.1, y.2.2.1, y.2.2.2⟩ pc = true ↔ (y.1 ≤ pc ∧ pc < y.2.1) := by
        intro y
        simp [covers]
      refine vx_catch (own := q.1.cls) (name := E) (E := E) (ce := ce) hown _ _ _ hsp (fun z hz => ?_) ((hcov x).mpr ⟨x3, x4⟩) y0 (hts _ y2) (va_Nw.use rfl (hG.1.1 _ y3)) g1 g2 g3 ?_
      · unfold tableOf at hz
        obtain ⟨y, hy, rfl⟩ := List.mem_map.mp hz
        obtain ⟨i, hi⟩ := List.getElem?_of_mem hy
        have hij : i < j := by
          have := (List.getElem?_eq_some_iff.mp hi).1
          rw [List.length_take] at this
          omega
        rw [List.getElem?_take_of_lt hij] at hi
        obtain ⟨k2, hk2, hno⟩ := x6 i y hij hi
        by_cases hc9 : y.1 ≤ pc ∧ pc < y.2.1
        · have hkk : k2 ≠ k := fun e => hno ⟨hc9.1, hc9.2, e⟩
          obtain ⟨w0, E2, T2, N2, w1, w2, w3, w4⟩ := n2 i y k2 hi hk2
          refine Or.inr ⟨w0, E2, hts _ w2, ?_⟩
          exact hG.2 (E, E2) (w4 k E T N (List.mem_of_getElem? x2) (Ne.symm hkk) hcl)
        · refine Or.inl ?_
          cases hcv9 : covers ⟨y.1, y.2.1, y.2.2.1, y.2.2.2⟩ pc with
          | false => rfl
          | true => exact absurd ((hcov y).mp hcv9) hc9
      · show W p l e R s m args below meth c t.heap locs1 (cells + (h1.2.1 - h.2.1)) (slots + (h1.2.2 - h.2.2)) _ (F0 m x.2.2.1 Ls [.ref q9])
        rw [x5]
        split at hb1
        · cases hb1
        · next z hz =>
          have stp : ∀ (pc9 : Nat) (ls9 : ev_L) (Ls9 : Array Slot), f d mi pc9 ls9 [] h1 = some (o, h') → ls9.length = q.2.2.1 → ev_lr (ev_ad base ex) Ls9 ls9 → W p l e R s m args below meth c t.heap locs1 (cells + (h1.2.1 - h.2.1)) (slots + (h1.2.2 - h.2.2)) (vx_MQ below (ev_Qc D cl aC base ex o h') (ev_XC D cl aC base ex o h') args s mc ms (fun a : Nat => base ≤ a)) (F0 m pc9 Ls9 []) := by
            intro pc9 ls9 Ls9 hf9 hn9 hl9
            exact hf d mi pc9 ls9 [] h1 o h' q hq hf9 p e R s m args below meth c n0 s0 mc ms hFr0 Ls9 t.heap locs1 _ _ hl9 hn9 hrel hS1 (by show cells + _ + n0 = h1.2.1; omega) (by show slots + _ + s0 = h1.2.2; omega)
          unfold ev_caught at hz
          split at hz
          · next kk w9 hI =>
            obtain ⟨l9, hl9, e9⟩ := Option.map_eq_some_iff.mp hz
            cases e9
            obtain ⟨r1, r2, r3⟩ := eh_st0_lr (ad := ev_ad base ex) (v := .ref q9) hl9
            have hdg := (n5 tg _ hI)
            exact lv_astore_n hx hb (by rw [hdg.1, hdg.2.1.resolve_right (by simp [ev_isw])]; rfl) rfl hl r1 rfl (fun Ls' hl2 => stp _ _ Ls' hb1 (r2.trans hn) (r3 Ls' hl2))
          · next kk w9 hI =>
            obtain ⟨l9, hl9, e9⟩ := Option.map_eq_some_iff.mp hz
            cases e9
            obtain ⟨r1, r2, r3⟩ := eh_st0_lr (ad := ev_ad base ex) (v := .ref q9) hl9
            have hdg := (n5 tg _ hI)
            exact lv_astore hx hb (by rw [hdg.1, hdg.2.1.resolve_right (by simp [ev_isw])]; rfl) hl r1 rfl (fun Ls' hl2 => stp _ _ Ls' hb1 (r2.trans hn) (r3 Ls' hl2))
          · cases hz

theorem eh_pre (hbw : ∀ w ∈ Bs, ev_bw w = true) (hex : ∀ k, ex k < base) {s : State} (hX1 : base ≤ s.heap.size) (hG : eh_G D cl aC base ex V Bs Ss Ns s) (hX : ev_X base ex V s s.heap) {h : ev_H} {H : Heap} {locs : List Loc} (hh : ev_rel D cl aC base ex h H) (hS : va_S (fun a : Nat => base ≤ a) s.heap H locs) (as : List Value) (U : State) (hU : U.heap = H) (hW : s.WarmedH U.vm) : eh_Pc D cl aC base ex V Bs Ss Ns as h (as.map (ev_tv (ev_ad base ex))).toArray U := by
  subst hU
  exact ⟨rfl, hh, eh_G.warm hbw hW hG, ev_X.moved hW.alike (ev_X.kept hex hX1 hS hX)⟩
end EvH

section EvI
variable {l : Launch} {D : va_G} {cl : List vw_C} {aC : Nat → ClassId} {base : Nat} {ex : Nat → Nat} {V : ev_V} {Ts Bs : List Cond} {Ss : List (String × Nat × String)} {Ns : List (String × String)} {dft : Nat → List Value} {mt : List ev_Q} {f : ev_F}
theorem eh_cwSW {R : Room} {s : State} {args : Array Value} {own : String} {index maxL mc ms : Nat} {y : MethodName} {bytes : ByteArray} {ret : Option FieldType} {hh : List (Nat × Nat × Nat × Nat)} {Ts ws ws' : List Cond} {rm : Room} (n : Nat) (ht : ∀ w ∈ Ts, w.before args s = true) (hT : GoodIn Ts ws) (hw : ws = Cond.codeWith y bytes maxL ret hh :: ws') (hrc : rm.cells = mc) (hrs : rm.slots = ms)
    (hi : (Cond.initialized y.cls).before args s = true) (hl : (Cond.methodLink own index y).before args s = true) (hst : (Cond.static y).before args s = true) (hd : y.cls ≠ "java/lang/invoke/MethodHandle" ∧ y.cls ≠ "java/lang/invoke/VarHandle" ∧ (parseMethodDescriptor y.desc).map (fun d => d.parameters.length) = some n) (hR : rm.frames + 1 ≤ R.frames ∧ 8 + (maxL + 11) + rm.locals ≤ R.locals) :
    vx_CSW R s args own index y bytes maxL ret hh ws rm mc ms n := by
  have hc : Cond.codeWith y bytes maxL ret hh ∈ ws := by rw [hw]; exact List.mem_cons_self
  refine ⟨⟨hrc, hrs, hR.1, hR.2, pay_in ht hT, hc⟩, ht _ (hT _ hc).1, hi, ⟨hd.1, hd.2.1⟩, fun sig h => ?_, hl, hst⟩
  have h2 := hd.2.2
  rw [h] at h2
  exact (Option.some.inj h2).symm
theorem eh_call_sim (hfm : ev_fle f) (hf : eh_Cl l D cl aC base ex V Ts Bs Ss Ns mt f) (hgood : ∀ w ∈ Ts, goodWord w = true) (hbw : ∀ w ∈ Bs, ev_bw w = true) (hex : ∀ k, ex k < base) (hmt : ∀ (mi : Nat) (q : ev_Q), mt[mi]? = some q → eh_mok cl Ts Bs Ss Ns dft mt q) (hcw : ∀ (mi : Nat) (q : ev_Q), mt[mi]? = some q → 1 ≤ mi → eh_cw q ∈ Ts)
    {sp d mi pc len x y z : Nat} {i : Instr} {ls : ev_L} {st : List Value} {h h' : ev_H} {o : ev_O} {q : ev_Q} (hq : mt[mi]? = some q) (he : ev_call f mt q.2.2.2.2.1 q.2.2.2.2.2.1 q.2.2.2.2.2.2 sp d mi pc x y z ls st h = some (o, h')) (hdg : decode q.2.1 pc = .ok (i, len)) (hlen : len = ev_len i) (hk : (sp = 1 ∧ ∃ k, i = .invokevirtual k) ∨ (sp = 0 ∧ ∃ k, i = .invokestatic k) ∨ (sp = 2 ∧ ∃ k, i = .invokespecial k)) (hlk0 : eh_lnk cl Ts Bs mt q.1.cls (i, len, x, y, z))
    {p : Program} {e : Env} {R : Room} {s : State} {m : MethodId} {args : Array Value} {below : List Frame} {meth : Method} {c : Code} {n0 s0 mc ms : Nat} (hFr : eh_Fr p R s m args meth c D cl aC base ex V Ts Bs Ss Ns q d n0 s0 mc ms h') :
    ev_Sim p l e R s m args below meth c (vx_MQ below (ev_Qc D cl aC base ex o h') (ev_XC D cl aC base ex o h') args s mc ms (fun a : Nat => base ≤ a)) D cl aC base ex q.2.2.1 n0 s0 (pc, ls, st, h) := by
  intro Ls H locs cells slots hl hn hh hS h1c h2c
  dsimp only at hl hn hh h1c h2c ⊢
  unfold ev_call at he
  split at he
  · cases he
  · next q' hq' =>
    split at he
    · next hcond =>
      obtain ⟨c1, c2, c3, c4⟩ := hcond
      cases d with
      | zero => cases he
      | succ d =>
        dsimp only at he
        split at he
        · next r hr =>
          obtain ⟨o1, h1⟩ := r
          have hle := hfm _ _ _ _ _ _ _ _ hr
          have hle1 := ev_back_le hfm he
          obtain ⟨m1, m2, m4, m5, m6⟩ := hmt x q' hq'
          have hlk' := hlk0.2 q' hq'
          obtain ⟨hx1, hhe⟩ := hlk0.1 q' hq'
          have m3 := hcw x q' hq' hx1
          have hFr0 := hFr
          obtain ⟨hx, hb, hml, hown, hts, hG, hX, hret, hlocks, hname, htab, hbn, hroom, g1, g2, g3, g4, g5⟩ := hFr
          have hX1 : base ≤ s.heap.size := by omega
          have hM := eh_meet (D := D) (aC := aC) (base := base) (ex := ex) hf hq' m1 hr c3 hle (Nat.le_trans hle1.1 g5)
          have hGd := ev_good hgood m3
          have hR : (ev_rm d (h1.2.1 - h.2.1) (h1.2.2 - h.2.2)).frames + 1 ≤ R.frames ∧ 8 + (q'.2.2.1 + 11) + (ev_rm d (h1.2.1 - h.2.1) (h1.2.2 - h.2.2)).locals ≤ R.locals := by
            constructor
            · show d + 8 + 1 ≤ R.frames; omega
            · show 8 + (q'.2.2.1 + 11) + (100 * d + 200) ≤ R.locals; omega
          obtain ⟨l1, l2⟩ := hle
          obtain ⟨k1, k2⟩ := hle1
          dsimp only at k1 k2 l1 l2
          have hfit : cells + (h1.2.1 - h.2.1) ≤ R.cells ∧ slots + (h1.2.2 - h.2.2) ≤ R.slots := by omega
          have hsz : (F0 m pc Ls (st.map (ev_tv (ev_ad base ex)))).locals.size = q.2.2.1 := by
            show Ls.size = _
            rw [← hn]; exact hl.1
          have hW8 : 2 * (F0 m pc Ls (st.map (ev_tv (ev_ad base ex)))).monitorRoom + (((st.drop z).map (ev_tv (ev_ad base ex))).map fun v => v.category).sum ≤ 8 := by
            refine lv_room ?_
            rw [List.map_map]
            have e1 : ((fun v : Value => v.category) ∘ ev_tv (ev_ad base ex)) = fun v => v.category := by funext v; exact ev_cat _ v
            rw [e1]
            exact c2
          have hst := ev_split c1
          have hdg3 : decode q.2.1 pc = .ok (i, 3) := by
            rcases hk with ⟨-, k, rfl⟩ | ⟨-, k, rfl⟩ | ⟨-, k, rfl⟩ <;> (rw [hdg, hlen]; rfl)
          generalize has : (st.take z).reverse = as at hr c3 c4 hM hst
          generalize hre : st.drop z = rest at he c2 hW8 hst
          have hasl : as.length = z := by rw [← has]; simp; omega
          have hmap : st.map (ev_tv (ev_ad base ex)) = (as.map (ev_tv (ev_ad base ex))).reverse ++ rest.map (ev_tv (ev_ad base ex)) := by
            rw [hst, List.map_append, List.map_reverse]
          have hS0 : CallFix p m c q.2.1 q.2.2.1 s args Ts q.1.cls := ⟨hx, hb, hml, hown, hts⟩
          rcases hk with ⟨rfl, k, rfl⟩ | ⟨rfl, k, rfl⟩ | ⟨rfl, k, rfl⟩
          · -- virtual
            obtain ⟨⟨T, N, hcl⟩, w1, w2, w3, w4, w5, w6⟩ := hlk'
            obtain ⟨a, as', fs, rfl, hfs⟩ := ev_rc1 c4
            have hcc : eh_cw q' = Cond.code q'.1 q'.2.1 q'.2.2.1 q'.2.2.2.1 := if_pos (hhe.resolve_right (fun ⟨_, e9, _⟩ => by cases e9))
            rw [hcc] at hM hGd
            refine eh_goon hbw hmt hf hq he ⟨k1, k2⟩ ⟨l1, l2⟩ hFr0 hl hn hS h1c h2c (a9 := (Value.ref (ev_ad base ex a) :: as'.map (ev_tv (ev_ad base ex))).toArray) ?_
            refine vx_runV (C := q'.1.cls) (As := as'.map (ev_tv (ev_ad base ex))) (b := ev_ad base ex a) hS0 hM ⟨callB_of (z - 1) hts hGd rfl rfl rfl (hts _ w3) (hts _ w4) ⟨m5.1, m5.2, w6⟩ hR, hts _ w1, hts _ w2⟩ ⟨eh_Pc_blind hbw, ev_recv hG.1.2.2.1 hh hcl hfs, fun U hU hW => ?_⟩ rfl (by simp only [List.length_map]; simp at hasl; omega) hsz ?_ hW8 hdg3 hfit
            · exact eh_pre hbw hex hX1 hG hX hh hS (.ref a :: as') U hU hW
            · show st.map (ev_tv (ev_ad base ex)) = _
              rw [hmap]
              simp [ev_tv]
          · -- static
            obtain ⟨w1, w2, w3, w4⟩ := hlk'
            refine eh_goon hbw hmt hf hq he ⟨k1, k2⟩ ⟨l1, l2⟩ hFr0 hl hn hS h1c h2c (a9 := (as.map (ev_tv (ev_ad base ex))).toArray) ?_
            by_cases hh9 : q'.2.2.2.2.1 = []
            · have hcc : eh_cw q' = Cond.code q'.1 q'.2.1 q'.2.2.1 q'.2.2.2.1 := if_pos hh9
              rw [hcc] at hM hGd
              rcases w3 with w3 | ⟨host, w3⟩
              · exact vx_runS (As := as.map (ev_tv (ev_ad base ex))) hS0 hM ⟨callB_of z hts hGd rfl rfl rfl (hts _ w2) (hts _ w3) ⟨m5.1, m5.2, w4⟩ hR, hts _ w1⟩ ⟨eh_Pc_blind hbw, fun U hU hW => eh_pre hbw hex hX1 hG hX hh hS as U hU hW⟩ rfl (by rw [List.length_map]; exact hasl) hsz hmap hW8 hdg3 hfit
              · exact vx_runSN (As := as.map (ev_tv (ev_ad base ex))) hS0 hM ⟨va_cnB z hts hGd rfl rfl rfl (hG.1.1 _ w3) (hts _ w2) ⟨m5.1, m5.2, w4⟩ hR, hts _ w1, trivial⟩ ⟨eh_Pc_blind hbw, fun U hU hW => eh_pre hbw hex hX1 hG hX hh hS as U hU hW⟩ rfl (by rw [List.length_map]; exact hasl) hsz hmap hW8 hdg3 hfit
            · have hcc : eh_cw q' = Cond.codeWith q'.1 q'.2.1 q'.2.2.1 q'.2.2.2.1 q'.2.2.2.2.1 := if_neg hh9
              rw [hcc] at hM hGd
              obtain ⟨k9, e9, w3⟩ := hhe.resolve_left hh9
              cases e9
              exact vx_runSX (As := as.map (ev_tv (ev_ad base ex))) hS0 hM (eh_cwSW z hts hGd rfl rfl rfl (hts _ w2) (hts _ w3) (hts _ w1) ⟨m5.1, m5.2, w4⟩ hR) ⟨eh_Pc_blind hbw, fun U hU hW => eh_pre hbw hex hX1 hG hX hh hS as U hU hW⟩ rfl (by rw [List.length_map]; exact hasl) hsz hmap hW8 hdg3 hfit
          · -- special
            obtain ⟨w0, wr, w1, w2, w3, w5, w6⟩ := hlk'
            obtain ⟨a, as', rfl⟩ := ev_rc2 c4
            have hcc : eh_cw q' = Cond.code q'.1 q'.2.1 q'.2.2.1 q'.2.2.2.1 := if_pos (hhe.resolve_right (fun ⟨_, e9, _⟩ => by cases e9))
            rw [hcc] at hM hGd
            refine eh_goon hbw hmt hf hq he ⟨k1, k2⟩ ⟨l1, l2⟩ hFr0 hl hn hS h1c h2c (a9 := (Value.ref (ev_ad base ex a) :: as'.map (ev_tv (ev_ad base ex))).toArray) ?_
            rw [wr] at hM hGd
            have hstk : (F0 m pc Ls (st.map (ev_tv (ev_ad base ex)))).stack = (as'.map (ev_tv (ev_ad base ex))).reverse ++ .ref (ev_ad base ex a) :: rest.map (ev_tv (ev_ad base ex)) := by
              show st.map (ev_tv (ev_ad base ex)) = _
              rw [hmap]
              simp [ev_tv]
            have hlen9 : (as'.map (ev_tv (ev_ad base ex))).length = z - 1 := by simp only [List.length_map]; simp at hasl; omega
            rcases w3 with w3 | ⟨host, w3⟩
            · exact vx_runI (As := as'.map (ev_tv (ev_ad base ex))) (b := ev_ad base ex a) hS0 hM ⟨callB_of (z - 1) hts hGd rfl rfl rfl (hts _ w2) (hts _ w3) ⟨m5.1, m5.2, w6⟩ hR, w0, hts _ w1⟩ ⟨eh_Pc_blind hbw, fun U hU hW => eh_pre hbw hex hX1 hG hX hh hS (.ref a :: as') U hU hW⟩ rfl hlen9 hsz hstk hW8 hdg3 hfit
            · exact vx_runIN (As := as'.map (ev_tv (ev_ad base ex))) (b := ev_ad base ex a) hS0 hM ⟨va_cnB (z - 1) hts hGd rfl rfl rfl (hG.1.1 _ w3) (hts _ w2) ⟨m5.1, m5.2, w6⟩ hR, w0, hts _ w1⟩ ⟨eh_Pc_blind hbw, fun U hU hW => eh_pre hbw hex hX1 hG hX hh hS (.ref a :: as') U hU hW⟩ rfl hlen9 hsz hstk hW8 hdg3 hfit
        · cases he
    · cases he
end EvI

section EvJ
variable {l : Launch} {D : va_G} {cl : List vw_C} {aC : Nat → ClassId} {base : Nat} {ex : Nat → Nat} {V : ev_V} {Ts Bs : List Cond} {Ss : List (String × Nat × String)} {Ns : List (String × String)} {dft : Nat → List Value} {mt : List ev_Q} {f : ev_F}
theorem eh_ret_sim {d mi pc len : Nat} {i : Instr} {ls : ev_L} {st : List Value} {h : ev_H} {v : Option Value} {q : ev_Q} (he : ev_ret i q.2.2.2.1 st = some v) (hdg : decode q.2.1 pc = .ok (i, len)) (hlen : len = ev_len i)
    {p : Program} {e : Env} {R : Room} {s : State} {m : MethodId} {args : Array Value} {below : List Frame} {meth : Method} {c : Code} {n0 s0 mc ms : Nat} (hFr : eh_Fr p R s m args meth c D cl aC base ex V Ts Bs Ss Ns q d n0 s0 mc ms h) :
    ev_Sim p l e R s m args below meth c (vx_MQ below (ev_Qc D cl aC base ex (.inl v) h) (ev_XC D cl aC base ex (.inl v) h) args s mc ms (fun a : Nat => base ≤ a)) D cl aC base ex q.2.2.1 n0 s0 (pc, ls, st, h) := by
  intro Ls H locs cells slots hl hn hh hS h1c h2c
  dsimp only at hl hn hh h1c h2c ⊢
  obtain ⟨hx, hb, hml, hown, hts, hG, hX, hret, hlocks, hname, htab, hbn, hroom, g1, g2, g3, g4, g5⟩ := hFr
  have hcm : cells = mc := by omega
  have hsm : slots = ms := by omega
  subst hcm; subst hsm
  have fin : ∀ (v : Option Value) (t : State), t.heap = H → ev_Qc D cl aC base ex (.inl v) h args s (.returned (v.map (ev_tv (ev_ad base ex)))) t := fun v t ht => ⟨⟨v, rfl, rfl⟩, by rw [ht]; exact hh, hS.F ht⟩
  unfold ev_ret at he
  split at he
  · split at he
    · next w =>
      split at he
      · next hw =>
        cases he
        obtain ⟨ty, e1, e2⟩ := ev_nar_of hw
        exact vx_ret (W.zret hx hb (hret.trans e1) e2 (fun t ht _ => fin _ t ht) hS.2.2 (by rw [hdg, hlen]; rfl) hlocks)
      · cases he
    · cases he
  · split at he
    · next w =>
      split at he
      · next hw =>
        cases he
        exact vx_ret (W.lret hx hb (hret.trans hw) (fun t ht _ => fin _ t ht) hS.2.2 (by rw [hdg, hlen]; rfl) hlocks)
      · cases he
    · cases he
  · split at he
    · next w =>
      split at he
      · next hw =>
        cases he
        obtain ⟨rt, e1, e2⟩ := ev_isr_of hw
        exact vx_ret (W.aret hx hb (hret.trans e1) e2 (Or.inr ⟨_, rfl⟩) (fun t ht _ => fin (some (.ref w)) t ht) hS.2.2 (by rw [hdg, hlen]; rfl) hlocks)
      · cases he
    · cases he
  · split at he
    · split at he
      · next hw =>
        cases he
        exact vx_ret (W.vret hx hb (hret.trans hw) (fun t ht _ => fin none t ht) hS.2.2 (by rw [hdg, hlen]; rfl) hlocks)
      · cases he
    · cases he
  · cases he
theorem eh_throw_sim (hl0 : l.stackTraces = false) (hbw : ∀ w ∈ Bs, ev_bw w = true) {d mi pc : Nat} {I : ev_I} {ls : ev_L} {st : List Value} {h : ev_H} {q : ev_Q} (hdg : decode q.2.1 pc = .ok (I.1, I.2.1)) (hlen : I.2.1 = ev_len I.1) (hemp : q.2.2.2.2.1.isEmpty = true) (hc8 : ev_cats st ≤ 8) (hthr : ev_thr cl Ts Bs Ss q.1.cls q.2.1 pc I)
    {p : Program} {e : Env} {R : Room} {s : State} {m : MethodId} {args : Array Value} {below : List Frame} {meth : Method} {c : Code} {n0 s0 mc ms : Nat} (hFr : eh_Fr p R s m args meth c D cl aC base ex V Ts Bs Ss Ns q d n0 s0 mc ms (ev_push h (.inr (I.2.2.1, [])) 6)) :
    ev_Sim p l e R s m args below meth c (vx_MQ below (ev_Qc D cl aC base ex (.inr I.2.2.1) (ev_push h (.inr (I.2.2.1, [])) 6)) (ev_XC D cl aC base ex (.inr I.2.2.1) (ev_push h (.inr (I.2.2.1, [])) 6)) args s mc ms (fun a : Nat => base ≤ a)) D cl aC base ex q.2.2.1 n0 s0 (pc, ls, st, h) := by
  intro Ls H locs cells slots hl hn hh hS h1c h2c
  dsimp only at hl hn hh h1c h2c ⊢
  obtain ⟨hx, hb, hml, hown, hts, ⟨hG, hN9⟩, hX, hret, hlocks, hname, htab9, hbn, hroom, g1, g2, g3, g4, g5⟩ := hFr
  have htab : ∀ x ∈ c.exceptionTable.toList, False := by
    intro x hx9
    rw [htab9, List.isEmpty_iff.mp hemp] at hx9
    cases hx9
  dsimp only [ev_push] at g3 g4 g5
  obtain ⟨cls, T0, text, is, ic, ik, names, t1, t2, t3, t4, t5, t6, t7, t8, t9, t10, t11, t12⟩ := hthr
  have hX1 : base ≤ s.heap.size := by omega
  obtain ⟨sa, hsa⟩ := hG.2.1 _ t7
  have hat : ∀ w ∈ vx_atS q.1.cls ic cls names, w.before args s = true := fun w hw => (t11 w hw).elim (hts w) (fun hB => va_Nw.use (ev_bw_tab (hbw w hB)) (hG.1 w hB))
  have d0 : decode q.2.1 pc = .ok (.new ik, 3) := by rw [hdg, hlen, t2]; rfl
  have hsz : Ls.size = c.maxLocals := by rw [hml, ← hn]; exact hl.1
  have hA : ∀ a : Nat, s.heap.size ≤ a → (fun a : Nat => base ≤ a) a := fun a ha => Nat.le_trans hX1 ha
  have hcat := ev_cats_tv (ev_ad base ex) st
  have fin : ∀ (pc9 : Nat) (a : Nat) (H1 : Heap), decode q.2.1 pc9 = .ok (.athrow, 1) → va_P D cl (ev_ws (ev_ad base ex) aC h.1 ++ [(a, .inr (I.2.2.1, []))]) H1 → va_D (fun a : Nat => base ≤ a) (ev_ws (ev_ad base ex) aC h.1 ++ [(a, .inr (I.2.2.1, []))]) → va_S (fun a : Nat => base ≤ a) s.heap H1 locs → W p l e R s m args below meth c H1 locs (cells + 1) (slots + 6) (vx_MQ below (ev_Qc D cl aC base ex (.inr I.2.2.1) (ev_push h (.inr (I.2.2.1, [])) 6)) (ev_XC D cl aC base ex (.inr I.2.2.1) (ev_push h (.inr (I.2.2.1, [])) 6)) args s mc ms (fun a : Nat => base ≤ a)) (F0 m pc9 Ls (.ref a :: st.map (ev_tv (ev_ad base ex)))) := by
    intro pc9 a H1 d9 hP1 hD1 hS1
    refine ev_sized fun hsz1 => ?_
    have hlast : (ev_ws (ev_ad base ex) aC h.1 ++ [(a, (.inr (I.2.2.1, []) : va_E))])[(ev_ws (ev_ad base ex) aC h.1).length]? = some (a, .inr (I.2.2.1, [])) := by
      rw [List.getElem?_append_right (Nat.le_refl _), Nat.sub_self]; rfl
    obtain ⟨r9, hr9, cell, f1, f2, f3, -⟩ := hP1 _ _ hlast
    cases hr9.symm.trans t1
    have hle2 : H.size ≤ H1.size := by
      have q2 := hh.2.1
      have q3 := hh.2.2.1
      have hlen9 : (ev_ws (ev_ad base ex) aC h.1).length = h.1.length := by simp [ev_ws]
      rcases Nat.eq_zero_or_pos h.1.length with w | w
      · have := hS1.1
        omega
      · have hj : h.1.length - 1 < h.1.length := by omega
        have e1 : (ev_ws (ev_ad base ex) aC h.1 ++ [(a, (.inr (I.2.2.1, []) : va_E))])[h.1.length - 1]? = some (ev_ad base ex (h.1.length - 1), ev_cv (ev_ad base ex) aC h.1[h.1.length - 1]) := by
          rw [List.getElem?_append_left (by omega)]
          exact ev_ws_at (List.getElem?_eq_getElem hj)
        have e2 := (hP1 _ _ e1).lt
        have e3 : ev_ad base ex (h.1.length - 1) = base + (h.1.length - 1) := ev_ad_in (by have := hh.2.2.2; omega)
        dsimp only at e2
        rw [e3] at e2
        omega
    have hS9 : va_S (fun a : Nat => base ≤ a) H H1 [] := by
      refine ⟨hle2, fun q hq hna => ?_, fun z hz => nomatch hz⟩
      have hqb : q < base := Nat.not_le.mp hna
      rw [hS1.2.1 q (by omega) hna, hS.2.1 q (by omega) hna]
    have hext : h.2.1 < ev_ext := by omega
    obtain ⟨hq, hd⟩ := ev_born (x := .inr (I.2.2.1, [])) (n := 6) (locs1 := []) hbn hh h1c hext hS9 (by omega) hP1 hD1
    refine vx_athrow hx hb d9 ?_
    exact vx_out (fun x hx => absurd (htab x hx) id) hlocks f1 f3 (by rw [f2]; exact (hG.2.2.1.1 _ _ t1).2.1) (fun t ht _ => ⟨⟨_, T0, 0, rfl, t1⟩, by rw [ht]; exact hd, hS1.F ht⟩) hS1.2.2 (by omega) (by omega)
  rcases t4 with ⟨d4, d6, d9⟩ | ⟨d4, d6, d9⟩
  · exact vx_makeS hx hb hl0 hown t8 t9 (hts _ t5) (hts _ t6) hsa hat t12 hX.2.1 hX.2.2.1 hS hsz d0 t3 d4 d6 hG.2.2.1 hh.1 (ev_D hh.2.2.2) hA t1 (by omega) (by rw [hcat]; omega) (by omega) (by omega) (fun a H1 hP1 hD1 hS1 => fin _ a H1 d9 hP1 hD1 hS1)
  · exact vx_makeSW hx hb hl0 hown t8 t9 (hts _ t5) (hts _ t6) hsa hat t12 hX.2.1 hX.2.2.1 hS hsz d0 t3 d4 d6 hG.2.2.1 hh.1 (ev_D hh.2.2.2) hA t1 (by omega) (by rw [hcat]; omega) (by omega) (by omega) (fun a H1 hP1 hD1 hS1 => fin _ a H1 d9 hP1 hD1 hS1)
end EvJ

section EvJ2
variable {l : Launch} {D : va_G} {cl : List vw_C} {aC : Nat → ClassId} {base : Nat} {ex : Nat → Nat} {V : ev_V} {Ts Bs : List Cond} {Ss : List (String × Nat × String)} {Ns : List (String × String)} {dft : Nat → List Value} {mt : List ev_Q} {f : ev_F}
theorem eh_throw_simX (hl0 : l.stackTraces = false) (hbw : ∀ w ∈ Bs, ev_bw w = true) {d mi pc : Nat} {I : ev_I} {ls : ev_L} {st : List Value} {h : ev_H} {q : ev_Q} (hdg : decode q.2.1 pc = .ok (I.1, I.2.1)) (hlen : I.2.1 = ev_len I.1) (hemp : q.2.2.2.2.1.isEmpty = true) (hc8 : ev_cats st ≤ 8) (hthr : eh_thrX cl Ts Bs Ss q.1.cls q.2.1 pc I)
    {p : Program} {e : Env} {R : Room} {s : State} {m : MethodId} {args : Array Value} {below : List Frame} {meth : Method} {c : Code} {n0 s0 mc ms : Nat} (hFr : eh_Fr p R s m args meth c D cl aC base ex V Ts Bs Ss Ns q d n0 s0 mc ms (ev_push h (.inr (I.2.2.1, [])) 6)) :
    ev_Sim p l e R s m args below meth c (vx_MQ below (ev_Qc D cl aC base ex (.inr I.2.2.1) (ev_push h (.inr (I.2.2.1, [])) 6)) (ev_XC D cl aC base ex (.inr I.2.2.1) (ev_push h (.inr (I.2.2.1, [])) 6)) args s mc ms (fun a : Nat => base ≤ a)) D cl aC base ex q.2.2.1 n0 s0 (pc, ls, st, h) := by
  intro Ls H locs cells slots hl hn hh hS h1c h2c
  dsimp only at hl hn hh h1c h2c ⊢
  obtain ⟨hx, hb, hml, hown, hts, ⟨hG, hN9⟩, hX, hret, hlocks, hname, htab9, hbn, hroom, g1, g2, g3, g4, g5⟩ := hFr
  have htab : ∀ x ∈ c.exceptionTable.toList, False := by
    intro x hx9
    rw [htab9, List.isEmpty_iff.mp hemp] at hx9
    cases hx9
  dsimp only [ev_push] at g3 g4 g5
  obtain ⟨cls, T0, text, is, ic, ik, jx, rx, names, t1, t2, t3, ⟨d4, d6, d9⟩, ⟨x0, x1, x2, x5⟩, t5, t6, t7, t8, t9, t10, t11, t12⟩ := hthr
  have hX1 : base ≤ s.heap.size := by omega
  obtain ⟨sa, hsa⟩ := hG.2.1 _ t7
  have hat : ∀ w ∈ eh_at q.1.cls ic cls jx rx names, w.before args s = true := fun w hw => (t11 w hw).elim (hts w) (fun hB => va_Nw.use (ev_bw_tab (hbw w hB)) (hG.1 w hB))
  have d0 : decode q.2.1 pc = .ok (.new ik, 3) := by rw [hdg, hlen, t2]; rfl
  have hsz : Ls.size = c.maxLocals := by rw [hml, ← hn]; exact hl.1
  have hA : ∀ a : Nat, s.heap.size ≤ a → (fun a : Nat => base ≤ a) a := fun a ha => Nat.le_trans hX1 ha
  have hcat := ev_cats_tv (ev_ad base ex) st
  have fin : ∀ (pc9 : Nat) (a : Nat) (H1 : Heap), decode q.2.1 pc9 = .ok (.athrow, 1) → va_P D cl (ev_ws (ev_ad base ex) aC h.1 ++ [(a, .inr (I.2.2.1, []))]) H1 → va_D (fun a : Nat => base ≤ a) (ev_ws (ev_ad base ex) aC h.1 ++ [(a, .inr (I.2.2.1, []))]) → va_S (fun a : Nat => base ≤ a) s.heap H1 locs → W p l e R s m args below meth c H1 locs (cells + 1) (slots + 6) (vx_MQ below (ev_Qc D cl aC base ex (.inr I.2.2.1) (ev_push h (.inr (I.2.2.1, [])) 6)) (ev_XC D cl aC base ex (.inr I.2.2.1) (ev_push h (.inr (I.2.2.1, [])) 6)) args s mc ms (fun a : Nat => base ≤ a)) (F0 m pc9 Ls (.ref a :: st.map (ev_tv (ev_ad base ex)))) := by
    intro pc9 a H1 d9 hP1 hD1 hS1
    refine ev_sized fun hsz1 => ?_
    have hlast : (ev_ws (ev_ad base ex) aC h.1 ++ [(a, (.inr (I.2.2.1, []) : va_E))])[(ev_ws (ev_ad base ex) aC h.1).length]? = some (a, .inr (I.2.2.1, [])) := by
      rw [List.getElem?_append_right (Nat.le_refl _), Nat.sub_self]; rfl
    obtain ⟨r9, hr9, cell, f1, f2, f3, -⟩ := hP1 _ _ hlast
    cases hr9.symm.trans t1
    have hle2 : H.size ≤ H1.size := by
      have q2 := hh.2.1
      have q3 := hh.2.2.1
      have hlen9 : (ev_ws (ev_ad base ex) aC h.1).length = h.1.length := by simp [ev_ws]
      rcases Nat.eq_zero_or_pos h.1.length with w | w
      · have := hS1.1
        omega
      · have hj : h.1.length - 1 < h.1.length := by omega
        have e1 : (ev_ws (ev_ad base ex) aC h.1 ++ [(a, (.inr (I.2.2.1, []) : va_E))])[h.1.length - 1]? = some (ev_ad base ex (h.1.length - 1), ev_cv (ev_ad base ex) aC h.1[h.1.length - 1]) := by
          rw [List.getElem?_append_left (by omega)]
          exact ev_ws_at (List.getElem?_eq_getElem hj)
        have e2 := (hP1 _ _ e1).lt
        have e3 : ev_ad base ex (h.1.length - 1) = base + (h.1.length - 1) := ev_ad_in (by have := hh.2.2.2; omega)
        dsimp only at e2
        rw [e3] at e2
        omega
    have hS9 : va_S (fun a : Nat => base ≤ a) H H1 [] := by
      refine ⟨hle2, fun q hq hna => ?_, fun z hz => nomatch hz⟩
      have hqb : q < base := Nat.not_le.mp hna
      rw [hS1.2.1 q (by omega) hna, hS.2.1 q (by omega) hna]
    have hext : h.2.1 < ev_ext := by omega
    obtain ⟨hq, hd⟩ := ev_born (x := .inr (I.2.2.1, [])) (n := 6) (locs1 := []) hbn hh h1c hext hS9 (by omega) hP1 hD1
    refine vx_athrow hx hb d9 ?_
    exact vx_out (fun x hx => absurd (htab x hx) id) hlocks f1 f3 (by rw [f2]; exact (hG.2.2.1.1 _ _ t1).2.1) (fun t ht _ => ⟨⟨_, T0, 0, rfl, t1⟩, by rw [ht]; exact hd, hS1.F ht⟩) hS1.2.2 (by omega) (by omega)
  exact eh_makeSW hx hb hl0 x0 x1 x2 x5 hown t8 t9 (hts _ t5) (hts _ t6) hsa hat t12 hX.2.1 hX.2.2.1 hS hsz d0 t3 d4 d6 hG.2.2.1 hh.1 (ev_D hh.2.2.2) hA t1 (by omega) (by rw [hcat]; omega) (by omega) (by omega) (fun a H1 hP1 hD1 hS1 => fin _ a H1 d9 hP1 hD1 hS1)
end EvJ2

theorem eh_sim {l : Launch} {D : va_G} {cl : List vw_C} {aC : Nat → ClassId} {base : Nat} {ex : Nat → Nat} {V : ev_V} {Ts Bs : List Cond} {Ss : List (String × Nat × String)} {Ns : List (String × String)} {dft : Nat → List Value} {mt : List ev_Q} (hl0 : l.stackTraces = false) (hgood : ∀ w ∈ Ts, goodWord w = true) (hbw : ∀ w ∈ Bs, ev_bw w = true) (hex : ∀ k, ex k < base) (hmt : ∀ (mi : Nat) (q : ev_Q), mt[mi]? = some q → eh_mok cl Ts Bs Ss Ns dft mt q) (hcw : ∀ (mi : Nat) (q : ev_Q), mt[mi]? = some q → 1 ≤ mi → eh_cw q ∈ Ts) : ∀ n : Nat, eh_Cl l D cl aC base ex V Ts Bs Ss Ns mt (ev mt V dft n) := by
  intro n
  induction n with
  | zero => intro d mi pc ls st h o h' q hq he; unfold ev at he; cases he
  | succ n ih =>
    intro d mi pc ls st h o h' q hq he p e R s m args below meth c n0 s0 mc ms hFr
    have hmono := ev_mono mt V dft n
    unfold ev at he
    rw [hq] at he
    dsimp only at he
    split at he
    · cases he
    · next I hI =>
      obtain ⟨m1, m2, m4, m5, m6⟩ := hmt mi q hq
      obtain ⟨d1, d2, d3⟩ := m6 pc I hI
      have hFr0 := hFr
      obtain ⟨hx, hb, hml, hown, hts, hG, hX, hret, hlocks, hname, htab, hbn, hroom, g1, g2, g3, g4, g5⟩ := hFr
      have hX1 : base ≤ s.heap.size := by omega
      have hstep : ∀ (hs : ev_site cl Ts Bs dft q.1.cls q.1.name I) (_ : ev_step (ev mt V dft n) V dft I d mi pc ls st h = some (o, h')), ev_Sim p l e R s m args below meth c (vx_MQ below (ev_Qc D cl aC base ex o h') (ev_XC D cl aC base ex o h') args s mc ms (fun a : Nat => base ≤ a)) D cl aC base ex q.2.2.1 n0 s0 (pc, ls, st, h) := by
        intro hs he2
        unfold ev_step at he2
        split at he2
        · next r hr =>
          obtain ⟨k1, k2⟩ := hmono _ _ _ _ _ _ _ _ he2
          obtain ⟨i, len, x, y, z⟩ := I
          exact ev_step_sim hx hb hbn hex hts hbw hG.1 hX hown d1 d2 (by rw [hname]; exact hs) hr ⟨by omega, by omega, by omega⟩ (ih d mi r.1 r.2.1 r.2.2.1 r.2.2.2 o h' q hq he2 p e R s m args below meth c n0 s0 mc ms hFr0)
        · cases he2
      have hnosw : ∀ k, ev_kd I.1 = k → k ≠ 0 → I.2.1 = ev_len I.1 := by
        intro k hk h0
        refine d2.resolve_right (fun hw => h0 ?_)
        rw [← hk]
        unfold ev_isw at hw
        split at hw
        · next e9 => rw [e9]; rfl
        · next e9 => rw [e9]; rfl
        · cases hw
      unfold ev_one at he
      split at he
      · next hk =>
        obtain ⟨v, hv, e9⟩ := Option.map_eq_some_iff.mp he
        cases e9
        exact eh_ret_sim (mi := mi) hv d1 (hnosw _ hk (by decide)) hFr0
      · next hk =>
        rw [hk] at d3
        obtain ⟨i, len, x, y, z⟩ := I
        have hi : ∃ k, i = .invokevirtual k := ev_kd2 hk
        exact eh_call_sim hmono ih hgood hbw hex hmt hcw hq he d1 (hnosw _ hk (by decide)) (Or.inl ⟨rfl, hi⟩) d3 hFr0
      · next hk =>
        rw [hk] at d3
        split at he
        · next hy =>
          rw [if_pos hy] at d3
          obtain ⟨index, i1, i2, i3, i4, i5⟩ := d3
          split at he
          · next r hr =>
            split at he
            · next h8 =>
              obtain ⟨k1, k2⟩ := hmono _ _ _ _ _ _ _ _ he
              exact ev_cpy_sim hx hb hml hown (hts _ i2) (hts _ i3) (hts _ i4) (hts _ i5) hbn hG.1.2.2.1 (by omega) (by omega) (by rw [d1, hnosw _ hk (by decide), i1]; rfl) hr h8 (ih d mi (pc + 3) ls r.1 r.2 o h' q hq he p e R s m args below meth c n0 s0 mc ms hFr0)
            · cases he
          · cases he
        · next hy =>
          rw [if_neg hy] at d3
          obtain ⟨i, len, x, y, z⟩ := I
          have hi : ∃ k, i = .invokestatic k := ev_kd3 hk
          exact eh_call_sim hmono ih hgood hbw hex hmt hcw hq he d1 (hnosw _ hk (by decide)) (Or.inr (Or.inl ⟨rfl, hi⟩)) d3 hFr0
      · next hk =>
        rw [hk] at d3
        split at he
        · next hy =>
          rw [if_pos hy] at d3
          obtain ⟨index, i1, i2, i3, i4⟩ := d3
          split at he
          · next a rr =>
            split at he
            · next h8 =>
              exact ev_obj_sim hx hb hml hown (hts _ i2) (hts _ i3) (hts _ i4) (by omega) (by omega) (by rw [d1, hnosw _ hk (by decide), i1]; rfl) h8 (ih d mi (pc + 3) ls rr h o h' q hq he p e R s m args below meth c n0 s0 mc ms hFr0)
            · cases he
          · cases he
        · next hy =>
          rw [if_neg hy] at d3
          obtain ⟨i, len, x, y, z⟩ := I
          have hi : ∃ k, i = .invokespecial k := ev_kd4 hk
          exact eh_call_sim hmono ih hgood hbw hex hmt hcw hq he d1 (hnosw _ hk (by decide)) (Or.inr (Or.inr ⟨rfl, hi⟩)) d3 hFr0
      · next hk =>
        rw [hk] at d3
        split at he
        · next hz =>
          rw [if_pos hz] at d3
          split at he
          · next h8 =>
            cases he
            rcases d3 with d3 | d3
            · exact eh_throw_sim (mi := mi) hl0 hbw d1 (hnosw _ hk (by decide)) h8.1 h8.2 d3 hFr0
            · exact eh_throw_simX (mi := mi) hl0 hbw d1 (hnosw _ hk (by decide)) h8.1 h8.2 d3 hFr0
          · cases he
        · next hz =>
          rw [if_neg hz] at d3
          exact hstep d3 he
      · next k1 k2 k3 k4 k5 =>
        have h0 : ev_kd I.1 = 0 := by
          unfold ev_kd at k1 k2 k3 k4 k5 ⊢
          split <;> first | rfl | simp_all
        rw [h0] at d3
        exact hstep d3 he
end
