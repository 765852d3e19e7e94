section
-- ===== PART A: goes FIRST, ahead of the names: the tables' words, and 'selects' of the private methods out of them =====
/-- a private method of a class that the tables say can be made, by its rows of tables_1 -/
def lw_okq (q : MethodName × Nat) : Prop := (q.1.cls ≠ "java/lang/invoke/MethodHandle" ∧ q.1.cls ≠ "java/lang/invoke/VarHandle") ∧ Cond.instantiable q.1.cls q.2 ∈ tables_1 ∧ Cond.privateMethod q.1 ∈ tables_1 ∧ Cond.instanceMethod q.1 ∈ tables_1
theorem lw_p0 : lw_okq (⟨"PlaneCuts", "settled", "(I)I"⟩, 14) := ⟨⟨by decide +kernel, by decide +kernel⟩, List.mem_of_getElem? (i := 18) (by decide +kernel), List.mem_of_getElem? (i := 345) (by decide +kernel), List.mem_of_getElem? (i := 346) (by decide +kernel)⟩
theorem lw_p1 : lw_okq (⟨"PlaneCuts", "refused", "(I)I"⟩, 14) := ⟨⟨by decide +kernel, by decide +kernel⟩, List.mem_of_getElem? (i := 18) (by decide +kernel), List.mem_of_getElem? (i := 349) (by decide +kernel), List.mem_of_getElem? (i := 350) (by decide +kernel)⟩
theorem lw_p2 : lw_okq (⟨"PlaneCuts$Arrangement", "isSame", "(IIIII)Z"⟩, 4) := ⟨⟨by decide +kernel, by decide +kernel⟩, List.mem_of_getElem? (i := 26) (by decide +kernel), List.mem_of_getElem? (i := 372) (by decide +kernel), List.mem_of_getElem? (i := 373) (by decide +kernel)⟩
theorem lw_p3 : lw_okq (⟨"PlaneCuts$Arrangement", "put", "(IIII)I"⟩, 4) := ⟨⟨by decide +kernel, by decide +kernel⟩, List.mem_of_getElem? (i := 26) (by decide +kernel), List.mem_of_getElem? (i := 380) (by decide +kernel), List.mem_of_getElem? (i := 381) (by decide +kernel)⟩
theorem lw_p4 : lw_okq (⟨"PlaneCuts$Matroid", "rankFromSubsets", "(I)I"⟩, 8) := ⟨⟨by decide +kernel, by decide +kernel⟩, List.mem_of_getElem? (i := 60) (by decide +kernel), List.mem_of_getElem? (i := 412) (by decide +kernel), List.mem_of_getElem? (i := 413) (by decide +kernel)⟩
theorem lw_p5 : lw_okq (⟨"PlaneCuts$Matrix", "takeRemainders", "(I)V"⟩, 4) := ⟨⟨by decide +kernel, by decide +kernel⟩, List.mem_of_getElem? (i := 66) (by decide +kernel), List.mem_of_getElem? (i := 432) (by decide +kernel), List.mem_of_getElem? (i := 433) (by decide +kernel)⟩
theorem lw_p6 : lw_okq (⟨"PlaneCuts$Matrix", "bringUp", "(II)Z"⟩, 4) := ⟨⟨by decide +kernel, by decide +kernel⟩, List.mem_of_getElem? (i := 66) (by decide +kernel), List.mem_of_getElem? (i := 436) (by decide +kernel), List.mem_of_getElem? (i := 437) (by decide +kernel)⟩
theorem lw_p7 : lw_okq (⟨"PlaneCuts$Matrix", "strike", "(IIII)V"⟩, 4) := ⟨⟨by decide +kernel, by decide +kernel⟩, List.mem_of_getElem? (i := 66) (by decide +kernel), List.mem_of_getElem? (i := 440) (by decide +kernel), List.mem_of_getElem? (i := 441) (by decide +kernel)⟩
theorem lw_p8 : lw_okq (⟨"PlaneCuts$Matroid", "closureFromRanks", "(I)I"⟩, 8) := ⟨⟨by decide +kernel, by decide +kernel⟩, List.mem_of_getElem? (i := 60) (by decide +kernel), List.mem_of_getElem? (i := 444) (by decide +kernel), List.mem_of_getElem? (i := 445) (by decide +kernel)⟩
theorem lw_p9 : lw_okq (⟨"PlaneCuts$Matroid", "isCircuit", "(II)Z"⟩, 8) := ⟨⟨by decide +kernel, by decide +kernel⟩, List.mem_of_getElem? (i := 60) (by decide +kernel), List.mem_of_getElem? (i := 448) (by decide +kernel), List.mem_of_getElem? (i := 449) (by decide +kernel)⟩
theorem lw_p10 : lw_okq (⟨"PlaneCuts$Matroid", "coefficientFromRanks", "(II)I"⟩, 8) := ⟨⟨by decide +kernel, by decide +kernel⟩, List.mem_of_getElem? (i := 60) (by decide +kernel), List.mem_of_getElem? (i := 456) (by decide +kernel), List.mem_of_getElem? (i := 457) (by decide +kernel)⟩
theorem lw_p11 : lw_okq (⟨"PlaneCuts$Arrangement", "putPair", "(IIII)V"⟩, 4) := ⟨⟨by decide +kernel, by decide +kernel⟩, List.mem_of_getElem? (i := 26) (by decide +kernel), List.mem_of_getElem? (i := 492) (by decide +kernel), List.mem_of_getElem? (i := 493) (by decide +kernel)⟩
theorem lw_p12 : lw_okq (⟨"PlaneCuts$Arrangement", "putPairs", "(Z)V"⟩, 4) := ⟨⟨by decide +kernel, by decide +kernel⟩, List.mem_of_getElem? (i := 26) (by decide +kernel), List.mem_of_getElem? (i := 496) (by decide +kernel), List.mem_of_getElem? (i := 497) (by decide +kernel)⟩
theorem lw_p13 : lw_okq (⟨"PlaneCuts$Regions", "refresh", "()V"⟩, 6) := ⟨⟨by decide +kernel, by decide +kernel⟩, List.mem_of_getElem? (i := 159) (by decide +kernel), List.mem_of_getElem? (i := 606) (by decide +kernel), List.mem_of_getElem? (i := 607) (by decide +kernel)⟩
theorem lw_p14 : lw_okq (⟨"PlaneCuts$Regions", "positivePart", "(I)I"⟩, 6) := ⟨⟨by decide +kernel, by decide +kernel⟩, List.mem_of_getElem? (i := 159) (by decide +kernel), List.mem_of_getElem? (i := 612) (by decide +kernel), List.mem_of_getElem? (i := 613) (by decide +kernel)⟩
theorem lw_p15 : lw_okq (⟨"PlaneCuts$Regions", "strike", "(II)V"⟩, 6) := ⟨⟨by decide +kernel, by decide +kernel⟩, List.mem_of_getElem? (i := 159) (by decide +kernel), List.mem_of_getElem? (i := 617) (by decide +kernel), List.mem_of_getElem? (i := 618) (by decide +kernel)⟩
def lw_privs_1 : List (MethodName × Nat) := [(⟨"PlaneCuts", "settled", "(I)I"⟩, 14), (⟨"PlaneCuts", "refused", "(I)I"⟩, 14), (⟨"PlaneCuts$Arrangement", "isSame", "(IIIII)Z"⟩, 4), (⟨"PlaneCuts$Arrangement", "put", "(IIII)I"⟩, 4), (⟨"PlaneCuts$Matroid", "rankFromSubsets", "(I)I"⟩, 8), (⟨"PlaneCuts$Matrix", "takeRemainders", "(I)V"⟩, 4), (⟨"PlaneCuts$Matrix", "bringUp", "(II)Z"⟩, 4), (⟨"PlaneCuts$Matrix", "strike", "(IIII)V"⟩, 4), (⟨"PlaneCuts$Matroid", "closureFromRanks", "(I)I"⟩, 8), (⟨"PlaneCuts$Matroid", "isCircuit", "(II)Z"⟩, 8), (⟨"PlaneCuts$Matroid", "coefficientFromRanks", "(II)I"⟩, 8), (⟨"PlaneCuts$Arrangement", "putPair", "(IIII)V"⟩, 4), (⟨"PlaneCuts$Arrangement", "putPairs", "(Z)V"⟩, 4), (⟨"PlaneCuts$Regions", "refresh", "()V"⟩, 6), (⟨"PlaneCuts$Regions", "positivePart", "(I)I"⟩, 6), (⟨"PlaneCuts$Regions", "strike", "(II)V"⟩, 6)]
theorem lw_r1 : ∀ q ∈ lw_privs_1, lw_okq q := List.forall_mem_cons.mpr ⟨lw_p0, List.forall_mem_cons.mpr ⟨lw_p1, List.forall_mem_cons.mpr ⟨lw_p2, List.forall_mem_cons.mpr ⟨lw_p3, List.forall_mem_cons.mpr ⟨lw_p4, List.forall_mem_cons.mpr ⟨lw_p5, List.forall_mem_cons.mpr ⟨lw_p6, List.forall_mem_cons.mpr ⟨lw_p7, List.forall_mem_cons.mpr ⟨lw_p8, List.forall_mem_cons.mpr ⟨lw_p9, List.forall_mem_cons.mpr ⟨lw_p10, List.forall_mem_cons.mpr ⟨lw_p11, List.forall_mem_cons.mpr ⟨lw_p12, List.forall_mem_cons.mpr ⟨lw_p13, List.forall_mem_cons.mpr ⟨lw_p14, List.forall_mem_cons.mpr ⟨lw_p15, fun _ h => absurd h List.not_mem_nil⟩⟩⟩⟩⟩⟩⟩⟩⟩⟩⟩⟩⟩⟩⟩⟩
theorem lw_p16 : lw_okq (⟨"PlaneCuts$Regions", "sumOfEarlier", "(I)I"⟩, 6) := ⟨⟨by decide +kernel, by decide +kernel⟩, List.mem_of_getElem? (i := 159) (by decide +kernel), List.mem_of_getElem? (i := 644) (by decide +kernel), List.mem_of_getElem? (i := 645) (by decide +kernel)⟩
theorem lw_p17 : lw_okq (⟨"PlaneCuts$ModularFlats", "refresh", "()V"⟩, 6) := ⟨⟨by decide +kernel, by decide +kernel⟩, List.mem_of_getElem? (i := 186) (by decide +kernel), List.mem_of_getElem? (i := 656) (by decide +kernel), List.mem_of_getElem? (i := 657) (by decide +kernel)⟩
theorem lw_p18 : lw_okq (⟨"PlaneCuts$ModularFlats", "isModular", "(I)Z"⟩, 6) := ⟨⟨by decide +kernel, by decide +kernel⟩, List.mem_of_getElem? (i := 186) (by decide +kernel), List.mem_of_getElem? (i := 662) (by decide +kernel), List.mem_of_getElem? (i := 663) (by decide +kernel)⟩
theorem lw_p19 : lw_okq (⟨"PlaneCuts$ModularFlats", "nextAbove", "(I)I"⟩, 6) := ⟨⟨by decide +kernel, by decide +kernel⟩, List.mem_of_getElem? (i := 186) (by decide +kernel), List.mem_of_getElem? (i := 666) (by decide +kernel), List.mem_of_getElem? (i := 667) (by decide +kernel)⟩
theorem lw_p20 : lw_okq (⟨"PlaneCuts$FiniteFields", "setPoint", "(II)V"⟩, 4) := ⟨⟨by decide +kernel, by decide +kernel⟩, List.mem_of_getElem? (i := 211) (by decide +kernel), List.mem_of_getElem? (i := 696) (by decide +kernel), List.mem_of_getElem? (i := 697) (by decide +kernel)⟩
theorem lw_p21 : lw_okq (⟨"PlaneCuts$FiniteFields", "isFree", "(I)Z"⟩, 4) := ⟨⟨by decide +kernel, by decide +kernel⟩, List.mem_of_getElem? (i := 211) (by decide +kernel), List.mem_of_getElem? (i := 700) (by decide +kernel), List.mem_of_getElem? (i := 701) (by decide +kernel)⟩
theorem lw_p22 : lw_okq (⟨"PlaneCuts$Algebra", "refresh", "()V"⟩, 6) := ⟨⟨by decide +kernel, by decide +kernel⟩, List.mem_of_getElem? (i := 232) (by decide +kernel), List.mem_of_getElem? (i := 726) (by decide +kernel), List.mem_of_getElem? (i := 727) (by decide +kernel)⟩
theorem lw_p23 : lw_okq (⟨"PlaneCuts$Algebra", "replace", "(II)V"⟩, 6) := ⟨⟨by decide +kernel, by decide +kernel⟩, List.mem_of_getElem? (i := 232) (by decide +kernel), List.mem_of_getElem? (i := 744) (by decide +kernel), List.mem_of_getElem? (i := 745) (by decide +kernel)⟩
theorem lw_p24 : lw_okq (⟨"PlaneCuts$Script", "skipSpaces", "()V"⟩, 6) := ⟨⟨by decide +kernel, by decide +kernel⟩, List.mem_of_getElem? (i := 259) (by decide +kernel), List.mem_of_getElem? (i := 768) (by decide +kernel), List.mem_of_getElem? (i := 769) (by decide +kernel)⟩
theorem lw_p25 : lw_okq (⟨"PlaneCuts$Script", "isBetween", "(II)Z"⟩, 6) := ⟨⟨by decide +kernel, by decide +kernel⟩, List.mem_of_getElem? (i := 259) (by decide +kernel), List.mem_of_getElem? (i := 772) (by decide +kernel), List.mem_of_getElem? (i := 773) (by decide +kernel)⟩
theorem lw_p26 : lw_okq (⟨"PlaneCuts$Script", "readCommand", "(I)Z"⟩, 6) := ⟨⟨by decide +kernel, by decide +kernel⟩, List.mem_of_getElem? (i := 259) (by decide +kernel), List.mem_of_getElem? (i := 776) (by decide +kernel), List.mem_of_getElem? (i := 777) (by decide +kernel)⟩
theorem lw_p27 : lw_okq (⟨"PlaneCuts$Script", "readNumber", "(II)Z"⟩, 6) := ⟨⟨by decide +kernel, by decide +kernel⟩, List.mem_of_getElem? (i := 259) (by decide +kernel), List.mem_of_getElem? (i := 783) (by decide +kernel), List.mem_of_getElem? (i := 784) (by decide +kernel)⟩
theorem lw_p28 : lw_okq (⟨"PlaneCuts", "executed", "(I)I"⟩, 14) := ⟨⟨by decide +kernel, by decide +kernel⟩, List.mem_of_getElem? (i := 18) (by decide +kernel), List.mem_of_getElem? (i := 791) (by decide +kernel), List.mem_of_getElem? (i := 792) (by decide +kernel)⟩
theorem lw_p29 : lw_okq (⟨"PlaneCutsModel", "refuses", "(I)I"⟩, 33) := ⟨⟨by decide +kernel, by decide +kernel⟩, List.mem_of_getElem? (i := 831) (by decide +kernel), List.mem_of_getElem? (i := 941) (by decide +kernel), List.mem_of_getElem? (i := 942) (by decide +kernel)⟩
theorem lw_p30 : lw_okq (⟨"PlaneCutsModel", "hold", "()V"⟩, 33) := ⟨⟨by decide +kernel, by decide +kernel⟩, List.mem_of_getElem? (i := 831) (by decide +kernel), List.mem_of_getElem? (i := 949) (by decide +kernel), List.mem_of_getElem? (i := 950) (by decide +kernel)⟩
theorem lw_p31 : lw_okq (⟨"PlaneCutsModel", "doSpace", "(I)I"⟩, 33) := ⟨⟨by decide +kernel, by decide +kernel⟩, List.mem_of_getElem? (i := 831) (by decide +kernel), List.mem_of_getElem? (i := 953) (by decide +kernel), List.mem_of_getElem? (i := 954) (by decide +kernel)⟩
def lw_privs_2 : List (MethodName × Nat) := [(⟨"PlaneCuts$Regions", "sumOfEarlier", "(I)I"⟩, 6), (⟨"PlaneCuts$ModularFlats", "refresh", "()V"⟩, 6), (⟨"PlaneCuts$ModularFlats", "isModular", "(I)Z"⟩, 6), (⟨"PlaneCuts$ModularFlats", "nextAbove", "(I)I"⟩, 6), (⟨"PlaneCuts$FiniteFields", "setPoint", "(II)V"⟩, 4), (⟨"PlaneCuts$FiniteFields", "isFree", "(I)Z"⟩, 4), (⟨"PlaneCuts$Algebra", "refresh", "()V"⟩, 6), (⟨"PlaneCuts$Algebra", "replace", "(II)V"⟩, 6), (⟨"PlaneCuts$Script", "skipSpaces", "()V"⟩, 6), (⟨"PlaneCuts$Script", "isBetween", "(II)Z"⟩, 6), (⟨"PlaneCuts$Script", "readCommand", "(I)Z"⟩, 6), (⟨"PlaneCuts$Script", "readNumber", "(II)Z"⟩, 6), (⟨"PlaneCuts", "executed", "(I)I"⟩, 14), (⟨"PlaneCutsModel", "refuses", "(I)I"⟩, 33), (⟨"PlaneCutsModel", "hold", "()V"⟩, 33), (⟨"PlaneCutsModel", "doSpace", "(I)I"⟩, 33)]
theorem lw_r2 : ∀ q ∈ lw_privs_2, lw_okq q := List.forall_mem_cons.mpr ⟨lw_p16, List.forall_mem_cons.mpr ⟨lw_p17, List.forall_mem_cons.mpr ⟨lw_p18, List.forall_mem_cons.mpr ⟨lw_p19, List.forall_mem_cons.mpr ⟨lw_p20, List.forall_mem_cons.mpr ⟨lw_p21, List.forall_mem_cons.mpr ⟨lw_p22, List.forall_mem_cons.mpr ⟨lw_p23, List.forall_mem_cons.mpr ⟨lw_p24, List.forall_mem_cons.mpr ⟨lw_p25, List.forall_mem_cons.mpr ⟨lw_p26, List.forall_mem_cons.mpr ⟨lw_p27, List.forall_mem_cons.mpr ⟨lw_p28, List.forall_mem_cons.mpr ⟨lw_p29, List.forall_mem_cons.mpr ⟨lw_p30, List.forall_mem_cons.mpr ⟨lw_p31, fun _ h => absurd h List.not_mem_nil⟩⟩⟩⟩⟩⟩⟩⟩⟩⟩⟩⟩⟩⟩⟩⟩
theorem lw_p32 : lw_okq (⟨"PlaneCutsModel", "ends", "(I)I"⟩, 33) := ⟨⟨by decide +kernel, by decide +kernel⟩, List.mem_of_getElem? (i := 831) (by decide +kernel), List.mem_of_getElem? (i := 960) (by decide +kernel), List.mem_of_getElem? (i := 961) (by decide +kernel)⟩
theorem lw_p33 : lw_okq (⟨"PlaneCutsModel", "push", "()V"⟩, 33) := ⟨⟨by decide +kernel, by decide +kernel⟩, List.mem_of_getElem? (i := 831) (by decide +kernel), List.mem_of_getElem? (i := 964) (by decide +kernel), List.mem_of_getElem? (i := 965) (by decide +kernel)⟩
theorem lw_p34 : lw_okq (⟨"PlaneCutsModel", "doPlane", "(IIII)I"⟩, 33) := ⟨⟨by decide +kernel, by decide +kernel⟩, List.mem_of_getElem? (i := 831) (by decide +kernel), List.mem_of_getElem? (i := 972) (by decide +kernel), List.mem_of_getElem? (i := 973) (by decide +kernel)⟩
theorem lw_p35 : lw_okq (⟨"PlaneCutsModel", "isThere", "(I)Z"⟩, 33) := ⟨⟨by decide +kernel, by decide +kernel⟩, List.mem_of_getElem? (i := 831) (by decide +kernel), List.mem_of_getElem? (i := 976) (by decide +kernel), List.mem_of_getElem? (i := 977) (by decide +kernel)⟩
theorem lw_p36 : lw_okq (⟨"PlaneCutsModel", "addsTold", "()V"⟩, 33) := ⟨⟨by decide +kernel, by decide +kernel⟩, List.mem_of_getElem? (i := 831) (by decide +kernel), List.mem_of_getElem? (i := 980) (by decide +kernel), List.mem_of_getElem? (i := 981) (by decide +kernel)⟩
theorem lw_p37 : lw_okq (⟨"PlaneCutsModel", "doTurns", "(I)I"⟩, 33) := ⟨⟨by decide +kernel, by decide +kernel⟩, List.mem_of_getElem? (i := 831) (by decide +kernel), List.mem_of_getElem? (i := 988) (by decide +kernel), List.mem_of_getElem? (i := 989) (by decide +kernel)⟩
theorem lw_p38 : lw_okq (⟨"PlaneCutsModel", "isPlane", "(I)Z"⟩, 33) := ⟨⟨by decide +kernel, by decide +kernel⟩, List.mem_of_getElem? (i := 831) (by decide +kernel), List.mem_of_getElem? (i := 992) (by decide +kernel), List.mem_of_getElem? (i := 993) (by decide +kernel)⟩
theorem lw_p39 : lw_okq (⟨"PlaneCutsModel", "partMany", "()I"⟩, 33) := ⟨⟨by decide +kernel, by decide +kernel⟩, List.mem_of_getElem? (i := 831) (by decide +kernel), List.mem_of_getElem? (i := 996) (by decide +kernel), List.mem_of_getElem? (i := 997) (by decide +kernel)⟩
theorem lw_p40 : lw_okq (⟨"PlaneCutsModel", "all", "()I"⟩, 33) := ⟨⟨by decide +kernel, by decide +kernel⟩, List.mem_of_getElem? (i := 831) (by decide +kernel), List.mem_of_getElem? (i := 1000) (by decide +kernel), List.mem_of_getElem? (i := 1001) (by decide +kernel)⟩
theorem lw_p41 : lw_okq (⟨"PlaneCutsModel", "isPart", "(I)Z"⟩, 33) := ⟨⟨by decide +kernel, by decide +kernel⟩, List.mem_of_getElem? (i := 831) (by decide +kernel), List.mem_of_getElem? (i := 1004) (by decide +kernel), List.mem_of_getElem? (i := 1005) (by decide +kernel)⟩
theorem lw_p42 : lw_okq (⟨"PlaneCutsModel", "lay", "()V"⟩, 33) := ⟨⟨by decide +kernel, by decide +kernel⟩, List.mem_of_getElem? (i := 831) (by decide +kernel), List.mem_of_getElem? (i := 1008) (by decide +kernel), List.mem_of_getElem? (i := 1009) (by decide +kernel)⟩
theorem lw_p43 : lw_okq (⟨"PlaneCutsModel", "rankBy", "(I)I"⟩, 33) := ⟨⟨by decide +kernel, by decide +kernel⟩, List.mem_of_getElem? (i := 831) (by decide +kernel), List.mem_of_getElem? (i := 1012) (by decide +kernel), List.mem_of_getElem? (i := 1013) (by decide +kernel)⟩
theorem lw_p44 : lw_okq (⟨"PlaneCutsModel", "swapRows", "(II)V"⟩, 33) := ⟨⟨by decide +kernel, by decide +kernel⟩, List.mem_of_getElem? (i := 831) (by decide +kernel), List.mem_of_getElem? (i := 1019) (by decide +kernel), List.mem_of_getElem? (i := 1020) (by decide +kernel)⟩
theorem lw_p45 : lw_okq (⟨"PlaneCutsModel", "shrink", "(I)V"⟩, 33) := ⟨⟨by decide +kernel, by decide +kernel⟩, List.mem_of_getElem? (i := 831) (by decide +kernel), List.mem_of_getElem? (i := 1023) (by decide +kernel), List.mem_of_getElem? (i := 1024) (by decide +kernel)⟩
theorem lw_p46 : lw_okq (⟨"PlaneCutsModel", "isRing", "(I)Z"⟩, 33) := ⟨⟨by decide +kernel, by decide +kernel⟩, List.mem_of_getElem? (i := 831) (by decide +kernel), List.mem_of_getElem? (i := 1033) (by decide +kernel), List.mem_of_getElem? (i := 1034) (by decide +kernel)⟩
theorem lw_p47 : lw_okq (⟨"PlaneCutsModel", "isBound", "(I)Z"⟩, 33) := ⟨⟨by decide +kernel, by decide +kernel⟩, List.mem_of_getElem? (i := 831) (by decide +kernel), List.mem_of_getElem? (i := 1037) (by decide +kernel), List.mem_of_getElem? (i := 1038) (by decide +kernel)⟩
def lw_privs_3 : List (MethodName × Nat) := [(⟨"PlaneCutsModel", "ends", "(I)I"⟩, 33), (⟨"PlaneCutsModel", "push", "()V"⟩, 33), (⟨"PlaneCutsModel", "doPlane", "(IIII)I"⟩, 33), (⟨"PlaneCutsModel", "isThere", "(I)Z"⟩, 33), (⟨"PlaneCutsModel", "addsTold", "()V"⟩, 33), (⟨"PlaneCutsModel", "doTurns", "(I)I"⟩, 33), (⟨"PlaneCutsModel", "isPlane", "(I)Z"⟩, 33), (⟨"PlaneCutsModel", "partMany", "()I"⟩, 33), (⟨"PlaneCutsModel", "all", "()I"⟩, 33), (⟨"PlaneCutsModel", "isPart", "(I)Z"⟩, 33), (⟨"PlaneCutsModel", "lay", "()V"⟩, 33), (⟨"PlaneCutsModel", "rankBy", "(I)I"⟩, 33), (⟨"PlaneCutsModel", "swapRows", "(II)V"⟩, 33), (⟨"PlaneCutsModel", "shrink", "(I)V"⟩, 33), (⟨"PlaneCutsModel", "isRing", "(I)Z"⟩, 33), (⟨"PlaneCutsModel", "isBound", "(I)Z"⟩, 33)]
theorem lw_r3 : ∀ q ∈ lw_privs_3, lw_okq q := List.forall_mem_cons.mpr ⟨lw_p32, List.forall_mem_cons.mpr ⟨lw_p33, List.forall_mem_cons.mpr ⟨lw_p34, List.forall_mem_cons.mpr ⟨lw_p35, List.forall_mem_cons.mpr ⟨lw_p36, List.forall_mem_cons.mpr ⟨lw_p37, List.forall_mem_cons.mpr ⟨lw_p38, List.forall_mem_cons.mpr ⟨lw_p39, List.forall_mem_cons.mpr ⟨lw_p40, List.forall_mem_cons.mpr ⟨lw_p41, List.forall_mem_cons.mpr ⟨lw_p42, List.forall_mem_cons.mpr ⟨lw_p43, List.forall_mem_cons.mpr ⟨lw_p44, List.forall_mem_cons.mpr ⟨lw_p45, List.forall_mem_cons.mpr ⟨lw_p46, List.forall_mem_cons.mpr ⟨lw_p47, fun _ h => absurd h List.not_mem_nil⟩⟩⟩⟩⟩⟩⟩⟩⟩⟩⟩⟩⟩⟩⟩⟩
theorem lw_p48 : lw_okq (⟨"PlaneCutsModel", "aboveOf", "(I)I"⟩, 33) := ⟨⟨by decide +kernel, by decide +kernel⟩, List.mem_of_getElem? (i := 831) (by decide +kernel), List.mem_of_getElem? (i := 1041) (by decide +kernel), List.mem_of_getElem? (i := 1042) (by decide +kernel)⟩
theorem lw_p49 : lw_okq (⟨"PlaneCutsModel", "findFactors", "(I)V"⟩, 33) := ⟨⟨by decide +kernel, by decide +kernel⟩, List.mem_of_getElem? (i := 831) (by decide +kernel), List.mem_of_getElem? (i := 1045) (by decide +kernel), List.mem_of_getElem? (i := 1046) (by decide +kernel)⟩
theorem lw_p50 : lw_okq (⟨"PlaneCutsModel", "clearColumn", "(I)V"⟩, 33) := ⟨⟨by decide +kernel, by decide +kernel⟩, List.mem_of_getElem? (i := 831) (by decide +kernel), List.mem_of_getElem? (i := 1049) (by decide +kernel), List.mem_of_getElem? (i := 1050) (by decide +kernel)⟩
theorem lw_p51 : lw_okq (⟨"PlaneCutsModel", "doDrops", "(I)I"⟩, 33) := ⟨⟨by decide +kernel, by decide +kernel⟩, List.mem_of_getElem? (i := 831) (by decide +kernel), List.mem_of_getElem? (i := 1057) (by decide +kernel), List.mem_of_getElem? (i := 1058) (by decide +kernel)⟩
theorem lw_p52 : lw_okq (⟨"PlaneCutsModel", "doSwaps", "(II)I"⟩, 33) := ⟨⟨by decide +kernel, by decide +kernel⟩, List.mem_of_getElem? (i := 831) (by decide +kernel), List.mem_of_getElem? (i := 1065) (by decide +kernel), List.mem_of_getElem? (i := 1066) (by decide +kernel)⟩
theorem lw_p53 : lw_okq (⟨"PlaneCutsModel", "doMakes", "(I)I"⟩, 33) := ⟨⟨by decide +kernel, by decide +kernel⟩, List.mem_of_getElem? (i := 831) (by decide +kernel), List.mem_of_getElem? (i := 1073) (by decide +kernel), List.mem_of_getElem? (i := 1074) (by decide +kernel)⟩
theorem lw_p54 : lw_okq (⟨"PlaneCutsModel", "makesOne", "(IIII)V"⟩, 33) := ⟨⟨by decide +kernel, by decide +kernel⟩, List.mem_of_getElem? (i := 831) (by decide +kernel), List.mem_of_getElem? (i := 1077) (by decide +kernel), List.mem_of_getElem? (i := 1078) (by decide +kernel)⟩
theorem lw_p55 : lw_okq (⟨"PlaneCutsModel", "isSet", "(I)Z"⟩, 33) := ⟨⟨by decide +kernel, by decide +kernel⟩, List.mem_of_getElem? (i := 831) (by decide +kernel), List.mem_of_getElem? (i := 1089) (by decide +kernel), List.mem_of_getElem? (i := 1090) (by decide +kernel)⟩
theorem lw_p56 : lw_okq (⟨"PlaneCutsModel", "closedOf", "(I)I"⟩, 33) := ⟨⟨by decide +kernel, by decide +kernel⟩, List.mem_of_getElem? (i := 831) (by decide +kernel), List.mem_of_getElem? (i := 1097) (by decide +kernel), List.mem_of_getElem? (i := 1098) (by decide +kernel)⟩
theorem lw_p57 : lw_okq (⟨"PlaneCutsModel", "flatOf", "(II)I"⟩, 33) := ⟨⟨by decide +kernel, by decide +kernel⟩, List.mem_of_getElem? (i := 831) (by decide +kernel), List.mem_of_getElem? (i := 1105) (by decide +kernel), List.mem_of_getElem? (i := 1106) (by decide +kernel)⟩
theorem lw_p58 : lw_okq (⟨"PlaneCutsModel", "isFlat", "(I)Z"⟩, 33) := ⟨⟨by decide +kernel, by decide +kernel⟩, List.mem_of_getElem? (i := 831) (by decide +kernel), List.mem_of_getElem? (i := 1109) (by decide +kernel), List.mem_of_getElem? (i := 1110) (by decide +kernel)⟩
theorem lw_p59 : lw_okq (⟨"PlaneCutsModel", "polynomialOf", "(II)I"⟩, 33) := ⟨⟨by decide +kernel, by decide +kernel⟩, List.mem_of_getElem? (i := 831) (by decide +kernel), List.mem_of_getElem? (i := 1129) (by decide +kernel), List.mem_of_getElem? (i := 1130) (by decide +kernel)⟩
theorem lw_p60 : lw_okq (⟨"PlaneCutsModel", "wallsOf", "(I)I"⟩, 33) := ⟨⟨by decide +kernel, by decide +kernel⟩, List.mem_of_getElem? (i := 831) (by decide +kernel), List.mem_of_getElem? (i := 1150) (by decide +kernel), List.mem_of_getElem? (i := 1151) (by decide +kernel)⟩
theorem lw_p61 : lw_okq (⟨"PlaneCutsModel", "isChain", "()Z"⟩, 33) := ⟨⟨by decide +kernel, by decide +kernel⟩, List.mem_of_getElem? (i := 831) (by decide +kernel), List.mem_of_getElem? (i := 1162) (by decide +kernel), List.mem_of_getElem? (i := 1163) (by decide +kernel)⟩
theorem lw_p62 : lw_okq (⟨"PlaneCutsModel", "isEven", "(I)Z"⟩, 33) := ⟨⟨by decide +kernel, by decide +kernel⟩, List.mem_of_getElem? (i := 831) (by decide +kernel), List.mem_of_getElem? (i := 1166) (by decide +kernel), List.mem_of_getElem? (i := 1167) (by decide +kernel)⟩
theorem lw_p63 : lw_okq (⟨"PlaneCutsModel", "placesOver", "(I)I"⟩, 33) := ⟨⟨by decide +kernel, by decide +kernel⟩, List.mem_of_getElem? (i := 831) (by decide +kernel), List.mem_of_getElem? (i := 1178) (by decide +kernel), List.mem_of_getElem? (i := 1179) (by decide +kernel)⟩
def lw_privs_4 : List (MethodName × Nat) := [(⟨"PlaneCutsModel", "aboveOf", "(I)I"⟩, 33), (⟨"PlaneCutsModel", "findFactors", "(I)V"⟩, 33), (⟨"PlaneCutsModel", "clearColumn", "(I)V"⟩, 33), (⟨"PlaneCutsModel", "doDrops", "(I)I"⟩, 33), (⟨"PlaneCutsModel", "doSwaps", "(II)I"⟩, 33), (⟨"PlaneCutsModel", "doMakes", "(I)I"⟩, 33), (⟨"PlaneCutsModel", "makesOne", "(IIII)V"⟩, 33), (⟨"PlaneCutsModel", "isSet", "(I)Z"⟩, 33), (⟨"PlaneCutsModel", "closedOf", "(I)I"⟩, 33), (⟨"PlaneCutsModel", "flatOf", "(II)I"⟩, 33), (⟨"PlaneCutsModel", "isFlat", "(I)Z"⟩, 33), (⟨"PlaneCutsModel", "polynomialOf", "(II)I"⟩, 33), (⟨"PlaneCutsModel", "wallsOf", "(I)I"⟩, 33), (⟨"PlaneCutsModel", "isChain", "()Z"⟩, 33), (⟨"PlaneCutsModel", "isEven", "(I)Z"⟩, 33), (⟨"PlaneCutsModel", "placesOver", "(I)I"⟩, 33)]
theorem lw_r4 : ∀ q ∈ lw_privs_4, lw_okq q := List.forall_mem_cons.mpr ⟨lw_p48, List.forall_mem_cons.mpr ⟨lw_p49, List.forall_mem_cons.mpr ⟨lw_p50, List.forall_mem_cons.mpr ⟨lw_p51, List.forall_mem_cons.mpr ⟨lw_p52, List.forall_mem_cons.mpr ⟨lw_p53, List.forall_mem_cons.mpr ⟨lw_p54, List.forall_mem_cons.mpr ⟨lw_p55, List.forall_mem_cons.mpr ⟨lw_p56, List.forall_mem_cons.mpr ⟨lw_p57, List.forall_mem_cons.mpr ⟨lw_p58, List.forall_mem_cons.mpr ⟨lw_p59, List.forall_mem_cons.mpr ⟨lw_p60, List.forall_mem_cons.mpr ⟨lw_p61, List.forall_mem_cons.mpr ⟨lw_p62, List.forall_mem_cons.mpr ⟨lw_p63, fun _ h => absurd h List.not_mem_nil⟩⟩⟩⟩⟩⟩⟩⟩⟩⟩⟩⟩⟩⟩⟩⟩
theorem lw_p64 : lw_okq (⟨"PlaneCutsModel", "isGood", "(I)Z"⟩, 33) := ⟨⟨by decide +kernel, by decide +kernel⟩, List.mem_of_getElem? (i := 831) (by decide +kernel), List.mem_of_getElem? (i := 1182) (by decide +kernel), List.mem_of_getElem? (i := 1183) (by decide +kernel)⟩
theorem lw_p65 : lw_okq (⟨"PlaneCutsModel", "isFreeOver", "(II)Z"⟩, 33) := ⟨⟨by decide +kernel, by decide +kernel⟩, List.mem_of_getElem? (i := 831) (by decide +kernel), List.mem_of_getElem? (i := 1186) (by decide +kernel), List.mem_of_getElem? (i := 1187) (by decide +kernel)⟩
theorem lw_p66 : lw_okq (⟨"PlaneCutsModel", "baseOf", "(II)I"⟩, 33) := ⟨⟨by decide +kernel, by decide +kernel⟩, List.mem_of_getElem? (i := 831) (by decide +kernel), List.mem_of_getElem? (i := 1194) (by decide +kernel), List.mem_of_getElem? (i := 1195) (by decide +kernel)⟩
theorem lw_p67 : lw_okq (⟨"PlaneCutsModel", "isBase", "(I)Z"⟩, 33) := ⟨⟨by decide +kernel, by decide +kernel⟩, List.mem_of_getElem? (i := 831) (by decide +kernel), List.mem_of_getElem? (i := 1198) (by decide +kernel), List.mem_of_getElem? (i := 1199) (by decide +kernel)⟩
theorem lw_p68 : lw_okq (⟨"PlaneCutsModel", "broken", "(I)I"⟩, 33) := ⟨⟨by decide +kernel, by decide +kernel⟩, List.mem_of_getElem? (i := 831) (by decide +kernel), List.mem_of_getElem? (i := 1202) (by decide +kernel), List.mem_of_getElem? (i := 1203) (by decide +kernel)⟩
theorem lw_p69 : lw_okq (⟨"PlaneCutsModel", "spread", "(II)V"⟩, 33) := ⟨⟨by decide +kernel, by decide +kernel⟩, List.mem_of_getElem? (i := 831) (by decide +kernel), List.mem_of_getElem? (i := 1210) (by decide +kernel), List.mem_of_getElem? (i := 1211) (by decide +kernel)⟩
theorem lw_p70 : lw_okq (⟨"PlaneCutsModel", "here", "()I"⟩, 33) := ⟨⟨by decide +kernel, by decide +kernel⟩, List.mem_of_getElem? (i := 831) (by decide +kernel), List.mem_of_getElem? (i := 1229) (by decide +kernel), List.mem_of_getElem? (i := 1230) (by decide +kernel)⟩
theorem lw_p71 : lw_okq (⟨"PlaneCutsModel", "must", "(Z)V"⟩, 33) := ⟨⟨by decide +kernel, by decide +kernel⟩, List.mem_of_getElem? (i := 831) (by decide +kernel), List.mem_of_getElem? (i := 1233) (by decide +kernel), List.mem_of_getElem? (i := 1234) (by decide +kernel)⟩
theorem lw_p72 : lw_okq (⟨"PlaneCutsModel", "readOrder", "(I)I"⟩, 33) := ⟨⟨by decide +kernel, by decide +kernel⟩, List.mem_of_getElem? (i := 831) (by decide +kernel), List.mem_of_getElem? (i := 1237) (by decide +kernel), List.mem_of_getElem? (i := 1238) (by decide +kernel)⟩
theorem lw_p73 : lw_okq (⟨"PlaneCutsModel", "signed", "()I"⟩, 33) := ⟨⟨by decide +kernel, by decide +kernel⟩, List.mem_of_getElem? (i := 831) (by decide +kernel), List.mem_of_getElem? (i := 1244) (by decide +kernel), List.mem_of_getElem? (i := 1245) (by decide +kernel)⟩
theorem lw_p74 : lw_okq (⟨"PlaneCutsModel", "figure", "(II)I"⟩, 33) := ⟨⟨by decide +kernel, by decide +kernel⟩, List.mem_of_getElem? (i := 831) (by decide +kernel), List.mem_of_getElem? (i := 1248) (by decide +kernel), List.mem_of_getElem? (i := 1249) (by decide +kernel)⟩
theorem lw_p75 : lw_okq (⟨"PlaneCutsModel", "plain", "(Z)I"⟩, 33) := ⟨⟨by decide +kernel, by decide +kernel⟩, List.mem_of_getElem? (i := 831) (by decide +kernel), List.mem_of_getElem? (i := 1252) (by decide +kernel), List.mem_of_getElem? (i := 1253) (by decide +kernel)⟩
theorem lw_p76 : lw_okq (⟨"PlaneCutsModel", "doOrder", "(I)I"⟩, 33) := ⟨⟨by decide +kernel, by decide +kernel⟩, List.mem_of_getElem? (i := 831) (by decide +kernel), List.mem_of_getElem? (i := 1256) (by decide +kernel), List.mem_of_getElem? (i := 1257) (by decide +kernel)⟩
theorem lw_p77 : lw_okq (⟨"PlaneCutsModel", "cause", "(I)I"⟩, 33) := ⟨⟨by decide +kernel, by decide +kernel⟩, List.mem_of_getElem? (i := 831) (by decide +kernel), List.mem_of_getElem? (i := 1264) (by decide +kernel), List.mem_of_getElem? (i := 1265) (by decide +kernel)⟩
theorem lw_p78 : lw_okq (⟨"PlaneCutsModel", "toldOf", "(I)I"⟩, 33) := ⟨⟨by decide +kernel, by decide +kernel⟩, List.mem_of_getElem? (i := 831) (by decide +kernel), List.mem_of_getElem? (i := 1272) (by decide +kernel), List.mem_of_getElem? (i := 1273) (by decide +kernel)⟩
theorem lw_p79 : lw_okq (⟨"PlaneCutsModel", "mix", "(I)V"⟩, 33) := ⟨⟨by decide +kernel, by decide +kernel⟩, List.mem_of_getElem? (i := 831) (by decide +kernel), List.mem_of_getElem? (i := 1281) (by decide +kernel), List.mem_of_getElem? (i := 1282) (by decide +kernel)⟩
def lw_privs_5 : List (MethodName × Nat) := [(⟨"PlaneCutsModel", "isGood", "(I)Z"⟩, 33), (⟨"PlaneCutsModel", "isFreeOver", "(II)Z"⟩, 33), (⟨"PlaneCutsModel", "baseOf", "(II)I"⟩, 33), (⟨"PlaneCutsModel", "isBase", "(I)Z"⟩, 33), (⟨"PlaneCutsModel", "broken", "(I)I"⟩, 33), (⟨"PlaneCutsModel", "spread", "(II)V"⟩, 33), (⟨"PlaneCutsModel", "here", "()I"⟩, 33), (⟨"PlaneCutsModel", "must", "(Z)V"⟩, 33), (⟨"PlaneCutsModel", "readOrder", "(I)I"⟩, 33), (⟨"PlaneCutsModel", "signed", "()I"⟩, 33), (⟨"PlaneCutsModel", "figure", "(II)I"⟩, 33), (⟨"PlaneCutsModel", "plain", "(Z)I"⟩, 33), (⟨"PlaneCutsModel", "doOrder", "(I)I"⟩, 33), (⟨"PlaneCutsModel", "cause", "(I)I"⟩, 33), (⟨"PlaneCutsModel", "toldOf", "(I)I"⟩, 33), (⟨"PlaneCutsModel", "mix", "(I)V"⟩, 33)]
theorem lw_r5 : ∀ q ∈ lw_privs_5, lw_okq q := List.forall_mem_cons.mpr ⟨lw_p64, List.forall_mem_cons.mpr ⟨lw_p65, List.forall_mem_cons.mpr ⟨lw_p66, List.forall_mem_cons.mpr ⟨lw_p67, List.forall_mem_cons.mpr ⟨lw_p68, List.forall_mem_cons.mpr ⟨lw_p69, List.forall_mem_cons.mpr ⟨lw_p70, List.forall_mem_cons.mpr ⟨lw_p71, List.forall_mem_cons.mpr ⟨lw_p72, List.forall_mem_cons.mpr ⟨lw_p73, List.forall_mem_cons.mpr ⟨lw_p74, List.forall_mem_cons.mpr ⟨lw_p75, List.forall_mem_cons.mpr ⟨lw_p76, List.forall_mem_cons.mpr ⟨lw_p77, List.forall_mem_cons.mpr ⟨lw_p78, List.forall_mem_cons.mpr ⟨lw_p79, fun _ h => absurd h List.not_mem_nil⟩⟩⟩⟩⟩⟩⟩⟩⟩⟩⟩⟩⟩⟩⟩⟩
def lw_privs : List (MethodName × Nat) := lw_privs_1 ++ (lw_privs_2 ++ (lw_privs_3 ++ (lw_privs_4 ++ (lw_privs_5))))
def lw_tbl : List Cond := k2_sels lw_privs ++ tables_1
theorem lw_privs_ok : ∀ q ∈ lw_privs, lw_okq q := by
  show ∀ q ∈ lw_privs_1 ++ (lw_privs_2 ++ (lw_privs_3 ++ (lw_privs_4 ++ (lw_privs_5)))), lw_okq q
  exact List.forall_mem_append.mpr ⟨lw_r1, List.forall_mem_append.mpr ⟨lw_r2, List.forall_mem_append.mpr ⟨lw_r3, List.forall_mem_append.mpr ⟨lw_r4, lw_r5⟩⟩⟩⟩
-- ===== end of PART A; then your names; then what follows =====
end
section
/-! ===== BEGIN printed: names, fields, word lists, decode rows ===== -/
def RX0 : String := "PlaneCuts$Algebra"
def TX0 : u_T := fun k => match k with
  | 0 => ("PlaneCuts$Algebra", "plan", "LPlaneCuts$Arrangement;", true)
  | 1 => ("PlaneCuts$Algebra", "matroid", "LPlaneCuts$Matroid;", true)
  | 2 => ("PlaneCuts$Algebra", "broken", "[I", true)
  | 3 => ("PlaneCuts$Algebra", "sum", "[I", true)
  | 4 => ("PlaneCuts$Algebra", "picked", "LPlaneCuts$Listing;", true)
  | _ => ("PlaneCuts$Algebra", "seen", "I", false)
def tyX0 : Nat → FieldType := fun k => match k with
  | 0 => .object "PlaneCuts$Arrangement"
  | 1 => .object "PlaneCuts$Matroid"
  | 2 => .array .int
  | 3 => .array .int
  | 4 => .object "PlaneCuts$Listing"
  | _ => .int
abbrev wsX00 : List Cond := u_ws RX0 TX0 6
theorem nmX0 : ∀ a, a < 6 → ∀ b, b < 6 → a ≠ b → (TX0 a).2.1 ≠ (TX0 b).2.1 := by decide +kernel
theorem tyX0_ok : ∀ k, k < 6 → parseFieldDescriptor (TX0 k).2.2.1 = some (tyX0 k) := by decide +kernel
abbrev cX0_init : ByteArray := prog_2_method_1_code
def yX0_init : MethodName := ⟨RX0, "<init>", "(LPlaneCuts$Arrangement;LPlaneCuts$Matroid;)V"⟩
abbrev cX0_refresh : ByteArray := prog_2_method_2_code
def yX0_refresh : MethodName := ⟨RX0, "refresh", "()V"⟩
abbrev cX0_baseSetsOfSize : ByteArray := prog_2_method_3_code
def yX0_baseSetsOfSize : MethodName := ⟨RX0, "baseSetsOfSize", "(I)LPlaneCuts$Listing;"⟩
abbrev cX0_partOf : ByteArray := prog_2_method_4_code
def yX0_partOf : MethodName := ⟨RX0, "partOf", "(II)I"⟩
abbrev cX0_replace : ByteArray := prog_2_method_5_code
def yX0_replace : MethodName := ⟨RX0, "replace", "(II)V"⟩
def RX1 : String := "PlaneCuts$Arrangement"
def TX1 : u_T := fun k => match k with
  | 0 => ("PlaneCuts$Arrangement", "coefficients", "[I", true)
  | 1 => ("PlaneCuts$Arrangement", "dimensions", "I", false)
  | 2 => ("PlaneCuts$Arrangement", "size", "I", false)
  | _ => ("PlaneCuts$Arrangement", "version", "I", false)
def tyX1 : Nat → FieldType := fun k => match k with
  | 0 => .array .int
  | 1 => .int
  | 2 => .int
  | _ => .int
abbrev wsX10 : List Cond := u_ws RX1 TX1 4
theorem nmX1 : ∀ a, a < 4 → ∀ b, b < 4 → a ≠ b → (TX1 a).2.1 ≠ (TX1 b).2.1 := by decide +kernel
theorem tyX1_ok : ∀ k, k < 4 → parseFieldDescriptor (TX1 k).2.2.1 = some (tyX1 k) := by decide +kernel
abbrev cX1_init : ByteArray := prog_3_method_1_code
def yX1_init : MethodName := ⟨RX1, "<init>", "()V"⟩
abbrev cX1_all : ByteArray := prog_3_method_2_code
def yX1_all : MethodName := ⟨RX1, "all", "()I"⟩
abbrev cX1_has : ByteArray := prog_3_method_3_code
def yX1_has : MethodName := ⟨RX1, "has", "(I)Z"⟩
abbrev cX1_hasAll : ByteArray := prog_3_method_4_code
def yX1_hasAll : MethodName := ⟨RX1, "hasAll", "(I)Z"⟩
abbrev cX1_at : ByteArray := prog_3_method_5_code
def yX1_at : MethodName := ⟨RX1, "at", "(II)I"⟩
abbrev cX1_copyFrom : ByteArray := prog_3_method_6_code
def yX1_copyFrom : MethodName := ⟨RX1, "copyFrom", "(LPlaneCuts$Arrangement;)V"⟩
abbrev cX1_restart : ByteArray := prog_3_method_7_code
def yX1_restart : MethodName := ⟨RX1, "restart", "(I)I"⟩
abbrev cX1_add : ByteArray := prog_3_method_8_code
def yX1_add : MethodName := ⟨RX1, "add", "(IIII)I"⟩
abbrev cX1_isCoefficient : ByteArray := prog_3_method_9_code
def yX1_isCoefficient : MethodName := ⟨RX1, "isCoefficient", "(I)Z"⟩
abbrev cX1_isSame : ByteArray := prog_3_method_10_code
def yX1_isSame : MethodName := ⟨RX1, "isSame", "(IIIII)Z"⟩
abbrev cX1_put : ByteArray := prog_3_method_11_code
def yX1_put : MethodName := ⟨RX1, "put", "(IIII)I"⟩
abbrev cX1_negate : ByteArray := prog_3_method_12_code
def yX1_negate : MethodName := ⟨RX1, "negate", "(I)I"⟩
abbrev cX1_remove : ByteArray := prog_3_method_13_code
def yX1_remove : MethodName := ⟨RX1, "remove", "(I)I"⟩
abbrev cX1_exchange : ByteArray := prog_3_method_14_code
def yX1_exchange : MethodName := ⟨RX1, "exchange", "(II)I"⟩
abbrev cX1_fill : ByteArray := prog_3_method_15_code
def yX1_fill : MethodName := ⟨RX1, "fill", "(I)I"⟩
abbrev cX1_putPairs : ByteArray := prog_3_method_16_code
def yX1_putPairs : MethodName := ⟨RX1, "putPairs", "(Z)V"⟩
abbrev cX1_putPair : ByteArray := prog_3_method_17_code
def yX1_putPair : MethodName := ⟨RX1, "putPair", "(IIII)V"⟩
def RX2 : String := "PlaneCuts$FiniteFields"
def TX2 : u_T := fun k => match k with
  | 0 => ("PlaneCuts$FiniteFields", "plan", "LPlaneCuts$Arrangement;", true)
  | 1 => ("PlaneCuts$FiniteFields", "matroid", "LPlaneCuts$Matroid;", true)
  | 2 => ("PlaneCuts$FiniteFields", "matrix", "LPlaneCuts$Matrix;", true)
  | _ => ("PlaneCuts$FiniteFields", "point", "[I", true)
def tyX2 : Nat → FieldType := fun k => match k with
  | 0 => .object "PlaneCuts$Arrangement"
  | 1 => .object "PlaneCuts$Matroid"
  | 2 => .object "PlaneCuts$Matrix"
  | _ => .array .int
abbrev wsX20 : List Cond := u_ws RX2 TX2 4
theorem nmX2 : ∀ a, a < 4 → ∀ b, b < 4 → a ≠ b → (TX2 a).2.1 ≠ (TX2 b).2.1 := by decide +kernel
theorem tyX2_ok : ∀ k, k < 4 → parseFieldDescriptor (TX2 k).2.2.1 = some (tyX2 k) := by decide +kernel
abbrev cX2_init : ByteArray := prog_4_method_1_code
def yX2_init : MethodName := ⟨RX2, "<init>", "(LPlaneCuts$Arrangement;LPlaneCuts$Matroid;)V"⟩
abbrev cX2_countFreePoints : ByteArray := prog_4_method_2_code
def yX2_countFreePoints : MethodName := ⟨RX2, "countFreePoints", "(I)I"⟩
abbrev cX2_setPoint : ByteArray := prog_4_method_3_code
def yX2_setPoint : MethodName := ⟨RX2, "setPoint", "(II)V"⟩
abbrev cX2_isFree : ByteArray := prog_4_method_4_code
def yX2_isFree : MethodName := ⟨RX2, "isFree", "(I)Z"⟩
abbrev cX2_isGood : ByteArray := prog_4_method_5_code
def yX2_isGood : MethodName := ⟨RX2, "isGood", "(I)Z"⟩
def RX3 : String := "PlaneCuts$History"
def TX3 : u_T := fun k => match k with
  | 0 => ("PlaneCuts$History", "ring", "[LPlaneCuts$Arrangement;", true)
  | 1 => ("PlaneCuts$History", "next", "I", false)
  | _ => ("PlaneCuts$History", "count", "I", false)
def tyX3 : Nat → FieldType := fun k => match k with
  | 0 => .array (.object "PlaneCuts$Arrangement")
  | 1 => .int
  | _ => .int
abbrev wsX30 : List Cond := u_ws RX3 TX3 3
theorem nmX3 : ∀ a, a < 3 → ∀ b, b < 3 → a ≠ b → (TX3 a).2.1 ≠ (TX3 b).2.1 := by decide +kernel
theorem tyX3_ok : ∀ k, k < 3 → parseFieldDescriptor (TX3 k).2.2.1 = some (tyX3 k) := by decide +kernel
abbrev cX3_init : ByteArray := prog_5_method_1_code
def yX3_init : MethodName := ⟨RX3, "<init>", "()V"⟩
abbrev cX3_keep : ByteArray := prog_5_method_2_code
def yX3_keep : MethodName := ⟨RX3, "keep", "(LPlaneCuts$Arrangement;)V"⟩
abbrev cX3_restore : ByteArray := prog_5_method_3_code
def yX3_restore : MethodName := ⟨RX3, "restore", "(LPlaneCuts$Arrangement;)Z"⟩
def RX4 : String := "PlaneCuts$Listing"
def TX4 : u_T := fun k => match k with
  | 0 => ("PlaneCuts$Listing", "sets", "[I", true)
  | _ => ("PlaneCuts$Listing", "count", "I", false)
def tyX4 : Nat → FieldType := fun k => match k with
  | 0 => .array .int
  | _ => .int
abbrev wsX40 : List Cond := u_ws RX4 TX4 2
theorem nmX4 : ∀ a, a < 2 → ∀ b, b < 2 → a ≠ b → (TX4 a).2.1 ≠ (TX4 b).2.1 := by decide +kernel
theorem tyX4_ok : ∀ k, k < 2 → parseFieldDescriptor (TX4 k).2.2.1 = some (tyX4 k) := by decide +kernel
abbrev cX4_init : ByteArray := prog_6_method_1_code
def yX4_init : MethodName := ⟨RX4, "<init>", "(I)V"⟩
abbrev cX4_append : ByteArray := prog_6_method_2_code
def yX4_append : MethodName := ⟨RX4, "append", "(I)V"⟩
abbrev cX4_answer : ByteArray := prog_6_method_3_code
def yX4_answer : MethodName := ⟨RX4, "answer", "(I)I"⟩
def RX5 : String := "PlaneCuts$Matrix"
def TX5 : u_T := fun k => match k with
  | 0 => ("PlaneCuts$Matrix", "cells", "[J", true)
  | 1 => ("PlaneCuts$Matrix", "rows", "I", false)
  | 2 => ("PlaneCuts$Matrix", "columns", "I", false)
  | _ => ("PlaneCuts$Matrix", "width", "I", false)
def tyX5 : Nat → FieldType := fun k => match k with
  | 0 => .array .long
  | 1 => .int
  | 2 => .int
  | _ => .int
abbrev wsX50 : List Cond := u_ws RX5 TX5 4
theorem nmX5 : ∀ a, a < 4 → ∀ b, b < 4 → a ≠ b → (TX5 a).2.1 ≠ (TX5 b).2.1 := by decide +kernel
theorem tyX5_ok : ∀ k, k < 4 → parseFieldDescriptor (TX5 k).2.2.1 = some (tyX5 k) := by decide +kernel
abbrev cX5_init : ByteArray := prog_7_method_1_code
def yX5_init : MethodName := ⟨RX5, "<init>", "()V"⟩
abbrev cX5_load : ByteArray := prog_7_method_2_code
def yX5_load : MethodName := ⟨RX5, "load", "(LPlaneCuts$Arrangement;I)V"⟩
abbrev cX5_trace : ByteArray := prog_7_method_3_code
def yX5_trace : MethodName := ⟨RX5, "trace", "()V"⟩
abbrev cX5_traceInLast : ByteArray := prog_7_method_4_code
def yX5_traceInLast : MethodName := ⟨RX5, "traceInLast", "(I)J"⟩
abbrev cX5_reduce : ByteArray := prog_7_method_5_code
def yX5_reduce : MethodName := ⟨RX5, "reduce", "(I)I"⟩
abbrev cX5_takeRemainders : ByteArray := prog_7_method_6_code
def yX5_takeRemainders : MethodName := ⟨RX5, "takeRemainders", "(I)V"⟩
abbrev cX5_bringUp : ByteArray := prog_7_method_7_code
def yX5_bringUp : MethodName := ⟨RX5, "bringUp", "(II)Z"⟩
abbrev cX5_strike : ByteArray := prog_7_method_8_code
def yX5_strike : MethodName := ⟨RX5, "strike", "(IIII)V"⟩
def RX6 : String := "PlaneCuts$Matroid"
def TX6 : u_T := fun k => match k with
  | 0 => ("PlaneCuts$Matroid", "plan", "LPlaneCuts$Arrangement;", true)
  | 1 => ("PlaneCuts$Matroid", "matrix", "LPlaneCuts$Matrix;", true)
  | 2 => ("PlaneCuts$Matroid", "ranks", "[I", true)
  | 3 => ("PlaneCuts$Matroid", "flat", "[Z", true)
  | 4 => ("PlaneCuts$Matroid", "circuits", "LPlaneCuts$Listing;", true)
  | 5 => ("PlaneCuts$Matroid", "picked", "LPlaneCuts$Listing;", true)
  | 6 => ("PlaneCuts$Matroid", "factors", "[I", true)
  | _ => ("PlaneCuts$Matroid", "seen", "I", false)
def tyX6 : Nat → FieldType := fun k => match k with
  | 0 => .object "PlaneCuts$Arrangement"
  | 1 => .object "PlaneCuts$Matrix"
  | 2 => .array .int
  | 3 => .array .boolean
  | 4 => .object "PlaneCuts$Listing"
  | 5 => .object "PlaneCuts$Listing"
  | 6 => .array .int
  | _ => .int
abbrev wsX60 : List Cond := u_ws RX6 TX6 8
theorem nmX6 : ∀ a, a < 8 → ∀ b, b < 8 → a ≠ b → (TX6 a).2.1 ≠ (TX6 b).2.1 := by decide +kernel
theorem tyX6_ok : ∀ k, k < 8 → parseFieldDescriptor (TX6 k).2.2.1 = some (tyX6 k) := by decide +kernel
abbrev cX6_init : ByteArray := prog_8_method_1_code
def yX6_init : MethodName := ⟨RX6, "<init>", "(LPlaneCuts$Arrangement;)V"⟩
abbrev cX6_refresh : ByteArray := prog_8_method_2_code
def yX6_refresh : MethodName := ⟨RX6, "refresh", "()V"⟩
abbrev cX6_rankFromSubsets : ByteArray := prog_8_method_3_code
def yX6_rankFromSubsets : MethodName := ⟨RX6, "rankFromSubsets", "(I)I"⟩
abbrev cX6_closureFromRanks : ByteArray := prog_8_method_4_code
def yX6_closureFromRanks : MethodName := ⟨RX6, "closureFromRanks", "(I)I"⟩
abbrev cX6_isCircuit : ByteArray := prog_8_method_5_code
def yX6_isCircuit : MethodName := ⟨RX6, "isCircuit", "(II)Z"⟩
abbrev cX6_rankOf : ByteArray := prog_8_method_6_code
def yX6_rankOf : MethodName := ⟨RX6, "rankOf", "(I)I"⟩
abbrev cX6_closureOf : ByteArray := prog_8_method_7_code
def yX6_closureOf : MethodName := ⟨RX6, "closureOf", "(I)I"⟩
abbrev cX6_isFlat : ByteArray := prog_8_method_8_code
def yX6_isFlat : MethodName := ⟨RX6, "isFlat", "(I)Z"⟩
abbrev cX6_isIndependent : ByteArray := prog_8_method_9_code
def yX6_isIndependent : MethodName := ⟨RX6, "isIndependent", "(I)Z"⟩
abbrev cX6_flatsOfRank : ByteArray := prog_8_method_10_code
def yX6_flatsOfRank : MethodName := ⟨RX6, "flatsOfRank", "(I)LPlaneCuts$Listing;"⟩
abbrev cX6_circuits : ByteArray := prog_8_method_11_code
def yX6_circuits : MethodName := ⟨RX6, "circuits", "()LPlaneCuts$Listing;"⟩
abbrev cX6_factorsOf : ByteArray := prog_8_method_12_code
def yX6_factorsOf : MethodName := ⟨RX6, "factorsOf", "(I)[I"⟩
abbrev cX6_commonDivisor : ByteArray := prog_8_method_13_code
def yX6_commonDivisor : MethodName := ⟨RX6, "commonDivisor", "(JJ)J"⟩
abbrev cX6_coefficient : ByteArray := prog_8_method_14_code
def yX6_coefficient : MethodName := ⟨RX6, "coefficient", "(II)I"⟩
abbrev cX6_coefficientFromRanks : ByteArray := prog_8_method_15_code
def yX6_coefficientFromRanks : MethodName := ⟨RX6, "coefficientFromRanks", "(II)I"⟩
abbrev cX6_moebius : ByteArray := prog_8_method_16_code
def yX6_moebius : MethodName := ⟨RX6, "moebius", "(I)I"⟩
abbrev cX6_valueAt : ByteArray := prog_8_method_17_code
def yX6_valueAt : MethodName := ⟨RX6, "valueAt", "(I)I"⟩
abbrev cX6_countRegions : ByteArray := prog_8_method_18_code
def yX6_countRegions : MethodName := ⟨RX6, "countRegions", "()I"⟩
def RX7 : String := "PlaneCuts$ModularFlats"
def TX7 : u_T := fun k => match k with
  | 0 => ("PlaneCuts$ModularFlats", "plan", "LPlaneCuts$Arrangement;", true)
  | 1 => ("PlaneCuts$ModularFlats", "matroid", "LPlaneCuts$Matroid;", true)
  | 2 => ("PlaneCuts$ModularFlats", "modular", "[Z", true)
  | 3 => ("PlaneCuts$ModularFlats", "leads", "[Z", true)
  | 4 => ("PlaneCuts$ModularFlats", "links", "[I", true)
  | _ => ("PlaneCuts$ModularFlats", "seen", "I", false)
def tyX7 : Nat → FieldType := fun k => match k with
  | 0 => .object "PlaneCuts$Arrangement"
  | 1 => .object "PlaneCuts$Matroid"
  | 2 => .array .boolean
  | 3 => .array .boolean
  | 4 => .array .int
  | _ => .int
abbrev wsX70 : List Cond := u_ws RX7 TX7 6
theorem nmX7 : ∀ a, a < 6 → ∀ b, b < 6 → a ≠ b → (TX7 a).2.1 ≠ (TX7 b).2.1 := by decide +kernel
theorem tyX7_ok : ∀ k, k < 6 → parseFieldDescriptor (TX7 k).2.2.1 = some (tyX7 k) := by decide +kernel
abbrev cX7_init : ByteArray := prog_9_method_1_code
def yX7_init : MethodName := ⟨RX7, "<init>", "(LPlaneCuts$Arrangement;LPlaneCuts$Matroid;)V"⟩
abbrev cX7_refresh : ByteArray := prog_9_method_2_code
def yX7_refresh : MethodName := ⟨RX7, "refresh", "()V"⟩
abbrev cX7_isModular : ByteArray := prog_9_method_3_code
def yX7_isModular : MethodName := ⟨RX7, "isModular", "(I)Z"⟩
abbrev cX7_nextAbove : ByteArray := prog_9_method_4_code
def yX7_nextAbove : MethodName := ⟨RX7, "nextAbove", "(I)I"⟩
abbrev cX7_hasChain : ByteArray := prog_9_method_5_code
def yX7_hasChain : MethodName := ⟨RX7, "hasChain", "()Z"⟩
abbrev cX7_linkAt : ByteArray := prog_9_method_6_code
def yX7_linkAt : MethodName := ⟨RX7, "linkAt", "(I)I"⟩
abbrev cX7_stepAt : ByteArray := prog_9_method_7_code
def yX7_stepAt : MethodName := ⟨RX7, "stepAt", "(I)I"⟩
abbrev cX7_countOfRank : ByteArray := prog_9_method_8_code
def yX7_countOfRank : MethodName := ⟨RX7, "countOfRank", "(I)I"⟩
def RX8 : String := "PlaneCuts$Regions"
def TX8 : u_T := fun k => match k with
  | 0 => ("PlaneCuts$Regions", "plan", "LPlaneCuts$Arrangement;", true)
  | 1 => ("PlaneCuts$Regions", "matroid", "LPlaneCuts$Matroid;", true)
  | 2 => ("PlaneCuts$Regions", "real", "[Z", true)
  | 3 => ("PlaneCuts$Regions", "galleries", "[I", true)
  | 4 => ("PlaneCuts$Regions", "listing", "LPlaneCuts$Listing;", true)
  | _ => ("PlaneCuts$Regions", "seen", "I", false)
def tyX8 : Nat → FieldType := fun k => match k with
  | 0 => .object "PlaneCuts$Arrangement"
  | 1 => .object "PlaneCuts$Matroid"
  | 2 => .array .boolean
  | 3 => .array .int
  | 4 => .object "PlaneCuts$Listing"
  | _ => .int
abbrev wsX80 : List Cond := u_ws RX8 TX8 6
theorem nmX8 : ∀ a, a < 6 → ∀ b, b < 6 → a ≠ b → (TX8 a).2.1 ≠ (TX8 b).2.1 := by decide +kernel
theorem tyX8_ok : ∀ k, k < 6 → parseFieldDescriptor (TX8 k).2.2.1 = some (tyX8 k) := by decide +kernel
abbrev cX8_init : ByteArray := prog_10_method_1_code
def yX8_init : MethodName := ⟨RX8, "<init>", "(LPlaneCuts$Arrangement;LPlaneCuts$Matroid;)V"⟩
abbrev cX8_refresh : ByteArray := prog_10_method_2_code
def yX8_refresh : MethodName := ⟨RX8, "refresh", "()V"⟩
abbrev cX8_positivePart : ByteArray := prog_10_method_3_code
def yX8_positivePart : MethodName := ⟨RX8, "positivePart", "(I)I"⟩
abbrev cX8_strike : ByteArray := prog_10_method_4_code
def yX8_strike : MethodName := ⟨RX8, "strike", "(II)V"⟩
abbrev cX8_listed : ByteArray := prog_10_method_5_code
def yX8_listed : MethodName := ⟨RX8, "listed", "()LPlaneCuts$Listing;"⟩
abbrev cX8_isRegion : ByteArray := prog_10_method_6_code
def yX8_isRegion : MethodName := ⟨RX8, "isRegion", "(I)Z"⟩
abbrev cX8_wallsOf : ByteArray := prog_10_method_7_code
def yX8_wallsOf : MethodName := ⟨RX8, "wallsOf", "(I)I"⟩
abbrev cX8_countGalleries : ByteArray := prog_10_method_8_code
def yX8_countGalleries : MethodName := ⟨RX8, "countGalleries", "(II)I"⟩
abbrev cX8_sumOfEarlier : ByteArray := prog_10_method_9_code
def yX8_sumOfEarlier : MethodName := ⟨RX8, "sumOfEarlier", "(I)I"⟩
def RX9 : String := "PlaneCuts$Script"
def TX9 : u_T := fun k => match k with
  | 0 => ("PlaneCuts$Script", "bytes", "[B", true)
  | 1 => ("PlaneCuts$Script", "verbs", "[I", true)
  | 2 => ("PlaneCuts$Script", "numbers", "[I", true)
  | 3 => ("PlaneCuts$Script", "length", "I", false)
  | 4 => ("PlaneCuts$Script", "commands", "I", false)
  | _ => ("PlaneCuts$Script", "cursor", "I", false)
def tyX9 : Nat → FieldType := fun k => match k with
  | 0 => .array .byte
  | 1 => .array .int
  | 2 => .array .int
  | 3 => .int
  | 4 => .int
  | _ => .int
abbrev wsX90 : List Cond := u_ws RX9 TX9 6
theorem nmX9 : ∀ a, a < 6 → ∀ b, b < 6 → a ≠ b → (TX9 a).2.1 ≠ (TX9 b).2.1 := by decide +kernel
theorem tyX9_ok : ∀ k, k < 6 → parseFieldDescriptor (TX9 k).2.2.1 = some (tyX9 k) := by decide +kernel
abbrev cX9_init : ByteArray := prog_11_method_1_code
def yX9_init : MethodName := ⟨RX9, "<init>", "()V"⟩
abbrev cX9_append : ByteArray := prog_11_method_2_code
def yX9_append : MethodName := ⟨RX9, "append", "(I)Z"⟩
abbrev cX9_verb : ByteArray := prog_11_method_3_code
def yX9_verb : MethodName := ⟨RX9, "verb", "(I)I"⟩
abbrev cX9_number : ByteArray := prog_11_method_4_code
def yX9_number : MethodName := ⟨RX9, "number", "(II)I"⟩
abbrev cX9_parse : ByteArray := prog_11_method_5_code
def yX9_parse : MethodName := ⟨RX9, "parse", "(I)I"⟩
abbrev cX9_readCommand : ByteArray := prog_11_method_6_code
def yX9_readCommand : MethodName := ⟨RX9, "readCommand", "(I)Z"⟩
abbrev cX9_countNumbers : ByteArray := prog_11_method_7_code
def yX9_countNumbers : MethodName := ⟨RX9, "countNumbers", "(II)I"⟩
abbrev cX9_readNumber : ByteArray := prog_11_method_8_code
def yX9_readNumber : MethodName := ⟨RX9, "readNumber", "(II)Z"⟩
abbrev cX9_isBetween : ByteArray := prog_11_method_9_code
def yX9_isBetween : MethodName := ⟨RX9, "isBetween", "(II)Z"⟩
abbrev cX9_skipSpaces : ByteArray := prog_11_method_10_code
def yX9_skipSpaces : MethodName := ⟨RX9, "skipSpaces", "()V"⟩
def RX10 : String := "PlaneCuts"
def TX10 : u_T := fun k => match k with
  | 0 => ("PlaneCuts", "now", "LPlaneCuts$Arrangement;", true)
  | 1 => ("PlaneCuts", "before", "LPlaneCuts$Arrangement;", true)
  | 2 => ("PlaneCuts", "history", "LPlaneCuts$History;", true)
  | 3 => ("PlaneCuts", "matroid", "LPlaneCuts$Matroid;", true)
  | 4 => ("PlaneCuts", "regions", "LPlaneCuts$Regions;", true)
  | 5 => ("PlaneCuts", "modularFlats", "LPlaneCuts$ModularFlats;", true)
  | 6 => ("PlaneCuts", "fields", "LPlaneCuts$FiniteFields;", true)
  | 7 => ("PlaneCuts", "algebra", "LPlaneCuts$Algebra;", true)
  | 8 => ("PlaneCuts", "script", "LPlaneCuts$Script;", true)
  | 9 => ("PlaneCuts", "bads", "I", false)
  | 10 => ("PlaneCuts", "noes", "I", false)
  | 11 => ("PlaneCuts", "fulls", "I", false)
  | 12 => ("PlaneCuts", "failedError", "I", false)
  | _ => ("PlaneCuts", "failedIndex", "I", false)
def tyX10 : Nat → FieldType := fun k => match k with
  | 0 => .object "PlaneCuts$Arrangement"
  | 1 => .object "PlaneCuts$Arrangement"
  | 2 => .object "PlaneCuts$History"
  | 3 => .object "PlaneCuts$Matroid"
  | 4 => .object "PlaneCuts$Regions"
  | 5 => .object "PlaneCuts$ModularFlats"
  | 6 => .object "PlaneCuts$FiniteFields"
  | 7 => .object "PlaneCuts$Algebra"
  | 8 => .object "PlaneCuts$Script"
  | 9 => .int
  | 10 => .int
  | 11 => .int
  | 12 => .int
  | _ => .int
abbrev wsX100 : List Cond := u_ws RX10 TX10 14
theorem nmX10 : ∀ a, a < 14 → ∀ b, b < 14 → a ≠ b → (TX10 a).2.1 ≠ (TX10 b).2.1 := by decide +kernel
theorem tyX10_ok : ∀ k, k < 14 → parseFieldDescriptor (TX10 k).2.2.1 = some (tyX10 k) := by decide +kernel
abbrev cX10_init : ByteArray := prog_1_method_1_code
def yX10_init : MethodName := ⟨RX10, "<init>", "()V"⟩
abbrev cX10_space : ByteArray := prog_1_method_2_code
def yX10_space : MethodName := ⟨RX10, "space", "(I)I"⟩
abbrev cX10_plane : ByteArray := prog_1_method_3_code
def yX10_plane : MethodName := ⟨RX10, "plane", "(IIII)I"⟩
abbrev cX10_turns : ByteArray := prog_1_method_4_code
def yX10_turns : MethodName := ⟨RX10, "turns", "(I)I"⟩
abbrev cX10_drops : ByteArray := prog_1_method_5_code
def yX10_drops : MethodName := ⟨RX10, "drops", "(I)I"⟩
abbrev cX10_swaps : ByteArray := prog_1_method_6_code
def yX10_swaps : MethodName := ⟨RX10, "swaps", "(II)I"⟩
abbrev cX10_makes : ByteArray := prog_1_method_7_code
def yX10_makes : MethodName := ⟨RX10, "makes", "(I)I"⟩
abbrev cX10_of : ByteArray := prog_1_method_8_code
def yX10_of : MethodName := ⟨RX10, "of", "(II)I"⟩
abbrev cX10_rank : ByteArray := prog_1_method_9_code
def yX10_rank : MethodName := ⟨RX10, "rank", "(I)I"⟩
abbrev cX10_closed : ByteArray := prog_1_method_10_code
def yX10_closed : MethodName := ⟨RX10, "closed", "(I)I"⟩
abbrev cX10_flats : ByteArray := prog_1_method_11_code
def yX10_flats : MethodName := ⟨RX10, "flats", "(II)I"⟩
abbrev cX10_sign : ByteArray := prog_1_method_12_code
def yX10_sign : MethodName := ⟨RX10, "sign", "(I)I"⟩
abbrev cX10_rings : ByteArray := prog_1_method_13_code
def yX10_rings : MethodName := ⟨RX10, "rings", "(I)I"⟩
abbrev cX10_factor : ByteArray := prog_1_method_14_code
def yX10_factor : MethodName := ⟨RX10, "factor", "(II)I"⟩
abbrev cX10_polynomial : ByteArray := prog_1_method_15_code
def yX10_polynomial : MethodName := ⟨RX10, "polynomial", "(II)I"⟩
abbrev cX10_value : ByteArray := prog_1_method_16_code
def yX10_value : MethodName := ⟨RX10, "value", "(I)I"⟩
abbrev cX10_within : ByteArray := prog_1_method_17_code
def yX10_within : MethodName := ⟨RX10, "within", "(II)I"⟩
abbrev cX10_parts : ByteArray := prog_1_method_18_code
def yX10_parts : MethodName := ⟨RX10, "parts", "(I)I"⟩
abbrev cX10_walls : ByteArray := prog_1_method_19_code
def yX10_walls : MethodName := ⟨RX10, "walls", "(I)I"⟩
abbrev cX10_way : ByteArray := prog_1_method_20_code
def yX10_way : MethodName := ⟨RX10, "way", "(III)I"⟩
abbrev cX10_chain : ByteArray := prog_1_method_21_code
def yX10_chain : MethodName := ⟨RX10, "chain", "(II)I"⟩
abbrev cX10_even : ByteArray := prog_1_method_22_code
def yX10_even : MethodName := ⟨RX10, "even", "(I)I"⟩
abbrev cX10_places : ByteArray := prog_1_method_23_code
def yX10_places : MethodName := ⟨RX10, "places", "(II)I"⟩
abbrev cX10_base : ByteArray := prog_1_method_24_code
def yX10_base : MethodName := ⟨RX10, "base", "(II)I"⟩
abbrev cX10_form : ByteArray := prog_1_method_25_code
def yX10_form : MethodName := ⟨RX10, "form", "(II)I"⟩
abbrev cX10_type : ByteArray := prog_1_method_26_code
def yX10_type : MethodName := ⟨RX10, "type", "(I)I"⟩
abbrev cX10_clear : ByteArray := prog_1_method_27_code
def yX10_clear : MethodName := ⟨RX10, "clear", "()I"⟩
abbrev cX10_reads : ByteArray := prog_1_method_28_code
def yX10_reads : MethodName := ⟨RX10, "reads", "()I"⟩
abbrev cX10_why : ByteArray := prog_1_method_29_code
def yX10_why : MethodName := ⟨RX10, "why", "(I)I"⟩
abbrev cX10_back : ByteArray := prog_1_method_30_code
def yX10_back : MethodName := ⟨RX10, "back", "()I"⟩
abbrev cX10_told : ByteArray := prog_1_method_31_code
def yX10_told : MethodName := ⟨RX10, "told", "(I)I"⟩
abbrev cX10_digest : ByteArray := prog_1_method_32_code
def yX10_digest : MethodName := ⟨RX10, "digest", "()J"⟩
abbrev cX10_mixed : ByteArray := prog_1_method_33_code
def yX10_mixed : MethodName := ⟨RX10, "mixed", "(JJ)J"⟩
abbrev cX10_refused : ByteArray := prog_1_method_34_code
def yX10_refused : MethodName := ⟨RX10, "refused", "(I)I"⟩
abbrev cX10_settled : ByteArray := prog_1_method_35_code
def yX10_settled : MethodName := ⟨RX10, "settled", "(I)I"⟩
abbrev cX10_executed : ByteArray := prog_1_method_36_code
def yX10_executed : MethodName := ⟨RX10, "executed", "(I)I"⟩
def RX11 : String := "PlaneCutsModel"
def TX11 : u_T := fun k => match k with
  | 0 => ("PlaneCutsModel", "now", "[I", true)
  | 1 => ("PlaneCutsModel", "held", "[I", true)
  | 2 => ("PlaneCutsModel", "past", "[I", true)
  | 3 => ("PlaneCutsModel", "pasts", "I", false)
  | 4 => ("PlaneCutsModel", "refused", "[I", true)
  | 5 => ("PlaneCutsModel", "text", "[I", true)
  | 6 => ("PlaneCutsModel", "typed", "I", false)
  | 7 => ("PlaneCutsModel", "causeKind", "I", false)
  | 8 => ("PlaneCutsModel", "causeOrder", "I", false)
  | 9 => ("PlaneCutsModel", "isLaid", "Z", false)
  | 10 => ("PlaneCutsModel", "ranks", "[I", true)
  | 11 => ("PlaneCutsModel", "work", "[J", true)
  | 12 => ("PlaneCutsModel", "rings", "I", false)
  | 13 => ("PlaneCutsModel", "ring", "[I", true)
  | 14 => ("PlaneCutsModel", "above", "[I", true)
  | 15 => ("PlaneCutsModel", "factors", "[J", true)
  | 16 => ("PlaneCutsModel", "column", "[I", true)
  | 17 => ("PlaneCutsModel", "grid", "[J", true)
  | 18 => ("PlaneCutsModel", "columns", "I", false)
  | 19 => ("PlaneCutsModel", "told", "[I", true)
  | 20 => ("PlaneCutsModel", "signs", "[I", true)
  | 21 => ("PlaneCutsModel", "steps", "[I", true)
  | 22 => ("PlaneCutsModel", "ways", "[I", true)
  | 23 => ("PlaneCutsModel", "row", "[I", true)
  | 24 => ("PlaneCutsModel", "goesOn", "[Z", true)
  | 25 => ("PlaneCutsModel", "links", "[I", true)
  | 26 => ("PlaneCutsModel", "times", "[I", true)
  | 27 => ("PlaneCutsModel", "at", "I", false)
  | 28 => ("PlaneCutsModel", "fault", "I", false)
  | 29 => ("PlaneCutsModel", "orders", "I", false)
  | 30 => ("PlaneCutsModel", "letters", "[I", true)
  | 31 => ("PlaneCutsModel", "numbers", "[I", true)
  | _ => ("PlaneCutsModel", "h", "J", false)
def tyX11 : Nat → FieldType := fun k => match k with
  | 0 => .array .int
  | 1 => .array .int
  | 2 => .array .int
  | 3 => .int
  | 4 => .array .int
  | 5 => .array .int
  | 6 => .int
  | 7 => .int
  | 8 => .int
  | 9 => .boolean
  | 10 => .array .int
  | 11 => .array .long
  | 12 => .int
  | 13 => .array .int
  | 14 => .array .int
  | 15 => .array .long
  | 16 => .array .int
  | 17 => .array .long
  | 18 => .int
  | 19 => .array .int
  | 20 => .array .int
  | 21 => .array .int
  | 22 => .array .int
  | 23 => .array .int
  | 24 => .array .boolean
  | 25 => .array .int
  | 26 => .array .int
  | 27 => .int
  | 28 => .int
  | 29 => .int
  | 30 => .array .int
  | 31 => .array .int
  | _ => .long
abbrev wsX110 : List Cond := u_ws RX11 TX11 33
theorem nmX11 : ∀ a, a < 33 → ∀ b, b < 33 → a ≠ b → (TX11 a).2.1 ≠ (TX11 b).2.1 := by decide +kernel
theorem tyX11_ok : ∀ k, k < 33 → parseFieldDescriptor (TX11 k).2.2.1 = some (tyX11 k) := by decide +kernel
abbrev cX11_init : ByteArray := prog_13_method_1_code
def yX11_init : MethodName := ⟨RX11, "<init>", "()V"⟩
abbrev cX11_in : ByteArray := prog_13_method_2_code
def yX11_in : MethodName := ⟨RX11, "in", "(III)Z"⟩
abbrev cX11_has : ByteArray := prog_13_method_3_code
def yX11_has : MethodName := ⟨RX11, "has", "(II)Z"⟩
abbrev cX11_bits : ByteArray := prog_13_method_4_code
def yX11_bits : MethodName := ⟨RX11, "bits", "(I)I"⟩
abbrev cX11_refuses : ByteArray := prog_13_method_5_code
def yX11_refuses : MethodName := ⟨RX11, "refuses", "(I)I"⟩
abbrev cX11_hold : ByteArray := prog_13_method_6_code
def yX11_hold : MethodName := ⟨RX11, "hold", "()V"⟩
abbrev cX11_push : ByteArray := prog_13_method_7_code
def yX11_push : MethodName := ⟨RX11, "push", "()V"⟩
abbrev cX11_back : ByteArray := prog_13_method_8_code
def yX11_back : MethodName := ⟨RX11, "back", "()I"⟩
abbrev cX11_common : ByteArray := prog_13_method_9_code
def yX11_common : MethodName := ⟨RX11, "common", "(JJ)J"⟩
abbrev cX11_shrink : ByteArray := prog_13_method_10_code
def yX11_shrink : MethodName := ⟨RX11, "shrink", "(I)V"⟩
abbrev cX11_swapRows : ByteArray := prog_13_method_11_code
def yX11_swapRows : MethodName := ⟨RX11, "swapRows", "(II)V"⟩
abbrev cX11_rankBy : ByteArray := prog_13_method_12_code
def yX11_rankBy : MethodName := ⟨RX11, "rankBy", "(I)I"⟩
abbrev cX11_all : ByteArray := prog_13_method_13_code
def yX11_all : MethodName := ⟨RX11, "all", "()I"⟩
abbrev cX11_isSet : ByteArray := prog_13_method_14_code
def yX11_isSet : MethodName := ⟨RX11, "isSet", "(I)Z"⟩
abbrev cX11_lay : ByteArray := prog_13_method_15_code
def yX11_lay : MethodName := ⟨RX11, "lay", "()V"⟩
abbrev cX11_isBound : ByteArray := prog_13_method_16_code
def yX11_isBound : MethodName := ⟨RX11, "isBound", "(I)Z"⟩
abbrev cX11_isRing : ByteArray := prog_13_method_17_code
def yX11_isRing : MethodName := ⟨RX11, "isRing", "(I)Z"⟩
abbrev cX11_clearColumn : ByteArray := prog_13_method_18_code
def yX11_clearColumn : MethodName := ⟨RX11, "clearColumn", "(I)V"⟩
abbrev cX11_findFactors : ByteArray := prog_13_method_19_code
def yX11_findFactors : MethodName := ⟨RX11, "findFactors", "(I)V"⟩
abbrev cX11_aboveOf : ByteArray := prog_13_method_20_code
def yX11_aboveOf : MethodName := ⟨RX11, "aboveOf", "(I)I"⟩
abbrev cX11_doSpace : ByteArray := prog_13_method_21_code
def yX11_doSpace : MethodName := ⟨RX11, "doSpace", "(I)I"⟩
abbrev cX11_isThere : ByteArray := prog_13_method_22_code
def yX11_isThere : MethodName := ⟨RX11, "isThere", "(I)Z"⟩
abbrev cX11_doPlane : ByteArray := prog_13_method_23_code
def yX11_doPlane : MethodName := ⟨RX11, "doPlane", "(IIII)I"⟩
abbrev cX11_addsTold : ByteArray := prog_13_method_24_code
def yX11_addsTold : MethodName := ⟨RX11, "addsTold", "()V"⟩
abbrev cX11_isPlane : ByteArray := prog_13_method_25_code
def yX11_isPlane : MethodName := ⟨RX11, "isPlane", "(I)Z"⟩
abbrev cX11_doTurns : ByteArray := prog_13_method_26_code
def yX11_doTurns : MethodName := ⟨RX11, "doTurns", "(I)I"⟩
abbrev cX11_doDrops : ByteArray := prog_13_method_27_code
def yX11_doDrops : MethodName := ⟨RX11, "doDrops", "(I)I"⟩
abbrev cX11_doSwaps : ByteArray := prog_13_method_28_code
def yX11_doSwaps : MethodName := ⟨RX11, "doSwaps", "(II)I"⟩
abbrev cX11_makesOne : ByteArray := prog_13_method_29_code
def yX11_makesOne : MethodName := ⟨RX11, "makesOne", "(IIII)V"⟩
abbrev cX11_doMakes : ByteArray := prog_13_method_30_code
def yX11_doMakes : MethodName := ⟨RX11, "doMakes", "(I)I"⟩
abbrev cX11_ends : ByteArray := prog_13_method_31_code
def yX11_ends : MethodName := ⟨RX11, "ends", "(I)I"⟩
abbrev cX11_space : ByteArray := prog_13_method_32_code
def yX11_space : MethodName := ⟨RX11, "space", "(I)I"⟩
abbrev cX11_plane : ByteArray := prog_13_method_33_code
def yX11_plane : MethodName := ⟨RX11, "plane", "(IIII)I"⟩
abbrev cX11_turns : ByteArray := prog_13_method_34_code
def yX11_turns : MethodName := ⟨RX11, "turns", "(I)I"⟩
abbrev cX11_drops : ByteArray := prog_13_method_35_code
def yX11_drops : MethodName := ⟨RX11, "drops", "(I)I"⟩
abbrev cX11_swaps : ByteArray := prog_13_method_36_code
def yX11_swaps : MethodName := ⟨RX11, "swaps", "(II)I"⟩
abbrev cX11_makes : ByteArray := prog_13_method_37_code
def yX11_makes : MethodName := ⟨RX11, "makes", "(I)I"⟩
abbrev cX11_of : ByteArray := prog_13_method_38_code
def yX11_of : MethodName := ⟨RX11, "of", "(II)I"⟩
abbrev cX11_rank : ByteArray := prog_13_method_39_code
def yX11_rank : MethodName := ⟨RX11, "rank", "(I)I"⟩
abbrev cX11_closedOf : ByteArray := prog_13_method_40_code
def yX11_closedOf : MethodName := ⟨RX11, "closedOf", "(I)I"⟩
abbrev cX11_closed : ByteArray := prog_13_method_41_code
def yX11_closed : MethodName := ⟨RX11, "closed", "(I)I"⟩
abbrev cX11_isFlat : ByteArray := prog_13_method_42_code
def yX11_isFlat : MethodName := ⟨RX11, "isFlat", "(I)Z"⟩
abbrev cX11_flatOf : ByteArray := prog_13_method_43_code
def yX11_flatOf : MethodName := ⟨RX11, "flatOf", "(II)I"⟩
abbrev cX11_flats : ByteArray := prog_13_method_44_code
def yX11_flats : MethodName := ⟨RX11, "flats", "(II)I"⟩
abbrev cX11_sign : ByteArray := prog_13_method_45_code
def yX11_sign : MethodName := ⟨RX11, "sign", "(I)I"⟩
abbrev cX11_rings : ByteArray := prog_13_method_46_code
def yX11_rings : MethodName := ⟨RX11, "rings", "(I)I"⟩
abbrev cX11_factor : ByteArray := prog_13_method_47_code
def yX11_factor : MethodName := ⟨RX11, "factor", "(II)I"⟩
abbrev cX11_polynomialOf : ByteArray := prog_13_method_48_code
def yX11_polynomialOf : MethodName := ⟨RX11, "polynomialOf", "(II)I"⟩
abbrev cX11_polynomial : ByteArray := prog_13_method_49_code
def yX11_polynomial : MethodName := ⟨RX11, "polynomial", "(II)I"⟩
abbrev cX11_value : ByteArray := prog_13_method_50_code
def yX11_value : MethodName := ⟨RX11, "value", "(I)I"⟩
abbrev cX11_within : ByteArray := prog_13_method_51_code
def yX11_within : MethodName := ⟨RX11, "within", "(II)I"⟩
abbrev cX11_isPart : ByteArray := prog_13_method_52_code
def yX11_isPart : MethodName := ⟨RX11, "isPart", "(I)Z"⟩
abbrev cX11_partMany : ByteArray := prog_13_method_53_code
def yX11_partMany : MethodName := ⟨RX11, "partMany", "()I"⟩
abbrev cX11_parts : ByteArray := prog_13_method_54_code
def yX11_parts : MethodName := ⟨RX11, "parts", "(I)I"⟩
abbrev cX11_wallsOf : ByteArray := prog_13_method_55_code
def yX11_wallsOf : MethodName := ⟨RX11, "wallsOf", "(I)I"⟩
abbrev cX11_walls : ByteArray := prog_13_method_56_code
def yX11_walls : MethodName := ⟨RX11, "walls", "(I)I"⟩
abbrev cX11_way : ByteArray := prog_13_method_57_code
def yX11_way : MethodName := ⟨RX11, "way", "(III)I"⟩
abbrev cX11_isEven : ByteArray := prog_13_method_58_code
def yX11_isEven : MethodName := ⟨RX11, "isEven", "(I)Z"⟩
abbrev cX11_isChain : ByteArray := prog_13_method_59_code
def yX11_isChain : MethodName := ⟨RX11, "isChain", "()Z"⟩
abbrev cX11_chain : ByteArray := prog_13_method_60_code
def yX11_chain : MethodName := ⟨RX11, "chain", "(II)I"⟩
abbrev cX11_even : ByteArray := prog_13_method_61_code
def yX11_even : MethodName := ⟨RX11, "even", "(I)I"⟩
abbrev cX11_placesOver : ByteArray := prog_13_method_62_code
def yX11_placesOver : MethodName := ⟨RX11, "placesOver", "(I)I"⟩
abbrev cX11_isFreeOver : ByteArray := prog_13_method_63_code
def yX11_isFreeOver : MethodName := ⟨RX11, "isFreeOver", "(II)Z"⟩
abbrev cX11_isGood : ByteArray := prog_13_method_64_code
def yX11_isGood : MethodName := ⟨RX11, "isGood", "(I)Z"⟩
abbrev cX11_places : ByteArray := prog_13_method_65_code
def yX11_places : MethodName := ⟨RX11, "places", "(II)I"⟩
abbrev cX11_broken : ByteArray := prog_13_method_66_code
def yX11_broken : MethodName := ⟨RX11, "broken", "(I)I"⟩
abbrev cX11_isBase : ByteArray := prog_13_method_67_code
def yX11_isBase : MethodName := ⟨RX11, "isBase", "(I)Z"⟩
abbrev cX11_baseOf : ByteArray := prog_13_method_68_code
def yX11_baseOf : MethodName := ⟨RX11, "baseOf", "(II)I"⟩
abbrev cX11_base : ByteArray := prog_13_method_69_code
def yX11_base : MethodName := ⟨RX11, "base", "(II)I"⟩
abbrev cX11_turned : ByteArray := prog_13_method_70_code
def yX11_turned : MethodName := ⟨RX11, "turned", "(II)I"⟩
abbrev cX11_form : ByteArray := prog_13_method_71_code
def yX11_form : MethodName := ⟨RX11, "form", "(II)I"⟩
abbrev cX11_spread : ByteArray := prog_13_method_72_code
def yX11_spread : MethodName := ⟨RX11, "spread", "(II)V"⟩
abbrev cX11_type : ByteArray := prog_13_method_73_code
def yX11_type : MethodName := ⟨RX11, "type", "(I)I"⟩
abbrev cX11_clear : ByteArray := prog_13_method_74_code
def yX11_clear : MethodName := ⟨RX11, "clear", "()I"⟩
abbrev cX11_here : ByteArray := prog_13_method_75_code
def yX11_here : MethodName := ⟨RX11, "here", "()I"⟩
abbrev cX11_must : ByteArray := prog_13_method_76_code
def yX11_must : MethodName := ⟨RX11, "must", "(Z)V"⟩
abbrev cX11_figure : ByteArray := prog_13_method_77_code
def yX11_figure : MethodName := ⟨RX11, "figure", "(II)I"⟩
abbrev cX11_signed : ByteArray := prog_13_method_78_code
def yX11_signed : MethodName := ⟨RX11, "signed", "()I"⟩
abbrev cX11_plain : ByteArray := prog_13_method_79_code
def yX11_plain : MethodName := ⟨RX11, "plain", "(Z)I"⟩
abbrev cX11_numbersOf : ByteArray := prog_13_method_80_code
def yX11_numbersOf : MethodName := ⟨RX11, "numbersOf", "(II)I"⟩
abbrev cX11_readOrder : ByteArray := prog_13_method_81_code
def yX11_readOrder : MethodName := ⟨RX11, "readOrder", "(I)I"⟩
abbrev cX11_doOrder : ByteArray := prog_13_method_82_code
def yX11_doOrder : MethodName := ⟨RX11, "doOrder", "(I)I"⟩
abbrev cX11_reads : ByteArray := prog_13_method_83_code
def yX11_reads : MethodName := ⟨RX11, "reads", "()I"⟩
abbrev cX11_cause : ByteArray := prog_13_method_84_code
def yX11_cause : MethodName := ⟨RX11, "cause", "(I)I"⟩
abbrev cX11_why : ByteArray := prog_13_method_85_code
def yX11_why : MethodName := ⟨RX11, "why", "(I)I"⟩
abbrev cX11_toldOf : ByteArray := prog_13_method_86_code
def yX11_toldOf : MethodName := ⟨RX11, "toldOf", "(I)I"⟩
abbrev cX11_told : ByteArray := prog_13_method_87_code
def yX11_told : MethodName := ⟨RX11, "told", "(I)I"⟩
abbrev cX11_mix : ByteArray := prog_13_method_88_code
def yX11_mix : MethodName := ⟨RX11, "mix", "(I)V"⟩
abbrev cX11_digest : ByteArray := prog_13_method_89_code
def yX11_digest : MethodName := ⟨RX11, "digest", "()J"⟩
def RJ6 : String := "java/lang/Integer"
def TJ6 : u_T := fun k => match k with
  | _ => ("", "", "", false)
def tyJ6 : Nat → FieldType := fun k => match k with
  | _ => .int
abbrev wsJ60 : List Cond := u_ws RJ6 TJ6 0
theorem nmJ6 : ∀ a, a < 0 → ∀ b, b < 0 → a ≠ b → (TJ6 a).2.1 ≠ (TJ6 b).2.1 := by decide +kernel
theorem tyJ6_ok : ∀ k, k < 0 → parseFieldDescriptor (TJ6 k).2.2.1 = some (tyJ6 k) := by decide +kernel
abbrev cJ6_bitCount_0f7a4 : ByteArray := prog_14_method_49_code
def yJ6_bitCount_0f7a4 : MethodName := ⟨RJ6, "bitCount", "(I)I"⟩
def RJ9 : String := "java/lang/Math"
def TJ9 : u_T := fun k => match k with
  | _ => ("", "", "", false)
def tyJ9 : Nat → FieldType := fun k => match k with
  | _ => .int
abbrev wsJ90 : List Cond := u_ws RJ9 TJ9 0
theorem nmJ9 : ∀ a, a < 0 → ∀ b, b < 0 → a ≠ b → (TJ9 a).2.1 ≠ (TJ9 b).2.1 := by decide +kernel
theorem tyJ9_ok : ∀ k, k < 0 → parseFieldDescriptor (TJ9 k).2.2.1 = some (tyJ9 k) := by decide +kernel
abbrev cJ9_abs_0f7a4 : ByteArray := prog_15_method_59_code
def yJ9_abs_0f7a4 : MethodName := ⟨RJ9, "abs", "(I)I"⟩
abbrev cJ9_abs_067f4 : ByteArray := prog_15_method_61_code
def yJ9_abs_067f4 : MethodName := ⟨RJ9, "abs", "(J)J"⟩
abbrev cJ9_max_7cf53 : ByteArray := prog_15_method_65_code
def yJ9_max_7cf53 : MethodName := ⟨RJ9, "max", "(II)I"⟩
abbrev cJ9_min_7cf53 : ByteArray := prog_15_method_69_code
def yJ9_min_7cf53 : MethodName := ⟨RJ9, "min", "(II)I"⟩
def RJ10 : String := "java/lang/System"
def TJ10 : u_T := fun k => match k with
  | _ => ("", "", "", false)
def tyJ10 : Nat → FieldType := fun k => match k with
  | _ => .int
abbrev wsJ100 : List Cond := u_ws RJ10 TJ10 0
theorem nmJ10 : ∀ a, a < 0 → ∀ b, b < 0 → a ≠ b → (TJ10 a).2.1 ≠ (TJ10 b).2.1 := by decide +kernel
theorem tyJ10_ok : ∀ k, k < 0 → parseFieldDescriptor (TJ10 k).2.2.1 = some (tyJ10 k) := by decide +kernel
def RJ7 : String := "java/util/Arrays"
def TJ7 : u_T := fun k => match k with
  | _ => ("", "", "", false)
def tyJ7 : Nat → FieldType := fun k => match k with
  | _ => .int
abbrev wsJ70 : List Cond := u_ws RJ7 TJ7 0
theorem nmJ7 : ∀ a, a < 0 → ∀ b, b < 0 → a ≠ b → (TJ7 a).2.1 ≠ (TJ7 b).2.1 := by decide +kernel
theorem tyJ7_ok : ∀ k, k < 0 → parseFieldDescriptor (TJ7 k).2.2.1 = some (tyJ7 k) := by decide +kernel
abbrev cJ7_fill_53178 : ByteArray := prog_17_method_103_code
def yJ7_fill_53178 : MethodName := ⟨RJ7, "fill", "([II)V"⟩
def RL : String := "PlaneCutsLaw"
abbrev cL_law : ByteArray := code
def yL_law : MethodName := ⟨RL, "law", "([I)Z"⟩
abbrev vwCl : List vw_C := [(RX0, TX0, 6), (RX1, TX1, 4), (RX2, TX2, 4), (RX3, TX3, 3), (RX4, TX4, 2), (RX5, TX5, 4), (RX6, TX6, 8), (RX7, TX7, 6), (RX8, TX8, 6), (RX9, TX9, 6), (RX10, TX10, 14), (RX11, TX11, 33)]
end
section
theorem dX11_init_0 : decode cX11_init 0 = .ok (.aload_n 0, 1) := by decide +kernel
theorem dX11_init_1 : decode cX11_init 1 = .ok (.invokespecial 1, 3) := by decide +kernel
theorem dX11_init_4 : decode cX11_init 4 = .ok (.aload_n 0, 1) := by decide +kernel
theorem dX11_init_5 : decode cX11_init 5 = .ok (.bipush 38, 2) := by decide +kernel
theorem dX11_init_7 : decode cX11_init 7 = .ok (.newarray .int, 2) := by decide +kernel
theorem dX11_init_9 : decode cX11_init 9 = .ok (.putfield 7, 3) := by decide +kernel
theorem dX11_init_12 : decode cX11_init 12 = .ok (.aload_n 0, 1) := by decide +kernel
theorem dX11_init_13 : decode cX11_init 13 = .ok (.bipush 38, 2) := by decide +kernel
theorem dX11_init_15 : decode cX11_init 15 = .ok (.newarray .int, 2) := by decide +kernel
theorem dX11_init_17 : decode cX11_init 17 = .ok (.putfield 13, 3) := by decide +kernel
theorem dX11_init_20 : decode cX11_init 20 = .ok (.aload_n 0, 1) := by decide +kernel
theorem dX11_init_21 : decode cX11_init 21 = .ok (.sipush 228, 3) := by decide +kernel
theorem dX11_init_24 : decode cX11_init 24 = .ok (.newarray .int, 2) := by decide +kernel
theorem dX11_init_26 : decode cX11_init 26 = .ok (.putfield 16, 3) := by decide +kernel
theorem dX11_init_29 : decode cX11_init 29 = .ok (.aload_n 0, 1) := by decide +kernel
theorem dX11_init_30 : decode cX11_init 30 = .ok (.iconst 3, 1) := by decide +kernel
theorem dX11_init_31 : decode cX11_init 31 = .ok (.newarray .int, 2) := by decide +kernel
theorem dX11_init_33 : decode cX11_init 33 = .ok (.putfield 19, 3) := by decide +kernel
theorem dX11_init_36 : decode cX11_init 36 = .ok (.aload_n 0, 1) := by decide +kernel
theorem dX11_init_37 : decode cX11_init 37 = .ok (.bipush 100, 2) := by decide +kernel
theorem dX11_init_39 : decode cX11_init 39 = .ok (.newarray .int, 2) := by decide +kernel
theorem dX11_init_41 : decode cX11_init 41 = .ok (.putfield 22, 3) := by decide +kernel
theorem dX11_init_44 : decode cX11_init 44 = .ok (.aload_n 0, 1) := by decide +kernel
theorem dX11_init_45 : decode cX11_init 45 = .ok (.iconst (-1), 1) := by decide +kernel
theorem dX11_init_46 : decode cX11_init 46 = .ok (.putfield 25, 3) := by decide +kernel
theorem dX11_init_49 : decode cX11_init 49 = .ok (.aload_n 0, 1) := by decide +kernel
theorem dX11_init_50 : decode cX11_init 50 = .ok (.sipush 512, 3) := by decide +kernel
theorem dX11_init_53 : decode cX11_init 53 = .ok (.newarray .int, 2) := by decide +kernel
theorem dX11_init_55 : decode cX11_init 55 = .ok (.putfield 29, 3) := by decide +kernel
theorem dX11_init_58 : decode cX11_init 58 = .ok (.aload_n 0, 1) := by decide +kernel
theorem dX11_init_59 : decode cX11_init 59 = .ok (.bipush 36, 2) := by decide +kernel
theorem dX11_init_61 : decode cX11_init 61 = .ok (.newarray .long, 2) := by decide +kernel
theorem dX11_init_63 : decode cX11_init 63 = .ok (.putfield 32, 3) := by decide +kernel
theorem dX11_init_66 : decode cX11_init 66 = .ok (.aload_n 0, 1) := by decide +kernel
theorem dX11_init_67 : decode cX11_init 67 = .ok (.sipush 400, 3) := by decide +kernel
theorem dX11_init_70 : decode cX11_init 70 = .ok (.newarray .int, 2) := by decide +kernel
theorem dX11_init_72 : decode cX11_init 72 = .ok (.putfield 36, 3) := by decide +kernel
theorem dX11_init_75 : decode cX11_init 75 = .ok (.aload_n 0, 1) := by decide +kernel
theorem dX11_init_76 : decode cX11_init 76 = .ok (.sipush 400, 3) := by decide +kernel
theorem dX11_init_79 : decode cX11_init 79 = .ok (.newarray .int, 2) := by decide +kernel
theorem dX11_init_81 : decode cX11_init 81 = .ok (.putfield 39, 3) := by decide +kernel
theorem dX11_init_84 : decode cX11_init 84 = .ok (.aload_n 0, 1) := by decide +kernel
theorem dX11_init_85 : decode cX11_init 85 = .ok (.bipush 9, 2) := by decide +kernel
theorem dX11_init_87 : decode cX11_init 87 = .ok (.newarray .long, 2) := by decide +kernel
theorem dX11_init_89 : decode cX11_init 89 = .ok (.putfield 42, 3) := by decide +kernel
theorem dX11_init_92 : decode cX11_init 92 = .ok (.aload_n 0, 1) := by decide +kernel
theorem dX11_init_93 : decode cX11_init 93 = .ok (.bipush 9, 2) := by decide +kernel
theorem dX11_init_95 : decode cX11_init 95 = .ok (.newarray .int, 2) := by decide +kernel
theorem dX11_init_97 : decode cX11_init 97 = .ok (.putfield 45, 3) := by decide +kernel
theorem dX11_init_100 : decode cX11_init 100 = .ok (.aload_n 0, 1) := by decide +kernel
theorem dX11_init_101 : decode cX11_init 101 = .ok (.bipush 20, 2) := by decide +kernel
theorem dX11_init_103 : decode cX11_init 103 = .ok (.newarray .long, 2) := by decide +kernel
theorem dX11_init_105 : decode cX11_init 105 = .ok (.putfield 48, 3) := by decide +kernel
theorem dX11_init_108 : decode cX11_init 108 = .ok (.aload_n 0, 1) := by decide +kernel
theorem dX11_init_109 : decode cX11_init 109 = .ok (.iconst 4, 1) := by decide +kernel
theorem dX11_init_110 : decode cX11_init 110 = .ok (.newarray .int, 2) := by decide +kernel
theorem dX11_init_112 : decode cX11_init 112 = .ok (.putfield 51, 3) := by decide +kernel
theorem dX11_init_115 : decode cX11_init 115 = .ok (.aload_n 0, 1) := by decide +kernel
theorem dX11_init_116 : decode cX11_init 116 = .ok (.sipush 512, 3) := by decide +kernel
theorem dX11_init_119 : decode cX11_init 119 = .ok (.newarray .int, 2) := by decide +kernel
theorem dX11_init_121 : decode cX11_init 121 = .ok (.putfield 54, 3) := by decide +kernel
theorem dX11_init_124 : decode cX11_init 124 = .ok (.aload_n 0, 1) := by decide +kernel
theorem dX11_init_125 : decode cX11_init 125 = .ok (.sipush 512, 3) := by decide +kernel
theorem dX11_init_128 : decode cX11_init 128 = .ok (.newarray .int, 2) := by decide +kernel
theorem dX11_init_130 : decode cX11_init 130 = .ok (.putfield 57, 3) := by decide +kernel
theorem dX11_init_133 : decode cX11_init 133 = .ok (.aload_n 0, 1) := by decide +kernel
theorem dX11_init_134 : decode cX11_init 134 = .ok (.sipush 512, 3) := by decide +kernel
theorem dX11_init_137 : decode cX11_init 137 = .ok (.newarray .int, 2) := by decide +kernel
theorem dX11_init_139 : decode cX11_init 139 = .ok (.putfield 60, 3) := by decide +kernel
theorem dX11_init_142 : decode cX11_init 142 = .ok (.aload_n 0, 1) := by decide +kernel
theorem dX11_init_143 : decode cX11_init 143 = .ok (.sipush 512, 3) := by decide +kernel
theorem dX11_init_146 : decode cX11_init 146 = .ok (.newarray .int, 2) := by decide +kernel
theorem dX11_init_148 : decode cX11_init 148 = .ok (.putfield 63, 3) := by decide +kernel
theorem dX11_init_151 : decode cX11_init 151 = .ok (.aload_n 0, 1) := by decide +kernel
theorem dX11_init_152 : decode cX11_init 152 = .ok (.sipush 512, 3) := by decide +kernel
theorem dX11_init_155 : decode cX11_init 155 = .ok (.newarray .boolean, 2) := by decide +kernel
theorem dX11_init_157 : decode cX11_init 157 = .ok (.putfield 66, 3) := by decide +kernel
theorem dX11_init_160 : decode cX11_init 160 = .ok (.aload_n 0, 1) := by decide +kernel
theorem dX11_init_161 : decode cX11_init 161 = .ok (.iconst 5, 1) := by decide +kernel
theorem dX11_init_162 : decode cX11_init 162 = .ok (.newarray .int, 2) := by decide +kernel
theorem dX11_init_164 : decode cX11_init 164 = .ok (.putfield 70, 3) := by decide +kernel
theorem dX11_init_167 : decode cX11_init 167 = .ok (.aload_n 0, 1) := by decide +kernel
theorem dX11_init_168 : decode cX11_init 168 = .ok (.sipush 512, 3) := by decide +kernel
theorem dX11_init_171 : decode cX11_init 171 = .ok (.newarray .int, 2) := by decide +kernel
theorem dX11_init_173 : decode cX11_init 173 = .ok (.putfield 73, 3) := by decide +kernel
theorem dX11_init_176 : decode cX11_init 176 = .ok (.aload_n 0, 1) := by decide +kernel
theorem dX11_init_177 : decode cX11_init 177 = .ok (.bipush 50, 2) := by decide +kernel
theorem dX11_init_179 : decode cX11_init 179 = .ok (.newarray .int, 2) := by decide +kernel
theorem dX11_init_181 : decode cX11_init 181 = .ok (.putfield 76, 3) := by decide +kernel
theorem dX11_init_184 : decode cX11_init 184 = .ok (.aload_n 0, 1) := by decide +kernel
theorem dX11_init_185 : decode cX11_init 185 = .ok (.sipush 200, 3) := by decide +kernel
theorem dX11_init_188 : decode cX11_init 188 = .ok (.newarray .int, 2) := by decide +kernel
theorem dX11_init_190 : decode cX11_init 190 = .ok (.putfield 79, 3) := by decide +kernel
theorem dX11_init_193 : decode cX11_init 193 = .ok (.aload_n 0, 1) := by decide +kernel
theorem dX11_init_194 : decode cX11_init 194 = .ok (.getfield 7, 3) := by decide +kernel
theorem dX11_init_197 : decode cX11_init 197 = .ok (.bipush 36, 2) := by decide +kernel
theorem dX11_init_199 : decode cX11_init 199 = .ok (.iconst 3, 1) := by decide +kernel
theorem dX11_init_200 : decode cX11_init 200 = .ok (.iastore, 1) := by decide +kernel
theorem dX11_init_201 : decode cX11_init 201 = .ok (.return_, 1) := by decide +kernel
theorem dX11_in_0 : decode cX11_in 0 = .ok (.iload_n 0, 1) := by decide +kernel
theorem dX11_in_1 : decode cX11_in 1 = .ok (.iload_n 1, 1) := by decide +kernel
theorem dX11_in_2 : decode cX11_in 2 = .ok (.if_icmp .lt 12, 3) := by decide +kernel
theorem dX11_in_5 : decode cX11_in 5 = .ok (.iload_n 0, 1) := by decide +kernel
theorem dX11_in_6 : decode cX11_in 6 = .ok (.iload_n 2, 1) := by decide +kernel
theorem dX11_in_7 : decode cX11_in 7 = .ok (.if_icmp .gt 7, 3) := by decide +kernel
theorem dX11_in_10 : decode cX11_in 10 = .ok (.iconst 1, 1) := by decide +kernel
theorem dX11_in_11 : decode cX11_in 11 = .ok (.goto 4, 3) := by decide +kernel
theorem dX11_in_14 : decode cX11_in 14 = .ok (.iconst 0, 1) := by decide +kernel
theorem dX11_in_15 : decode cX11_in 15 = .ok (.ireturn, 1) := by decide +kernel
theorem dX11_has_0 : decode cX11_has 0 = .ok (.iload_n 0, 1) := by decide +kernel
theorem dX11_has_1 : decode cX11_has 1 = .ok (.iload_n 1, 1) := by decide +kernel
theorem dX11_has_2 : decode cX11_has 2 = .ok (.ishr, 1) := by decide +kernel
theorem dX11_has_3 : decode cX11_has 3 = .ok (.iconst 1, 1) := by decide +kernel
theorem dX11_has_4 : decode cX11_has 4 = .ok (.iand, 1) := by decide +kernel
theorem dX11_has_5 : decode cX11_has 5 = .ok (.iconst 1, 1) := by decide +kernel
theorem dX11_has_6 : decode cX11_has 6 = .ok (.if_icmp .ne 7, 3) := by decide +kernel
theorem dX11_has_9 : decode cX11_has 9 = .ok (.iconst 1, 1) := by decide +kernel
theorem dX11_has_10 : decode cX11_has 10 = .ok (.goto 4, 3) := by decide +kernel
theorem dX11_has_13 : decode cX11_has 13 = .ok (.iconst 0, 1) := by decide +kernel
theorem dX11_has_14 : decode cX11_has 14 = .ok (.ireturn, 1) := by decide +kernel
theorem dX11_bits_0 : decode cX11_bits 0 = .ok (.iconst 0, 1) := by decide +kernel
theorem dX11_bits_1 : decode cX11_bits 1 = .ok (.istore_n 1, 1) := by decide +kernel
theorem dX11_bits_2 : decode cX11_bits 2 = .ok (.iload_n 0, 1) := by decide +kernel
theorem dX11_bits_3 : decode cX11_bits 3 = .ok (.istore_n 2, 1) := by decide +kernel
theorem dX11_bits_4 : decode cX11_bits 4 = .ok (.iload_n 2, 1) := by decide +kernel
theorem dX11_bits_5 : decode cX11_bits 5 = .ok (.ifCond .eq 15, 3) := by decide +kernel
theorem dX11_bits_8 : decode cX11_bits 8 = .ok (.iinc 1 1, 3) := by decide +kernel
theorem dX11_bits_11 : decode cX11_bits 11 = .ok (.iload_n 2, 1) := by decide +kernel
theorem dX11_bits_12 : decode cX11_bits 12 = .ok (.iload_n 2, 1) := by decide +kernel
theorem dX11_bits_13 : decode cX11_bits 13 = .ok (.iconst 1, 1) := by decide +kernel
theorem dX11_bits_14 : decode cX11_bits 14 = .ok (.isub, 1) := by decide +kernel
theorem dX11_bits_15 : decode cX11_bits 15 = .ok (.iand, 1) := by decide +kernel
theorem dX11_bits_16 : decode cX11_bits 16 = .ok (.istore_n 2, 1) := by decide +kernel
theorem dX11_bits_17 : decode cX11_bits 17 = .ok (.goto (-13), 3) := by decide +kernel
theorem dX11_bits_20 : decode cX11_bits 20 = .ok (.iload_n 1, 1) := by decide +kernel
theorem dX11_bits_21 : decode cX11_bits 21 = .ok (.ireturn, 1) := by decide +kernel
theorem dX11_refuses_0 : decode cX11_refuses 0 = .ok (.aload_n 0, 1) := by decide +kernel
theorem dX11_refuses_1 : decode cX11_refuses 1 = .ok (.getfield 19, 3) := by decide +kernel
theorem dX11_refuses_4 : decode cX11_refuses 4 = .ok (.bipush (-2), 2) := by decide +kernel
theorem dX11_refuses_6 : decode cX11_refuses 6 = .ok (.iload_n 1, 1) := by decide +kernel
theorem dX11_refuses_7 : decode cX11_refuses 7 = .ok (.isub, 1) := by decide +kernel
theorem dX11_refuses_8 : decode cX11_refuses 8 = .ok (.dup2, 1) := by decide +kernel
theorem dX11_refuses_9 : decode cX11_refuses 9 = .ok (.iaload, 1) := by decide +kernel
theorem dX11_refuses_10 : decode cX11_refuses 10 = .ok (.iconst 1, 1) := by decide +kernel
theorem dX11_refuses_11 : decode cX11_refuses 11 = .ok (.iadd, 1) := by decide +kernel
theorem dX11_refuses_12 : decode cX11_refuses 12 = .ok (.iastore, 1) := by decide +kernel
theorem dX11_refuses_13 : decode cX11_refuses 13 = .ok (.iload_n 1, 1) := by decide +kernel
theorem dX11_refuses_14 : decode cX11_refuses 14 = .ok (.ireturn, 1) := by decide +kernel
theorem dX11_hold_0 : decode cX11_hold 0 = .ok (.iconst 0, 1) := by decide +kernel
theorem dX11_hold_1 : decode cX11_hold 1 = .ok (.istore_n 1, 1) := by decide +kernel
theorem dX11_hold_2 : decode cX11_hold 2 = .ok (.iload_n 1, 1) := by decide +kernel
theorem dX11_hold_3 : decode cX11_hold 3 = .ok (.bipush 38, 2) := by decide +kernel
theorem dX11_hold_5 : decode cX11_hold 5 = .ok (.if_icmp .ge 21, 3) := by decide +kernel
theorem dX11_hold_8 : decode cX11_hold 8 = .ok (.aload_n 0, 1) := by decide +kernel
theorem dX11_hold_9 : decode cX11_hold 9 = .ok (.getfield 13, 3) := by decide +kernel
theorem dX11_hold_12 : decode cX11_hold 12 = .ok (.iload_n 1, 1) := by decide +kernel
theorem dX11_hold_13 : decode cX11_hold 13 = .ok (.aload_n 0, 1) := by decide +kernel
theorem dX11_hold_14 : decode cX11_hold 14 = .ok (.getfield 7, 3) := by decide +kernel
theorem dX11_hold_17 : decode cX11_hold 17 = .ok (.iload_n 1, 1) := by decide +kernel
theorem dX11_hold_18 : decode cX11_hold 18 = .ok (.iaload, 1) := by decide +kernel
theorem dX11_hold_19 : decode cX11_hold 19 = .ok (.iastore, 1) := by decide +kernel
theorem dX11_hold_20 : decode cX11_hold 20 = .ok (.iinc 1 1, 3) := by decide +kernel
theorem dX11_hold_23 : decode cX11_hold 23 = .ok (.goto (-21), 3) := by decide +kernel
theorem dX11_hold_26 : decode cX11_hold 26 = .ok (.return_, 1) := by decide +kernel
theorem dX11_push_0 : decode cX11_push 0 = .ok (.aload_n 0, 1) := by decide +kernel
theorem dX11_push_1 : decode cX11_push 1 = .ok (.getfield 82, 3) := by decide +kernel
theorem dX11_push_4 : decode cX11_push 4 = .ok (.bipush 6, 2) := by decide +kernel
theorem dX11_push_6 : decode cX11_push 6 = .ok (.if_icmp .ne 43, 3) := by decide +kernel
theorem dX11_push_9 : decode cX11_push 9 = .ok (.iconst 0, 1) := by decide +kernel
theorem dX11_push_10 : decode cX11_push 10 = .ok (.istore_n 1, 1) := by decide +kernel
theorem dX11_push_11 : decode cX11_push 11 = .ok (.iload_n 1, 1) := by decide +kernel
theorem dX11_push_12 : decode cX11_push 12 = .ok (.sipush 190, 3) := by decide +kernel
theorem dX11_push_15 : decode cX11_push 15 = .ok (.if_icmp .ge 24, 3) := by decide +kernel
theorem dX11_push_18 : decode cX11_push 18 = .ok (.aload_n 0, 1) := by decide +kernel
theorem dX11_push_19 : decode cX11_push 19 = .ok (.getfield 16, 3) := by decide +kernel
theorem dX11_push_22 : decode cX11_push 22 = .ok (.iload_n 1, 1) := by decide +kernel
theorem dX11_push_23 : decode cX11_push 23 = .ok (.aload_n 0, 1) := by decide +kernel
theorem dX11_push_24 : decode cX11_push 24 = .ok (.getfield 16, 3) := by decide +kernel
theorem dX11_push_27 : decode cX11_push 27 = .ok (.iload_n 1, 1) := by decide +kernel
theorem dX11_push_28 : decode cX11_push 28 = .ok (.bipush 38, 2) := by decide +kernel
theorem dX11_push_30 : decode cX11_push 30 = .ok (.iadd, 1) := by decide +kernel
theorem dX11_push_31 : decode cX11_push 31 = .ok (.iaload, 1) := by decide +kernel
theorem dX11_push_32 : decode cX11_push 32 = .ok (.iastore, 1) := by decide +kernel
theorem dX11_push_33 : decode cX11_push 33 = .ok (.iinc 1 1, 3) := by decide +kernel
theorem dX11_push_36 : decode cX11_push 36 = .ok (.goto (-25), 3) := by decide +kernel
theorem dX11_push_39 : decode cX11_push 39 = .ok (.aload_n 0, 1) := by decide +kernel
theorem dX11_push_40 : decode cX11_push 40 = .ok (.dup, 1) := by decide +kernel
theorem dX11_push_41 : decode cX11_push 41 = .ok (.getfield 82, 3) := by decide +kernel
theorem dX11_push_44 : decode cX11_push 44 = .ok (.iconst 1, 1) := by decide +kernel
theorem dX11_push_45 : decode cX11_push 45 = .ok (.isub, 1) := by decide +kernel
theorem dX11_push_46 : decode cX11_push 46 = .ok (.putfield 82, 3) := by decide +kernel
theorem dX11_push_49 : decode cX11_push 49 = .ok (.iconst 0, 1) := by decide +kernel
theorem dX11_push_50 : decode cX11_push 50 = .ok (.istore_n 1, 1) := by decide +kernel
theorem dX11_push_51 : decode cX11_push 51 = .ok (.iload_n 1, 1) := by decide +kernel
theorem dX11_push_52 : decode cX11_push 52 = .ok (.bipush 38, 2) := by decide +kernel
theorem dX11_push_54 : decode cX11_push 54 = .ok (.if_icmp .ge 29, 3) := by decide +kernel
theorem dX11_push_57 : decode cX11_push 57 = .ok (.aload_n 0, 1) := by decide +kernel
theorem dX11_push_58 : decode cX11_push 58 = .ok (.getfield 16, 3) := by decide +kernel
theorem dX11_push_61 : decode cX11_push 61 = .ok (.bipush 38, 2) := by decide +kernel
theorem dX11_push_63 : decode cX11_push 63 = .ok (.aload_n 0, 1) := by decide +kernel
theorem dX11_push_64 : decode cX11_push 64 = .ok (.getfield 82, 3) := by decide +kernel
theorem dX11_push_67 : decode cX11_push 67 = .ok (.imul, 1) := by decide +kernel
theorem dX11_push_68 : decode cX11_push 68 = .ok (.iload_n 1, 1) := by decide +kernel
theorem dX11_push_69 : decode cX11_push 69 = .ok (.iadd, 1) := by decide +kernel
theorem dX11_push_70 : decode cX11_push 70 = .ok (.aload_n 0, 1) := by decide +kernel
theorem dX11_push_71 : decode cX11_push 71 = .ok (.getfield 13, 3) := by decide +kernel
theorem dX11_push_74 : decode cX11_push 74 = .ok (.iload_n 1, 1) := by decide +kernel
theorem dX11_push_75 : decode cX11_push 75 = .ok (.iaload, 1) := by decide +kernel
theorem dX11_push_76 : decode cX11_push 76 = .ok (.iastore, 1) := by decide +kernel
theorem dX11_push_77 : decode cX11_push 77 = .ok (.iinc 1 1, 3) := by decide +kernel
theorem dX11_push_80 : decode cX11_push 80 = .ok (.goto (-29), 3) := by decide +kernel
theorem dX11_push_83 : decode cX11_push 83 = .ok (.aload_n 0, 1) := by decide +kernel
theorem dX11_push_84 : decode cX11_push 84 = .ok (.dup, 1) := by decide +kernel
theorem dX11_push_85 : decode cX11_push 85 = .ok (.getfield 82, 3) := by decide +kernel
theorem dX11_push_88 : decode cX11_push 88 = .ok (.iconst 1, 1) := by decide +kernel
theorem dX11_push_89 : decode cX11_push 89 = .ok (.iadd, 1) := by decide +kernel
theorem dX11_push_90 : decode cX11_push 90 = .ok (.putfield 82, 3) := by decide +kernel
theorem dX11_push_93 : decode cX11_push 93 = .ok (.aload_n 0, 1) := by decide +kernel
theorem dX11_push_94 : decode cX11_push 94 = .ok (.iconst 0, 1) := by decide +kernel
theorem dX11_push_95 : decode cX11_push 95 = .ok (.putfield 85, 3) := by decide +kernel
theorem dX11_push_98 : decode cX11_push 98 = .ok (.return_, 1) := by decide +kernel
theorem dX11_back_0 : decode cX11_back 0 = .ok (.aload_n 0, 1) := by decide +kernel
theorem dX11_back_1 : decode cX11_back 1 = .ok (.getfield 82, 3) := by decide +kernel
theorem dX11_back_4 : decode cX11_back 4 = .ok (.ifCond .ne 10, 3) := by decide +kernel
theorem dX11_back_7 : decode cX11_back 7 = .ok (.aload_n 0, 1) := by decide +kernel
theorem dX11_back_8 : decode cX11_back 8 = .ok (.bipush (-3), 2) := by decide +kernel
theorem dX11_back_10 : decode cX11_back 10 = .ok (.invokevirtual 89, 3) := by decide +kernel
theorem dX11_back_13 : decode cX11_back 13 = .ok (.ireturn, 1) := by decide +kernel
theorem dX11_back_14 : decode cX11_back 14 = .ok (.aload_n 0, 1) := by decide +kernel
theorem dX11_back_15 : decode cX11_back 15 = .ok (.dup, 1) := by decide +kernel
theorem dX11_back_16 : decode cX11_back 16 = .ok (.getfield 82, 3) := by decide +kernel
theorem dX11_back_19 : decode cX11_back 19 = .ok (.iconst 1, 1) := by decide +kernel
theorem dX11_back_20 : decode cX11_back 20 = .ok (.isub, 1) := by decide +kernel
theorem dX11_back_21 : decode cX11_back 21 = .ok (.putfield 82, 3) := by decide +kernel
theorem dX11_back_24 : decode cX11_back 24 = .ok (.iconst 0, 1) := by decide +kernel
theorem dX11_back_25 : decode cX11_back 25 = .ok (.istore_n 1, 1) := by decide +kernel
theorem dX11_back_26 : decode cX11_back 26 = .ok (.iload_n 1, 1) := by decide +kernel
theorem dX11_back_27 : decode cX11_back 27 = .ok (.bipush 38, 2) := by decide +kernel
theorem dX11_back_29 : decode cX11_back 29 = .ok (.if_icmp .ge 29, 3) := by decide +kernel
theorem dX11_back_32 : decode cX11_back 32 = .ok (.aload_n 0, 1) := by decide +kernel
theorem dX11_back_33 : decode cX11_back 33 = .ok (.getfield 7, 3) := by decide +kernel
theorem dX11_back_36 : decode cX11_back 36 = .ok (.iload_n 1, 1) := by decide +kernel
theorem dX11_back_37 : decode cX11_back 37 = .ok (.aload_n 0, 1) := by decide +kernel
theorem dX11_back_38 : decode cX11_back 38 = .ok (.getfield 16, 3) := by decide +kernel
theorem dX11_back_41 : decode cX11_back 41 = .ok (.bipush 38, 2) := by decide +kernel
theorem dX11_back_43 : decode cX11_back 43 = .ok (.aload_n 0, 1) := by decide +kernel
theorem dX11_back_44 : decode cX11_back 44 = .ok (.getfield 82, 3) := by decide +kernel
theorem dX11_back_47 : decode cX11_back 47 = .ok (.imul, 1) := by decide +kernel
theorem dX11_back_48 : decode cX11_back 48 = .ok (.iload_n 1, 1) := by decide +kernel
theorem dX11_back_49 : decode cX11_back 49 = .ok (.iadd, 1) := by decide +kernel
theorem dX11_back_50 : decode cX11_back 50 = .ok (.iaload, 1) := by decide +kernel
theorem dX11_back_51 : decode cX11_back 51 = .ok (.iastore, 1) := by decide +kernel
theorem dX11_back_52 : decode cX11_back 52 = .ok (.iinc 1 1, 3) := by decide +kernel
theorem dX11_back_55 : decode cX11_back 55 = .ok (.goto (-29), 3) := by decide +kernel
theorem dX11_back_58 : decode cX11_back 58 = .ok (.aload_n 0, 1) := by decide +kernel
theorem dX11_back_59 : decode cX11_back 59 = .ok (.iconst 0, 1) := by decide +kernel
theorem dX11_back_60 : decode cX11_back 60 = .ok (.putfield 85, 3) := by decide +kernel
theorem dX11_back_63 : decode cX11_back 63 = .ok (.aload_n 0, 1) := by decide +kernel
theorem dX11_back_64 : decode cX11_back 64 = .ok (.getfield 82, 3) := by decide +kernel
theorem dX11_back_67 : decode cX11_back 67 = .ok (.ireturn, 1) := by decide +kernel
theorem dX11_common_0 : decode cX11_common 0 = .ok (.lload_n 0, 1) := by decide +kernel
theorem dX11_common_1 : decode cX11_common 1 = .ok (.lconst 0, 1) := by decide +kernel
theorem dX11_common_2 : decode cX11_common 2 = .ok (.lcmp, 1) := by decide +kernel
theorem dX11_common_3 : decode cX11_common 3 = .ok (.ifCond .ge 8, 3) := by decide +kernel
theorem dX11_common_6 : decode cX11_common 6 = .ok (.lload_n 0, 1) := by decide +kernel
theorem dX11_common_7 : decode cX11_common 7 = .ok (.lneg, 1) := by decide +kernel
theorem dX11_common_8 : decode cX11_common 8 = .ok (.goto 4, 3) := by decide +kernel
theorem dX11_common_11 : decode cX11_common 11 = .ok (.lload_n 0, 1) := by decide +kernel
theorem dX11_common_12 : decode cX11_common 12 = .ok (.lstore 4, 2) := by decide +kernel
theorem dX11_common_14 : decode cX11_common 14 = .ok (.lload_n 2, 1) := by decide +kernel
theorem dX11_common_15 : decode cX11_common 15 = .ok (.lconst 0, 1) := by decide +kernel
theorem dX11_common_16 : decode cX11_common 16 = .ok (.lcmp, 1) := by decide +kernel
theorem dX11_common_17 : decode cX11_common 17 = .ok (.ifCond .ge 8, 3) := by decide +kernel
theorem dX11_common_20 : decode cX11_common 20 = .ok (.lload_n 2, 1) := by decide +kernel
theorem dX11_common_21 : decode cX11_common 21 = .ok (.lneg, 1) := by decide +kernel
theorem dX11_common_22 : decode cX11_common 22 = .ok (.goto 4, 3) := by decide +kernel
theorem dX11_common_25 : decode cX11_common 25 = .ok (.lload_n 2, 1) := by decide +kernel
theorem dX11_common_26 : decode cX11_common 26 = .ok (.lstore 6, 2) := by decide +kernel
theorem dX11_common_28 : decode cX11_common 28 = .ok (.lload 6, 2) := by decide +kernel
theorem dX11_common_30 : decode cX11_common 30 = .ok (.lconst 0, 1) := by decide +kernel
theorem dX11_common_31 : decode cX11_common 31 = .ok (.lcmp, 1) := by decide +kernel
theorem dX11_common_32 : decode cX11_common 32 = .ok (.ifCond .eq 21, 3) := by decide +kernel
theorem dX11_common_35 : decode cX11_common 35 = .ok (.lload 4, 2) := by decide +kernel
theorem dX11_common_37 : decode cX11_common 37 = .ok (.lload 6, 2) := by decide +kernel
theorem dX11_common_39 : decode cX11_common 39 = .ok (.lrem, 1) := by decide +kernel
theorem dX11_common_40 : decode cX11_common 40 = .ok (.lstore 8, 2) := by decide +kernel
theorem dX11_common_42 : decode cX11_common 42 = .ok (.lload 6, 2) := by decide +kernel
theorem dX11_common_44 : decode cX11_common 44 = .ok (.lstore 4, 2) := by decide +kernel
theorem dX11_common_46 : decode cX11_common 46 = .ok (.lload 8, 2) := by decide +kernel
theorem dX11_common_48 : decode cX11_common 48 = .ok (.lstore 6, 2) := by decide +kernel
theorem dX11_common_50 : decode cX11_common 50 = .ok (.goto (-22), 3) := by decide +kernel
theorem dX11_common_53 : decode cX11_common 53 = .ok (.lload 4, 2) := by decide +kernel
theorem dX11_common_55 : decode cX11_common 55 = .ok (.lreturn, 1) := by decide +kernel
theorem dX11_shrink_0 : decode cX11_shrink 0 = .ok (.lconst 0, 1) := by decide +kernel
theorem dX11_shrink_1 : decode cX11_shrink 1 = .ok (.lstore_n 2, 1) := by decide +kernel
theorem dX11_shrink_2 : decode cX11_shrink 2 = .ok (.iconst 0, 1) := by decide +kernel
theorem dX11_shrink_3 : decode cX11_shrink 3 = .ok (.istore 4, 2) := by decide +kernel
theorem dX11_shrink_5 : decode cX11_shrink 5 = .ok (.iload 4, 2) := by decide +kernel
theorem dX11_shrink_7 : decode cX11_shrink 7 = .ok (.iconst 4, 1) := by decide +kernel
theorem dX11_shrink_8 : decode cX11_shrink 8 = .ok (.if_icmp .ge 25, 3) := by decide +kernel
theorem dX11_shrink_11 : decode cX11_shrink 11 = .ok (.lload_n 2, 1) := by decide +kernel
theorem dX11_shrink_12 : decode cX11_shrink 12 = .ok (.aload_n 0, 1) := by decide +kernel
theorem dX11_shrink_13 : decode cX11_shrink 13 = .ok (.getfield 32, 3) := by decide +kernel
theorem dX11_shrink_16 : decode cX11_shrink 16 = .ok (.iconst 4, 1) := by decide +kernel
theorem dX11_shrink_17 : decode cX11_shrink 17 = .ok (.iload_n 1, 1) := by decide +kernel
theorem dX11_shrink_18 : decode cX11_shrink 18 = .ok (.imul, 1) := by decide +kernel
theorem dX11_shrink_19 : decode cX11_shrink 19 = .ok (.iload 4, 2) := by decide +kernel
theorem dX11_shrink_21 : decode cX11_shrink 21 = .ok (.iadd, 1) := by decide +kernel
theorem dX11_shrink_22 : decode cX11_shrink 22 = .ok (.laload, 1) := by decide +kernel
theorem dX11_shrink_23 : decode cX11_shrink 23 = .ok (.invokestatic 93, 3) := by decide +kernel
theorem dX11_shrink_26 : decode cX11_shrink 26 = .ok (.lstore_n 2, 1) := by decide +kernel
theorem dX11_shrink_27 : decode cX11_shrink 27 = .ok (.iinc 4 1, 3) := by decide +kernel
theorem dX11_shrink_30 : decode cX11_shrink 30 = .ok (.goto (-25), 3) := by decide +kernel
theorem dX11_shrink_33 : decode cX11_shrink 33 = .ok (.iconst 0, 1) := by decide +kernel
theorem dX11_shrink_34 : decode cX11_shrink 34 = .ok (.istore 4, 2) := by decide +kernel
theorem dX11_shrink_36 : decode cX11_shrink 36 = .ok (.iload 4, 2) := by decide +kernel
theorem dX11_shrink_38 : decode cX11_shrink 38 = .ok (.iconst 4, 1) := by decide +kernel
theorem dX11_shrink_39 : decode cX11_shrink 39 = .ok (.if_icmp .ge 30, 3) := by decide +kernel
theorem dX11_shrink_42 : decode cX11_shrink 42 = .ok (.lload_n 2, 1) := by decide +kernel
theorem dX11_shrink_43 : decode cX11_shrink 43 = .ok (.lconst 1, 1) := by decide +kernel
theorem dX11_shrink_44 : decode cX11_shrink 44 = .ok (.lcmp, 1) := by decide +kernel
theorem dX11_shrink_45 : decode cX11_shrink 45 = .ok (.ifCond .le 24, 3) := by decide +kernel
theorem dX11_shrink_48 : decode cX11_shrink 48 = .ok (.aload_n 0, 1) := by decide +kernel
theorem dX11_shrink_49 : decode cX11_shrink 49 = .ok (.getfield 32, 3) := by decide +kernel
theorem dX11_shrink_52 : decode cX11_shrink 52 = .ok (.iconst 4, 1) := by decide +kernel
theorem dX11_shrink_53 : decode cX11_shrink 53 = .ok (.iload_n 1, 1) := by decide +kernel
theorem dX11_shrink_54 : decode cX11_shrink 54 = .ok (.imul, 1) := by decide +kernel
theorem dX11_shrink_55 : decode cX11_shrink 55 = .ok (.iload 4, 2) := by decide +kernel
theorem dX11_shrink_57 : decode cX11_shrink 57 = .ok (.iadd, 1) := by decide +kernel
theorem dX11_shrink_58 : decode cX11_shrink 58 = .ok (.dup2, 1) := by decide +kernel
theorem dX11_shrink_59 : decode cX11_shrink 59 = .ok (.laload, 1) := by decide +kernel
theorem dX11_shrink_60 : decode cX11_shrink 60 = .ok (.lload_n 2, 1) := by decide +kernel
theorem dX11_shrink_61 : decode cX11_shrink 61 = .ok (.ldiv, 1) := by decide +kernel
theorem dX11_shrink_62 : decode cX11_shrink 62 = .ok (.lastore, 1) := by decide +kernel
theorem dX11_shrink_63 : decode cX11_shrink 63 = .ok (.iinc 4 1, 3) := by decide +kernel
theorem dX11_shrink_66 : decode cX11_shrink 66 = .ok (.goto (-30), 3) := by decide +kernel
theorem dX11_shrink_69 : decode cX11_shrink 69 = .ok (.return_, 1) := by decide +kernel
theorem dX11_swapRows_0 : decode cX11_swapRows 0 = .ok (.iconst 0, 1) := by decide +kernel
theorem dX11_swapRows_1 : decode cX11_swapRows 1 = .ok (.istore_n 3, 1) := by decide +kernel
theorem dX11_swapRows_2 : decode cX11_swapRows 2 = .ok (.iload_n 3, 1) := by decide +kernel
theorem dX11_swapRows_3 : decode cX11_swapRows 3 = .ok (.iconst 4, 1) := by decide +kernel
theorem dX11_swapRows_4 : decode cX11_swapRows 4 = .ok (.if_icmp .ge 53, 3) := by decide +kernel
theorem dX11_swapRows_7 : decode cX11_swapRows 7 = .ok (.aload_n 0, 1) := by decide +kernel
theorem dX11_swapRows_8 : decode cX11_swapRows 8 = .ok (.getfield 32, 3) := by decide +kernel
theorem dX11_swapRows_11 : decode cX11_swapRows 11 = .ok (.iconst 4, 1) := by decide +kernel
theorem dX11_swapRows_12 : decode cX11_swapRows 12 = .ok (.iload_n 1, 1) := by decide +kernel
theorem dX11_swapRows_13 : decode cX11_swapRows 13 = .ok (.imul, 1) := by decide +kernel
theorem dX11_swapRows_14 : decode cX11_swapRows 14 = .ok (.iload_n 3, 1) := by decide +kernel
theorem dX11_swapRows_15 : decode cX11_swapRows 15 = .ok (.iadd, 1) := by decide +kernel
theorem dX11_swapRows_16 : decode cX11_swapRows 16 = .ok (.laload, 1) := by decide +kernel
theorem dX11_swapRows_17 : decode cX11_swapRows 17 = .ok (.lstore 4, 2) := by decide +kernel
theorem dX11_swapRows_19 : decode cX11_swapRows 19 = .ok (.aload_n 0, 1) := by decide +kernel
theorem dX11_swapRows_20 : decode cX11_swapRows 20 = .ok (.getfield 32, 3) := by decide +kernel
theorem dX11_swapRows_23 : decode cX11_swapRows 23 = .ok (.iconst 4, 1) := by decide +kernel
theorem dX11_swapRows_24 : decode cX11_swapRows 24 = .ok (.iload_n 1, 1) := by decide +kernel
theorem dX11_swapRows_25 : decode cX11_swapRows 25 = .ok (.imul, 1) := by decide +kernel
theorem dX11_swapRows_26 : decode cX11_swapRows 26 = .ok (.iload_n 3, 1) := by decide +kernel
theorem dX11_swapRows_27 : decode cX11_swapRows 27 = .ok (.iadd, 1) := by decide +kernel
theorem dX11_swapRows_28 : decode cX11_swapRows 28 = .ok (.aload_n 0, 1) := by decide +kernel
theorem dX11_swapRows_29 : decode cX11_swapRows 29 = .ok (.getfield 32, 3) := by decide +kernel
theorem dX11_swapRows_32 : decode cX11_swapRows 32 = .ok (.iconst 4, 1) := by decide +kernel
theorem dX11_swapRows_33 : decode cX11_swapRows 33 = .ok (.iload_n 2, 1) := by decide +kernel
theorem dX11_swapRows_34 : decode cX11_swapRows 34 = .ok (.imul, 1) := by decide +kernel
theorem dX11_swapRows_35 : decode cX11_swapRows 35 = .ok (.iload_n 3, 1) := by decide +kernel
theorem dX11_swapRows_36 : decode cX11_swapRows 36 = .ok (.iadd, 1) := by decide +kernel
theorem dX11_swapRows_37 : decode cX11_swapRows 37 = .ok (.laload, 1) := by decide +kernel
theorem dX11_swapRows_38 : decode cX11_swapRows 38 = .ok (.lastore, 1) := by decide +kernel
theorem dX11_swapRows_39 : decode cX11_swapRows 39 = .ok (.aload_n 0, 1) := by decide +kernel
theorem dX11_swapRows_40 : decode cX11_swapRows 40 = .ok (.getfield 32, 3) := by decide +kernel
theorem dX11_swapRows_43 : decode cX11_swapRows 43 = .ok (.iconst 4, 1) := by decide +kernel
theorem dX11_swapRows_44 : decode cX11_swapRows 44 = .ok (.iload_n 2, 1) := by decide +kernel
theorem dX11_swapRows_45 : decode cX11_swapRows 45 = .ok (.imul, 1) := by decide +kernel
theorem dX11_swapRows_46 : decode cX11_swapRows 46 = .ok (.iload_n 3, 1) := by decide +kernel
theorem dX11_swapRows_47 : decode cX11_swapRows 47 = .ok (.iadd, 1) := by decide +kernel
theorem dX11_swapRows_48 : decode cX11_swapRows 48 = .ok (.lload 4, 2) := by decide +kernel
theorem dX11_swapRows_50 : decode cX11_swapRows 50 = .ok (.lastore, 1) := by decide +kernel
theorem dX11_swapRows_51 : decode cX11_swapRows 51 = .ok (.iinc 3 1, 3) := by decide +kernel
theorem dX11_swapRows_54 : decode cX11_swapRows 54 = .ok (.goto (-52), 3) := by decide +kernel
theorem dX11_swapRows_57 : decode cX11_swapRows 57 = .ok (.return_, 1) := by decide +kernel
theorem dX11_rankBy_0 : decode cX11_rankBy 0 = .ok (.iconst 0, 1) := by decide +kernel
theorem dX11_rankBy_1 : decode cX11_rankBy 1 = .ok (.istore_n 2, 1) := by decide +kernel
theorem dX11_rankBy_2 : decode cX11_rankBy 2 = .ok (.iconst 0, 1) := by decide +kernel
theorem dX11_rankBy_3 : decode cX11_rankBy 3 = .ok (.istore_n 3, 1) := by decide +kernel
theorem dX11_rankBy_4 : decode cX11_rankBy 4 = .ok (.iload_n 3, 1) := by decide +kernel
theorem dX11_rankBy_5 : decode cX11_rankBy 5 = .ok (.aload_n 0, 1) := by decide +kernel
theorem dX11_rankBy_6 : decode cX11_rankBy 6 = .ok (.getfield 7, 3) := by decide +kernel
theorem dX11_rankBy_9 : decode cX11_rankBy 9 = .ok (.bipush 37, 2) := by decide +kernel
theorem dX11_rankBy_11 : decode cX11_rankBy 11 = .ok (.iaload, 1) := by decide +kernel
theorem dX11_rankBy_12 : decode cX11_rankBy 12 = .ok (.if_icmp .ge 58, 3) := by decide +kernel
theorem dX11_rankBy_15 : decode cX11_rankBy 15 = .ok (.iload_n 1, 1) := by decide +kernel
theorem dX11_rankBy_16 : decode cX11_rankBy 16 = .ok (.iload_n 3, 1) := by decide +kernel
theorem dX11_rankBy_17 : decode cX11_rankBy 17 = .ok (.invokestatic 97, 3) := by decide +kernel
theorem dX11_rankBy_20 : decode cX11_rankBy 20 = .ok (.ifCond .eq 44, 3) := by decide +kernel
theorem dX11_rankBy_23 : decode cX11_rankBy 23 = .ok (.iconst 0, 1) := by decide +kernel
theorem dX11_rankBy_24 : decode cX11_rankBy 24 = .ok (.istore 4, 2) := by decide +kernel
theorem dX11_rankBy_26 : decode cX11_rankBy 26 = .ok (.iload 4, 2) := by decide +kernel
theorem dX11_rankBy_28 : decode cX11_rankBy 28 = .ok (.iconst 4, 1) := by decide +kernel
theorem dX11_rankBy_29 : decode cX11_rankBy 29 = .ok (.if_icmp .ge 32, 3) := by decide +kernel
theorem dX11_rankBy_32 : decode cX11_rankBy 32 = .ok (.aload_n 0, 1) := by decide +kernel
theorem dX11_rankBy_33 : decode cX11_rankBy 33 = .ok (.getfield 32, 3) := by decide +kernel
theorem dX11_rankBy_36 : decode cX11_rankBy 36 = .ok (.iconst 4, 1) := by decide +kernel
theorem dX11_rankBy_37 : decode cX11_rankBy 37 = .ok (.iload_n 2, 1) := by decide +kernel
theorem dX11_rankBy_38 : decode cX11_rankBy 38 = .ok (.imul, 1) := by decide +kernel
theorem dX11_rankBy_39 : decode cX11_rankBy 39 = .ok (.iload 4, 2) := by decide +kernel
theorem dX11_rankBy_41 : decode cX11_rankBy 41 = .ok (.iadd, 1) := by decide +kernel
theorem dX11_rankBy_42 : decode cX11_rankBy 42 = .ok (.aload_n 0, 1) := by decide +kernel
theorem dX11_rankBy_43 : decode cX11_rankBy 43 = .ok (.getfield 7, 3) := by decide +kernel
theorem dX11_rankBy_46 : decode cX11_rankBy 46 = .ok (.iconst 4, 1) := by decide +kernel
theorem dX11_rankBy_47 : decode cX11_rankBy 47 = .ok (.iload_n 3, 1) := by decide +kernel
theorem dX11_rankBy_48 : decode cX11_rankBy 48 = .ok (.imul, 1) := by decide +kernel
theorem dX11_rankBy_49 : decode cX11_rankBy 49 = .ok (.iload 4, 2) := by decide +kernel
theorem dX11_rankBy_51 : decode cX11_rankBy 51 = .ok (.iadd, 1) := by decide +kernel
theorem dX11_rankBy_52 : decode cX11_rankBy 52 = .ok (.iaload, 1) := by decide +kernel
theorem dX11_rankBy_53 : decode cX11_rankBy 53 = .ok (.i2l, 1) := by decide +kernel
theorem dX11_rankBy_54 : decode cX11_rankBy 54 = .ok (.lastore, 1) := by decide +kernel
theorem dX11_rankBy_55 : decode cX11_rankBy 55 = .ok (.iinc 4 1, 3) := by decide +kernel
theorem dX11_rankBy_58 : decode cX11_rankBy 58 = .ok (.goto (-32), 3) := by decide +kernel
theorem dX11_rankBy_61 : decode cX11_rankBy 61 = .ok (.iinc 2 1, 3) := by decide +kernel
theorem dX11_rankBy_64 : decode cX11_rankBy 64 = .ok (.iinc 3 1, 3) := by decide +kernel
theorem dX11_rankBy_67 : decode cX11_rankBy 67 = .ok (.goto (-63), 3) := by decide +kernel
theorem dX11_rankBy_70 : decode cX11_rankBy 70 = .ok (.iconst 0, 1) := by decide +kernel
theorem dX11_rankBy_71 : decode cX11_rankBy 71 = .ok (.istore_n 3, 1) := by decide +kernel
theorem dX11_rankBy_72 : decode cX11_rankBy 72 = .ok (.iconst 0, 1) := by decide +kernel
theorem dX11_rankBy_73 : decode cX11_rankBy 73 = .ok (.istore 4, 2) := by decide +kernel
theorem dX11_rankBy_75 : decode cX11_rankBy 75 = .ok (.iload 4, 2) := by decide +kernel
theorem dX11_rankBy_77 : decode cX11_rankBy 77 = .ok (.iconst 4, 1) := by decide +kernel
theorem dX11_rankBy_78 : decode cX11_rankBy 78 = .ok (.if_icmp .ge 164, 3) := by decide +kernel
theorem dX11_rankBy_81 : decode cX11_rankBy 81 = .ok (.iload_n 3, 1) := by decide +kernel
theorem dX11_rankBy_82 : decode cX11_rankBy 82 = .ok (.istore 5, 2) := by decide +kernel
theorem dX11_rankBy_84 : decode cX11_rankBy 84 = .ok (.iload 5, 2) := by decide +kernel
theorem dX11_rankBy_86 : decode cX11_rankBy 86 = .ok (.iload_n 2, 1) := by decide +kernel
theorem dX11_rankBy_87 : decode cX11_rankBy 87 = .ok (.if_icmp .ge 26, 3) := by decide +kernel
theorem dX11_rankBy_90 : decode cX11_rankBy 90 = .ok (.aload_n 0, 1) := by decide +kernel
theorem dX11_rankBy_91 : decode cX11_rankBy 91 = .ok (.getfield 32, 3) := by decide +kernel
theorem dX11_rankBy_94 : decode cX11_rankBy 94 = .ok (.iconst 4, 1) := by decide +kernel
theorem dX11_rankBy_95 : decode cX11_rankBy 95 = .ok (.iload 5, 2) := by decide +kernel
theorem dX11_rankBy_97 : decode cX11_rankBy 97 = .ok (.imul, 1) := by decide +kernel
theorem dX11_rankBy_98 : decode cX11_rankBy 98 = .ok (.iload 4, 2) := by decide +kernel
theorem dX11_rankBy_100 : decode cX11_rankBy 100 = .ok (.iadd, 1) := by decide +kernel
theorem dX11_rankBy_101 : decode cX11_rankBy 101 = .ok (.laload, 1) := by decide +kernel
theorem dX11_rankBy_102 : decode cX11_rankBy 102 = .ok (.lconst 0, 1) := by decide +kernel
theorem dX11_rankBy_103 : decode cX11_rankBy 103 = .ok (.lcmp, 1) := by decide +kernel
theorem dX11_rankBy_104 : decode cX11_rankBy 104 = .ok (.ifCond .ne 9, 3) := by decide +kernel
theorem dX11_rankBy_107 : decode cX11_rankBy 107 = .ok (.iinc 5 1, 3) := by decide +kernel
theorem dX11_rankBy_110 : decode cX11_rankBy 110 = .ok (.goto (-26), 3) := by decide +kernel
theorem dX11_rankBy_113 : decode cX11_rankBy 113 = .ok (.iload 5, 2) := by decide +kernel
theorem dX11_rankBy_115 : decode cX11_rankBy 115 = .ok (.iload_n 2, 1) := by decide +kernel
theorem dX11_rankBy_116 : decode cX11_rankBy 116 = .ok (.if_icmp .ge 120, 3) := by decide +kernel
theorem dX11_rankBy_119 : decode cX11_rankBy 119 = .ok (.aload_n 0, 1) := by decide +kernel
theorem dX11_rankBy_120 : decode cX11_rankBy 120 = .ok (.iload 5, 2) := by decide +kernel
theorem dX11_rankBy_122 : decode cX11_rankBy 122 = .ok (.iload_n 3, 1) := by decide +kernel
theorem dX11_rankBy_123 : decode cX11_rankBy 123 = .ok (.invokevirtual 101, 3) := by decide +kernel
theorem dX11_rankBy_126 : decode cX11_rankBy 126 = .ok (.iload_n 3, 1) := by decide +kernel
theorem dX11_rankBy_127 : decode cX11_rankBy 127 = .ok (.iconst 1, 1) := by decide +kernel
theorem dX11_rankBy_128 : decode cX11_rankBy 128 = .ok (.iadd, 1) := by decide +kernel
theorem dX11_rankBy_129 : decode cX11_rankBy 129 = .ok (.istore 6, 2) := by decide +kernel
theorem dX11_rankBy_131 : decode cX11_rankBy 131 = .ok (.iload 6, 2) := by decide +kernel
theorem dX11_rankBy_133 : decode cX11_rankBy 133 = .ok (.iload_n 2, 1) := by decide +kernel
theorem dX11_rankBy_134 : decode cX11_rankBy 134 = .ok (.if_icmp .ge 99, 3) := by decide +kernel
theorem dX11_rankBy_137 : decode cX11_rankBy 137 = .ok (.aload_n 0, 1) := by decide +kernel
theorem dX11_rankBy_138 : decode cX11_rankBy 138 = .ok (.getfield 32, 3) := by decide +kernel
theorem dX11_rankBy_141 : decode cX11_rankBy 141 = .ok (.iconst 4, 1) := by decide +kernel
theorem dX11_rankBy_142 : decode cX11_rankBy 142 = .ok (.iload 6, 2) := by decide +kernel
theorem dX11_rankBy_144 : decode cX11_rankBy 144 = .ok (.imul, 1) := by decide +kernel
theorem dX11_rankBy_145 : decode cX11_rankBy 145 = .ok (.iload 4, 2) := by decide +kernel
theorem dX11_rankBy_147 : decode cX11_rankBy 147 = .ok (.iadd, 1) := by decide +kernel
theorem dX11_rankBy_148 : decode cX11_rankBy 148 = .ok (.laload, 1) := by decide +kernel
theorem dX11_rankBy_149 : decode cX11_rankBy 149 = .ok (.lstore 7, 2) := by decide +kernel
theorem dX11_rankBy_151 : decode cX11_rankBy 151 = .ok (.aload_n 0, 1) := by decide +kernel
theorem dX11_rankBy_152 : decode cX11_rankBy 152 = .ok (.getfield 32, 3) := by decide +kernel
theorem dX11_rankBy_155 : decode cX11_rankBy 155 = .ok (.iconst 4, 1) := by decide +kernel
theorem dX11_rankBy_156 : decode cX11_rankBy 156 = .ok (.iload_n 3, 1) := by decide +kernel
theorem dX11_rankBy_157 : decode cX11_rankBy 157 = .ok (.imul, 1) := by decide +kernel
theorem dX11_rankBy_158 : decode cX11_rankBy 158 = .ok (.iload 4, 2) := by decide +kernel
theorem dX11_rankBy_160 : decode cX11_rankBy 160 = .ok (.iadd, 1) := by decide +kernel
theorem dX11_rankBy_161 : decode cX11_rankBy 161 = .ok (.laload, 1) := by decide +kernel
theorem dX11_rankBy_162 : decode cX11_rankBy 162 = .ok (.lstore 9, 2) := by decide +kernel
theorem dX11_rankBy_164 : decode cX11_rankBy 164 = .ok (.iconst 0, 1) := by decide +kernel
theorem dX11_rankBy_165 : decode cX11_rankBy 165 = .ok (.istore 11, 2) := by decide +kernel
theorem dX11_rankBy_167 : decode cX11_rankBy 167 = .ok (.iload 11, 2) := by decide +kernel
theorem dX11_rankBy_169 : decode cX11_rankBy 169 = .ok (.iconst 4, 1) := by decide +kernel
theorem dX11_rankBy_170 : decode cX11_rankBy 170 = .ok (.if_icmp .ge 51, 3) := by decide +kernel
theorem dX11_rankBy_173 : decode cX11_rankBy 173 = .ok (.aload_n 0, 1) := by decide +kernel
theorem dX11_rankBy_174 : decode cX11_rankBy 174 = .ok (.getfield 32, 3) := by decide +kernel
theorem dX11_rankBy_177 : decode cX11_rankBy 177 = .ok (.iconst 4, 1) := by decide +kernel
theorem dX11_rankBy_178 : decode cX11_rankBy 178 = .ok (.iload 6, 2) := by decide +kernel
theorem dX11_rankBy_180 : decode cX11_rankBy 180 = .ok (.imul, 1) := by decide +kernel
theorem dX11_rankBy_181 : decode cX11_rankBy 181 = .ok (.iload 11, 2) := by decide +kernel
theorem dX11_rankBy_183 : decode cX11_rankBy 183 = .ok (.iadd, 1) := by decide +kernel
theorem dX11_rankBy_184 : decode cX11_rankBy 184 = .ok (.aload_n 0, 1) := by decide +kernel
theorem dX11_rankBy_185 : decode cX11_rankBy 185 = .ok (.getfield 32, 3) := by decide +kernel
theorem dX11_rankBy_188 : decode cX11_rankBy 188 = .ok (.iconst 4, 1) := by decide +kernel
theorem dX11_rankBy_189 : decode cX11_rankBy 189 = .ok (.iload 6, 2) := by decide +kernel
theorem dX11_rankBy_191 : decode cX11_rankBy 191 = .ok (.imul, 1) := by decide +kernel
theorem dX11_rankBy_192 : decode cX11_rankBy 192 = .ok (.iload 11, 2) := by decide +kernel
theorem dX11_rankBy_194 : decode cX11_rankBy 194 = .ok (.iadd, 1) := by decide +kernel
theorem dX11_rankBy_195 : decode cX11_rankBy 195 = .ok (.laload, 1) := by decide +kernel
theorem dX11_rankBy_196 : decode cX11_rankBy 196 = .ok (.lload 9, 2) := by decide +kernel
theorem dX11_rankBy_198 : decode cX11_rankBy 198 = .ok (.lmul, 1) := by decide +kernel
theorem dX11_rankBy_199 : decode cX11_rankBy 199 = .ok (.aload_n 0, 1) := by decide +kernel
theorem dX11_rankBy_200 : decode cX11_rankBy 200 = .ok (.getfield 32, 3) := by decide +kernel
theorem dX11_rankBy_203 : decode cX11_rankBy 203 = .ok (.iconst 4, 1) := by decide +kernel
theorem dX11_rankBy_204 : decode cX11_rankBy 204 = .ok (.iload_n 3, 1) := by decide +kernel
theorem dX11_rankBy_205 : decode cX11_rankBy 205 = .ok (.imul, 1) := by decide +kernel
theorem dX11_rankBy_206 : decode cX11_rankBy 206 = .ok (.iload 11, 2) := by decide +kernel
theorem dX11_rankBy_208 : decode cX11_rankBy 208 = .ok (.iadd, 1) := by decide +kernel
theorem dX11_rankBy_209 : decode cX11_rankBy 209 = .ok (.laload, 1) := by decide +kernel
theorem dX11_rankBy_210 : decode cX11_rankBy 210 = .ok (.lload 7, 2) := by decide +kernel
theorem dX11_rankBy_212 : decode cX11_rankBy 212 = .ok (.lmul, 1) := by decide +kernel
theorem dX11_rankBy_213 : decode cX11_rankBy 213 = .ok (.lsub, 1) := by decide +kernel
theorem dX11_rankBy_214 : decode cX11_rankBy 214 = .ok (.lastore, 1) := by decide +kernel
theorem dX11_rankBy_215 : decode cX11_rankBy 215 = .ok (.iinc 11 1, 3) := by decide +kernel
theorem dX11_rankBy_218 : decode cX11_rankBy 218 = .ok (.goto (-51), 3) := by decide +kernel
theorem dX11_rankBy_221 : decode cX11_rankBy 221 = .ok (.aload_n 0, 1) := by decide +kernel
theorem dX11_rankBy_222 : decode cX11_rankBy 222 = .ok (.iload 6, 2) := by decide +kernel
theorem dX11_rankBy_224 : decode cX11_rankBy 224 = .ok (.invokevirtual 105, 3) := by decide +kernel
theorem dX11_rankBy_227 : decode cX11_rankBy 227 = .ok (.iinc 6 1, 3) := by decide +kernel
theorem dX11_rankBy_230 : decode cX11_rankBy 230 = .ok (.goto (-99), 3) := by decide +kernel
theorem dX11_rankBy_233 : decode cX11_rankBy 233 = .ok (.iinc 3 1, 3) := by decide +kernel
theorem dX11_rankBy_236 : decode cX11_rankBy 236 = .ok (.iinc 4 1, 3) := by decide +kernel
theorem dX11_rankBy_239 : decode cX11_rankBy 239 = .ok (.goto (-164), 3) := by decide +kernel
theorem dX11_rankBy_242 : decode cX11_rankBy 242 = .ok (.iload_n 3, 1) := by decide +kernel
theorem dX11_rankBy_243 : decode cX11_rankBy 243 = .ok (.ireturn, 1) := by decide +kernel
theorem dX11_all_0 : decode cX11_all 0 = .ok (.iconst 1, 1) := by decide +kernel
theorem dX11_all_1 : decode cX11_all 1 = .ok (.aload_n 0, 1) := by decide +kernel
theorem dX11_all_2 : decode cX11_all 2 = .ok (.getfield 7, 3) := by decide +kernel
theorem dX11_all_5 : decode cX11_all 5 = .ok (.bipush 37, 2) := by decide +kernel
theorem dX11_all_7 : decode cX11_all 7 = .ok (.iaload, 1) := by decide +kernel
theorem dX11_all_8 : decode cX11_all 8 = .ok (.ishl, 1) := by decide +kernel
theorem dX11_all_9 : decode cX11_all 9 = .ok (.iconst 1, 1) := by decide +kernel
theorem dX11_all_10 : decode cX11_all 10 = .ok (.isub, 1) := by decide +kernel
theorem dX11_all_11 : decode cX11_all 11 = .ok (.ireturn, 1) := by decide +kernel
theorem dX11_isSet_0 : decode cX11_isSet 0 = .ok (.iload_n 1, 1) := by decide +kernel
theorem dX11_isSet_1 : decode cX11_isSet 1 = .ok (.iconst 0, 1) := by decide +kernel
theorem dX11_isSet_2 : decode cX11_isSet 2 = .ok (.aload_n 0, 1) := by decide +kernel
theorem dX11_isSet_3 : decode cX11_isSet 3 = .ok (.invokevirtual 109, 3) := by decide +kernel
theorem dX11_isSet_6 : decode cX11_isSet 6 = .ok (.invokestatic 113, 3) := by decide +kernel
theorem dX11_isSet_9 : decode cX11_isSet 9 = .ok (.ireturn, 1) := by decide +kernel
theorem dX11_lay_0 : decode cX11_lay 0 = .ok (.aload_n 0, 1) := by decide +kernel
theorem dX11_lay_1 : decode cX11_lay 1 = .ok (.getfield 85, 3) := by decide +kernel
theorem dX11_lay_4 : decode cX11_lay 4 = .ok (.ifCond .eq 4, 3) := by decide +kernel
theorem dX11_lay_7 : decode cX11_lay 7 = .ok (.return_, 1) := by decide +kernel
theorem dX11_lay_8 : decode cX11_lay 8 = .ok (.aload_n 0, 1) := by decide +kernel
theorem dX11_lay_9 : decode cX11_lay 9 = .ok (.iconst 1, 1) := by decide +kernel
theorem dX11_lay_10 : decode cX11_lay 10 = .ok (.putfield 85, 3) := by decide +kernel
theorem dX11_lay_13 : decode cX11_lay 13 = .ok (.iconst 0, 1) := by decide +kernel
theorem dX11_lay_14 : decode cX11_lay 14 = .ok (.istore_n 1, 1) := by decide +kernel
theorem dX11_lay_15 : decode cX11_lay 15 = .ok (.iload_n 1, 1) := by decide +kernel
theorem dX11_lay_16 : decode cX11_lay 16 = .ok (.aload_n 0, 1) := by decide +kernel
theorem dX11_lay_17 : decode cX11_lay 17 = .ok (.invokevirtual 109, 3) := by decide +kernel
theorem dX11_lay_20 : decode cX11_lay 20 = .ok (.if_icmp .gt 20, 3) := by decide +kernel
theorem dX11_lay_23 : decode cX11_lay 23 = .ok (.aload_n 0, 1) := by decide +kernel
theorem dX11_lay_24 : decode cX11_lay 24 = .ok (.getfield 29, 3) := by decide +kernel
theorem dX11_lay_27 : decode cX11_lay 27 = .ok (.iload_n 1, 1) := by decide +kernel
theorem dX11_lay_28 : decode cX11_lay 28 = .ok (.aload_n 0, 1) := by decide +kernel
theorem dX11_lay_29 : decode cX11_lay 29 = .ok (.iload_n 1, 1) := by decide +kernel
theorem dX11_lay_30 : decode cX11_lay 30 = .ok (.invokevirtual 117, 3) := by decide +kernel
theorem dX11_lay_33 : decode cX11_lay 33 = .ok (.iastore, 1) := by decide +kernel
theorem dX11_lay_34 : decode cX11_lay 34 = .ok (.iinc 1 1, 3) := by decide +kernel
theorem dX11_lay_37 : decode cX11_lay 37 = .ok (.goto (-22), 3) := by decide +kernel
theorem dX11_lay_40 : decode cX11_lay 40 = .ok (.aload_n 0, 1) := by decide +kernel
theorem dX11_lay_41 : decode cX11_lay 41 = .ok (.iconst 0, 1) := by decide +kernel
theorem dX11_lay_42 : decode cX11_lay 42 = .ok (.putfield 120, 3) := by decide +kernel
theorem dX11_lay_45 : decode cX11_lay 45 = .ok (.iconst 1, 1) := by decide +kernel
theorem dX11_lay_46 : decode cX11_lay 46 = .ok (.istore_n 1, 1) := by decide +kernel
theorem dX11_lay_47 : decode cX11_lay 47 = .ok (.iload_n 1, 1) := by decide +kernel
theorem dX11_lay_48 : decode cX11_lay 48 = .ok (.bipush 6, 2) := by decide +kernel
theorem dX11_lay_50 : decode cX11_lay 50 = .ok (.if_icmp .ge 75, 3) := by decide +kernel
theorem dX11_lay_53 : decode cX11_lay 53 = .ok (.iconst 0, 1) := by decide +kernel
theorem dX11_lay_54 : decode cX11_lay 54 = .ok (.istore_n 2, 1) := by decide +kernel
theorem dX11_lay_55 : decode cX11_lay 55 = .ok (.iload_n 2, 1) := by decide +kernel
theorem dX11_lay_56 : decode cX11_lay 56 = .ok (.aload_n 0, 1) := by decide +kernel
theorem dX11_lay_57 : decode cX11_lay 57 = .ok (.invokevirtual 109, 3) := by decide +kernel
theorem dX11_lay_60 : decode cX11_lay 60 = .ok (.if_icmp .gt 59, 3) := by decide +kernel
theorem dX11_lay_63 : decode cX11_lay 63 = .ok (.iload_n 2, 1) := by decide +kernel
theorem dX11_lay_64 : decode cX11_lay 64 = .ok (.invokestatic 123, 3) := by decide +kernel
theorem dX11_lay_67 : decode cX11_lay 67 = .ok (.iload_n 1, 1) := by decide +kernel
theorem dX11_lay_68 : decode cX11_lay 68 = .ok (.if_icmp .ne 45, 3) := by decide +kernel
theorem dX11_lay_71 : decode cX11_lay 71 = .ok (.aload_n 0, 1) := by decide +kernel
theorem dX11_lay_72 : decode cX11_lay 72 = .ok (.iload_n 2, 1) := by decide +kernel
theorem dX11_lay_73 : decode cX11_lay 73 = .ok (.invokevirtual 126, 3) := by decide +kernel
theorem dX11_lay_76 : decode cX11_lay 76 = .ok (.ifCond .eq 37, 3) := by decide +kernel
theorem dX11_lay_79 : decode cX11_lay 79 = .ok (.aload_n 0, 1) := by decide +kernel
theorem dX11_lay_80 : decode cX11_lay 80 = .ok (.getfield 36, 3) := by decide +kernel
theorem dX11_lay_83 : decode cX11_lay 83 = .ok (.aload_n 0, 1) := by decide +kernel
theorem dX11_lay_84 : decode cX11_lay 84 = .ok (.getfield 120, 3) := by decide +kernel
theorem dX11_lay_87 : decode cX11_lay 87 = .ok (.iload_n 2, 1) := by decide +kernel
theorem dX11_lay_88 : decode cX11_lay 88 = .ok (.iastore, 1) := by decide +kernel
theorem dX11_lay_89 : decode cX11_lay 89 = .ok (.aload_n 0, 1) := by decide +kernel
theorem dX11_lay_90 : decode cX11_lay 90 = .ok (.getfield 39, 3) := by decide +kernel
theorem dX11_lay_93 : decode cX11_lay 93 = .ok (.aload_n 0, 1) := by decide +kernel
theorem dX11_lay_94 : decode cX11_lay 94 = .ok (.getfield 120, 3) := by decide +kernel
theorem dX11_lay_97 : decode cX11_lay 97 = .ok (.aload_n 0, 1) := by decide +kernel
theorem dX11_lay_98 : decode cX11_lay 98 = .ok (.iload_n 2, 1) := by decide +kernel
theorem dX11_lay_99 : decode cX11_lay 99 = .ok (.invokevirtual 130, 3) := by decide +kernel
theorem dX11_lay_102 : decode cX11_lay 102 = .ok (.iastore, 1) := by decide +kernel
theorem dX11_lay_103 : decode cX11_lay 103 = .ok (.aload_n 0, 1) := by decide +kernel
theorem dX11_lay_104 : decode cX11_lay 104 = .ok (.dup, 1) := by decide +kernel
theorem dX11_lay_105 : decode cX11_lay 105 = .ok (.getfield 120, 3) := by decide +kernel
theorem dX11_lay_108 : decode cX11_lay 108 = .ok (.iconst 1, 1) := by decide +kernel
theorem dX11_lay_109 : decode cX11_lay 109 = .ok (.iadd, 1) := by decide +kernel
theorem dX11_lay_110 : decode cX11_lay 110 = .ok (.putfield 120, 3) := by decide +kernel
theorem dX11_lay_113 : decode cX11_lay 113 = .ok (.iinc 2 1, 3) := by decide +kernel
theorem dX11_lay_116 : decode cX11_lay 116 = .ok (.goto (-61), 3) := by decide +kernel
theorem dX11_lay_119 : decode cX11_lay 119 = .ok (.iinc 1 1, 3) := by decide +kernel
theorem dX11_lay_122 : decode cX11_lay 122 = .ok (.goto (-75), 3) := by decide +kernel
theorem dX11_lay_125 : decode cX11_lay 125 = .ok (.return_, 1) := by decide +kernel
theorem dX11_isBound_0 : decode cX11_isBound 0 = .ok (.aload_n 0, 1) := by decide +kernel
theorem dX11_isBound_1 : decode cX11_isBound 1 = .ok (.getfield 29, 3) := by decide +kernel
theorem dX11_isBound_4 : decode cX11_isBound 4 = .ok (.iload_n 1, 1) := by decide +kernel
theorem dX11_isBound_5 : decode cX11_isBound 5 = .ok (.iaload, 1) := by decide +kernel
theorem dX11_isBound_6 : decode cX11_isBound 6 = .ok (.iload_n 1, 1) := by decide +kernel
theorem dX11_isBound_7 : decode cX11_isBound 7 = .ok (.invokestatic 123, 3) := by decide +kernel
theorem dX11_isBound_10 : decode cX11_isBound 10 = .ok (.if_icmp .ge 7, 3) := by decide +kernel
theorem dX11_isBound_13 : decode cX11_isBound 13 = .ok (.iconst 1, 1) := by decide +kernel
theorem dX11_isBound_14 : decode cX11_isBound 14 = .ok (.goto 4, 3) := by decide +kernel
theorem dX11_isBound_17 : decode cX11_isBound 17 = .ok (.iconst 0, 1) := by decide +kernel
theorem dX11_isBound_18 : decode cX11_isBound 18 = .ok (.ireturn, 1) := by decide +kernel
theorem dX11_isRing_0 : decode cX11_isRing 0 = .ok (.aload_n 0, 1) := by decide +kernel
theorem dX11_isRing_1 : decode cX11_isRing 1 = .ok (.iload_n 1, 1) := by decide +kernel
theorem dX11_isRing_2 : decode cX11_isRing 2 = .ok (.invokevirtual 133, 3) := by decide +kernel
theorem dX11_isRing_5 : decode cX11_isRing 5 = .ok (.istore_n 2, 1) := by decide +kernel
theorem dX11_isRing_6 : decode cX11_isRing 6 = .ok (.iconst 0, 1) := by decide +kernel
theorem dX11_isRing_7 : decode cX11_isRing 7 = .ok (.istore_n 3, 1) := by decide +kernel
theorem dX11_isRing_8 : decode cX11_isRing 8 = .ok (.iload_n 3, 1) := by decide +kernel
theorem dX11_isRing_9 : decode cX11_isRing 9 = .ok (.aload_n 0, 1) := by decide +kernel
theorem dX11_isRing_10 : decode cX11_isRing 10 = .ok (.getfield 7, 3) := by decide +kernel
theorem dX11_isRing_13 : decode cX11_isRing 13 = .ok (.bipush 37, 2) := by decide +kernel
theorem dX11_isRing_15 : decode cX11_isRing 15 = .ok (.iaload, 1) := by decide +kernel
theorem dX11_isRing_16 : decode cX11_isRing 16 = .ok (.if_icmp .ge 41, 3) := by decide +kernel
theorem dX11_isRing_19 : decode cX11_isRing 19 = .ok (.iload_n 2, 1) := by decide +kernel
theorem dX11_isRing_20 : decode cX11_isRing 20 = .ok (.ifCond .eq 37, 3) := by decide +kernel
theorem dX11_isRing_23 : decode cX11_isRing 23 = .ok (.iload_n 1, 1) := by decide +kernel
theorem dX11_isRing_24 : decode cX11_isRing 24 = .ok (.iload_n 3, 1) := by decide +kernel
theorem dX11_isRing_25 : decode cX11_isRing 25 = .ok (.invokestatic 97, 3) := by decide +kernel
theorem dX11_isRing_28 : decode cX11_isRing 28 = .ok (.ifCond .eq 17, 3) := by decide +kernel
theorem dX11_isRing_31 : decode cX11_isRing 31 = .ok (.aload_n 0, 1) := by decide +kernel
theorem dX11_isRing_32 : decode cX11_isRing 32 = .ok (.iload_n 1, 1) := by decide +kernel
theorem dX11_isRing_33 : decode cX11_isRing 33 = .ok (.iconst 1, 1) := by decide +kernel
theorem dX11_isRing_34 : decode cX11_isRing 34 = .ok (.iload_n 3, 1) := by decide +kernel
theorem dX11_isRing_35 : decode cX11_isRing 35 = .ok (.ishl, 1) := by decide +kernel
theorem dX11_isRing_36 : decode cX11_isRing 36 = .ok (.iconst (-1), 1) := by decide +kernel
theorem dX11_isRing_37 : decode cX11_isRing 37 = .ok (.ixor, 1) := by decide +kernel
theorem dX11_isRing_38 : decode cX11_isRing 38 = .ok (.iand, 1) := by decide +kernel
theorem dX11_isRing_39 : decode cX11_isRing 39 = .ok (.invokevirtual 133, 3) := by decide +kernel
theorem dX11_isRing_42 : decode cX11_isRing 42 = .ok (.ifCond .ne 7, 3) := by decide +kernel
theorem dX11_isRing_45 : decode cX11_isRing 45 = .ok (.iconst 1, 1) := by decide +kernel
theorem dX11_isRing_46 : decode cX11_isRing 46 = .ok (.goto 4, 3) := by decide +kernel
theorem dX11_isRing_49 : decode cX11_isRing 49 = .ok (.iconst 0, 1) := by decide +kernel
theorem dX11_isRing_50 : decode cX11_isRing 50 = .ok (.istore_n 2, 1) := by decide +kernel
theorem dX11_isRing_51 : decode cX11_isRing 51 = .ok (.iinc 3 1, 3) := by decide +kernel
theorem dX11_isRing_54 : decode cX11_isRing 54 = .ok (.goto (-46), 3) := by decide +kernel
theorem dX11_isRing_57 : decode cX11_isRing 57 = .ok (.iload_n 2, 1) := by decide +kernel
theorem dX11_isRing_58 : decode cX11_isRing 58 = .ok (.ireturn, 1) := by decide +kernel
theorem dX11_clearColumn_0 : decode cX11_clearColumn 0 = .ok (.iload_n 1, 1) := by decide +kernel
theorem dX11_clearColumn_1 : decode cX11_clearColumn 1 = .ok (.istore_n 2, 1) := by decide +kernel
theorem dX11_clearColumn_2 : decode cX11_clearColumn 2 = .ok (.aload_n 0, 1) := by decide +kernel
theorem dX11_clearColumn_3 : decode cX11_clearColumn 3 = .ok (.getfield 48, 3) := by decide +kernel
theorem dX11_clearColumn_6 : decode cX11_clearColumn 6 = .ok (.iconst 5, 1) := by decide +kernel
theorem dX11_clearColumn_7 : decode cX11_clearColumn 7 = .ok (.iload_n 2, 1) := by decide +kernel
theorem dX11_clearColumn_8 : decode cX11_clearColumn 8 = .ok (.imul, 1) := by decide +kernel
theorem dX11_clearColumn_9 : decode cX11_clearColumn 9 = .ok (.iload_n 1, 1) := by decide +kernel
theorem dX11_clearColumn_10 : decode cX11_clearColumn 10 = .ok (.iadd, 1) := by decide +kernel
theorem dX11_clearColumn_11 : decode cX11_clearColumn 11 = .ok (.laload, 1) := by decide +kernel
theorem dX11_clearColumn_12 : decode cX11_clearColumn 12 = .ok (.lconst 0, 1) := by decide +kernel
theorem dX11_clearColumn_13 : decode cX11_clearColumn 13 = .ok (.lcmp, 1) := by decide +kernel
theorem dX11_clearColumn_14 : decode cX11_clearColumn 14 = .ok (.ifCond .ne 9, 3) := by decide +kernel
theorem dX11_clearColumn_17 : decode cX11_clearColumn 17 = .ok (.iinc 2 1, 3) := by decide +kernel
theorem dX11_clearColumn_20 : decode cX11_clearColumn 20 = .ok (.goto (-18), 3) := by decide +kernel
theorem dX11_clearColumn_23 : decode cX11_clearColumn 23 = .ok (.iconst 0, 1) := by decide +kernel
theorem dX11_clearColumn_24 : decode cX11_clearColumn 24 = .ok (.istore_n 3, 1) := by decide +kernel
theorem dX11_clearColumn_25 : decode cX11_clearColumn 25 = .ok (.iload_n 3, 1) := by decide +kernel
theorem dX11_clearColumn_26 : decode cX11_clearColumn 26 = .ok (.iconst 5, 1) := by decide +kernel
theorem dX11_clearColumn_27 : decode cX11_clearColumn 27 = .ok (.if_icmp .ge 53, 3) := by decide +kernel
theorem dX11_clearColumn_30 : decode cX11_clearColumn 30 = .ok (.aload_n 0, 1) := by decide +kernel
theorem dX11_clearColumn_31 : decode cX11_clearColumn 31 = .ok (.getfield 48, 3) := by decide +kernel
theorem dX11_clearColumn_34 : decode cX11_clearColumn 34 = .ok (.iconst 5, 1) := by decide +kernel
theorem dX11_clearColumn_35 : decode cX11_clearColumn 35 = .ok (.iload_n 2, 1) := by decide +kernel
theorem dX11_clearColumn_36 : decode cX11_clearColumn 36 = .ok (.imul, 1) := by decide +kernel
theorem dX11_clearColumn_37 : decode cX11_clearColumn 37 = .ok (.iload_n 3, 1) := by decide +kernel
theorem dX11_clearColumn_38 : decode cX11_clearColumn 38 = .ok (.iadd, 1) := by decide +kernel
theorem dX11_clearColumn_39 : decode cX11_clearColumn 39 = .ok (.laload, 1) := by decide +kernel
theorem dX11_clearColumn_40 : decode cX11_clearColumn 40 = .ok (.lstore 4, 2) := by decide +kernel
theorem dX11_clearColumn_42 : decode cX11_clearColumn 42 = .ok (.aload_n 0, 1) := by decide +kernel
theorem dX11_clearColumn_43 : decode cX11_clearColumn 43 = .ok (.getfield 48, 3) := by decide +kernel
theorem dX11_clearColumn_46 : decode cX11_clearColumn 46 = .ok (.iconst 5, 1) := by decide +kernel
theorem dX11_clearColumn_47 : decode cX11_clearColumn 47 = .ok (.iload_n 2, 1) := by decide +kernel
theorem dX11_clearColumn_48 : decode cX11_clearColumn 48 = .ok (.imul, 1) := by decide +kernel
theorem dX11_clearColumn_49 : decode cX11_clearColumn 49 = .ok (.iload_n 3, 1) := by decide +kernel
theorem dX11_clearColumn_50 : decode cX11_clearColumn 50 = .ok (.iadd, 1) := by decide +kernel
theorem dX11_clearColumn_51 : decode cX11_clearColumn 51 = .ok (.aload_n 0, 1) := by decide +kernel
theorem dX11_clearColumn_52 : decode cX11_clearColumn 52 = .ok (.getfield 48, 3) := by decide +kernel
theorem dX11_clearColumn_55 : decode cX11_clearColumn 55 = .ok (.iconst 5, 1) := by decide +kernel
theorem dX11_clearColumn_56 : decode cX11_clearColumn 56 = .ok (.iload_n 1, 1) := by decide +kernel
theorem dX11_clearColumn_57 : decode cX11_clearColumn 57 = .ok (.imul, 1) := by decide +kernel
theorem dX11_clearColumn_58 : decode cX11_clearColumn 58 = .ok (.iload_n 3, 1) := by decide +kernel
theorem dX11_clearColumn_59 : decode cX11_clearColumn 59 = .ok (.iadd, 1) := by decide +kernel
theorem dX11_clearColumn_60 : decode cX11_clearColumn 60 = .ok (.laload, 1) := by decide +kernel
theorem dX11_clearColumn_61 : decode cX11_clearColumn 61 = .ok (.lastore, 1) := by decide +kernel
theorem dX11_clearColumn_62 : decode cX11_clearColumn 62 = .ok (.aload_n 0, 1) := by decide +kernel
theorem dX11_clearColumn_63 : decode cX11_clearColumn 63 = .ok (.getfield 48, 3) := by decide +kernel
theorem dX11_clearColumn_66 : decode cX11_clearColumn 66 = .ok (.iconst 5, 1) := by decide +kernel
theorem dX11_clearColumn_67 : decode cX11_clearColumn 67 = .ok (.iload_n 1, 1) := by decide +kernel
theorem dX11_clearColumn_68 : decode cX11_clearColumn 68 = .ok (.imul, 1) := by decide +kernel
theorem dX11_clearColumn_69 : decode cX11_clearColumn 69 = .ok (.iload_n 3, 1) := by decide +kernel
theorem dX11_clearColumn_70 : decode cX11_clearColumn 70 = .ok (.iadd, 1) := by decide +kernel
theorem dX11_clearColumn_71 : decode cX11_clearColumn 71 = .ok (.lload 4, 2) := by decide +kernel
theorem dX11_clearColumn_73 : decode cX11_clearColumn 73 = .ok (.lastore, 1) := by decide +kernel
theorem dX11_clearColumn_74 : decode cX11_clearColumn 74 = .ok (.iinc 3 1, 3) := by decide +kernel
theorem dX11_clearColumn_77 : decode cX11_clearColumn 77 = .ok (.goto (-52), 3) := by decide +kernel
theorem dX11_clearColumn_80 : decode cX11_clearColumn 80 = .ok (.iconst 0, 1) := by decide +kernel
theorem dX11_clearColumn_81 : decode cX11_clearColumn 81 = .ok (.istore_n 3, 1) := by decide +kernel
theorem dX11_clearColumn_82 : decode cX11_clearColumn 82 = .ok (.iload_n 3, 1) := by decide +kernel
theorem dX11_clearColumn_83 : decode cX11_clearColumn 83 = .ok (.iconst 4, 1) := by decide +kernel
theorem dX11_clearColumn_84 : decode cX11_clearColumn 84 = .ok (.if_icmp .ge 152, 3) := by decide +kernel
theorem dX11_clearColumn_87 : decode cX11_clearColumn 87 = .ok (.aload_n 0, 1) := by decide +kernel
theorem dX11_clearColumn_88 : decode cX11_clearColumn 88 = .ok (.getfield 48, 3) := by decide +kernel
theorem dX11_clearColumn_91 : decode cX11_clearColumn 91 = .ok (.iconst 5, 1) := by decide +kernel
theorem dX11_clearColumn_92 : decode cX11_clearColumn 92 = .ok (.iload_n 3, 1) := by decide +kernel
theorem dX11_clearColumn_93 : decode cX11_clearColumn 93 = .ok (.imul, 1) := by decide +kernel
theorem dX11_clearColumn_94 : decode cX11_clearColumn 94 = .ok (.iload_n 1, 1) := by decide +kernel
theorem dX11_clearColumn_95 : decode cX11_clearColumn 95 = .ok (.iadd, 1) := by decide +kernel
theorem dX11_clearColumn_96 : decode cX11_clearColumn 96 = .ok (.laload, 1) := by decide +kernel
theorem dX11_clearColumn_97 : decode cX11_clearColumn 97 = .ok (.lstore 4, 2) := by decide +kernel
theorem dX11_clearColumn_99 : decode cX11_clearColumn 99 = .ok (.aload_n 0, 1) := by decide +kernel
theorem dX11_clearColumn_100 : decode cX11_clearColumn 100 = .ok (.getfield 48, 3) := by decide +kernel
theorem dX11_clearColumn_103 : decode cX11_clearColumn 103 = .ok (.iconst 5, 1) := by decide +kernel
theorem dX11_clearColumn_104 : decode cX11_clearColumn 104 = .ok (.iload_n 1, 1) := by decide +kernel
theorem dX11_clearColumn_105 : decode cX11_clearColumn 105 = .ok (.imul, 1) := by decide +kernel
theorem dX11_clearColumn_106 : decode cX11_clearColumn 106 = .ok (.iload_n 1, 1) := by decide +kernel
theorem dX11_clearColumn_107 : decode cX11_clearColumn 107 = .ok (.iadd, 1) := by decide +kernel
theorem dX11_clearColumn_108 : decode cX11_clearColumn 108 = .ok (.laload, 1) := by decide +kernel
theorem dX11_clearColumn_109 : decode cX11_clearColumn 109 = .ok (.lstore 6, 2) := by decide +kernel
theorem dX11_clearColumn_111 : decode cX11_clearColumn 111 = .ok (.lconst 0, 1) := by decide +kernel
theorem dX11_clearColumn_112 : decode cX11_clearColumn 112 = .ok (.lstore 8, 2) := by decide +kernel
theorem dX11_clearColumn_114 : decode cX11_clearColumn 114 = .ok (.iconst 0, 1) := by decide +kernel
theorem dX11_clearColumn_115 : decode cX11_clearColumn 115 = .ok (.istore 10, 2) := by decide +kernel
theorem dX11_clearColumn_117 : decode cX11_clearColumn 117 = .ok (.iload 10, 2) := by decide +kernel
theorem dX11_clearColumn_119 : decode cX11_clearColumn 119 = .ok (.iconst 5, 1) := by decide +kernel
theorem dX11_clearColumn_120 : decode cX11_clearColumn 120 = .ok (.if_icmp .ge 72, 3) := by decide +kernel
theorem dX11_clearColumn_123 : decode cX11_clearColumn 123 = .ok (.iload_n 3, 1) := by decide +kernel
theorem dX11_clearColumn_124 : decode cX11_clearColumn 124 = .ok (.iload_n 1, 1) := by decide +kernel
theorem dX11_clearColumn_125 : decode cX11_clearColumn 125 = .ok (.if_icmp .eq 67, 3) := by decide +kernel
theorem dX11_clearColumn_128 : decode cX11_clearColumn 128 = .ok (.aload_n 0, 1) := by decide +kernel
theorem dX11_clearColumn_129 : decode cX11_clearColumn 129 = .ok (.getfield 48, 3) := by decide +kernel
theorem dX11_clearColumn_132 : decode cX11_clearColumn 132 = .ok (.iconst 5, 1) := by decide +kernel
theorem dX11_clearColumn_133 : decode cX11_clearColumn 133 = .ok (.iload_n 3, 1) := by decide +kernel
theorem dX11_clearColumn_134 : decode cX11_clearColumn 134 = .ok (.imul, 1) := by decide +kernel
theorem dX11_clearColumn_135 : decode cX11_clearColumn 135 = .ok (.iload 10, 2) := by decide +kernel
theorem dX11_clearColumn_137 : decode cX11_clearColumn 137 = .ok (.iadd, 1) := by decide +kernel
theorem dX11_clearColumn_138 : decode cX11_clearColumn 138 = .ok (.aload_n 0, 1) := by decide +kernel
theorem dX11_clearColumn_139 : decode cX11_clearColumn 139 = .ok (.getfield 48, 3) := by decide +kernel
theorem dX11_clearColumn_142 : decode cX11_clearColumn 142 = .ok (.iconst 5, 1) := by decide +kernel
theorem dX11_clearColumn_143 : decode cX11_clearColumn 143 = .ok (.iload_n 3, 1) := by decide +kernel
theorem dX11_clearColumn_144 : decode cX11_clearColumn 144 = .ok (.imul, 1) := by decide +kernel
theorem dX11_clearColumn_145 : decode cX11_clearColumn 145 = .ok (.iload 10, 2) := by decide +kernel
theorem dX11_clearColumn_147 : decode cX11_clearColumn 147 = .ok (.iadd, 1) := by decide +kernel
theorem dX11_clearColumn_148 : decode cX11_clearColumn 148 = .ok (.laload, 1) := by decide +kernel
theorem dX11_clearColumn_149 : decode cX11_clearColumn 149 = .ok (.lload 6, 2) := by decide +kernel
theorem dX11_clearColumn_151 : decode cX11_clearColumn 151 = .ok (.lmul, 1) := by decide +kernel
theorem dX11_clearColumn_152 : decode cX11_clearColumn 152 = .ok (.aload_n 0, 1) := by decide +kernel
theorem dX11_clearColumn_153 : decode cX11_clearColumn 153 = .ok (.getfield 48, 3) := by decide +kernel
theorem dX11_clearColumn_156 : decode cX11_clearColumn 156 = .ok (.iconst 5, 1) := by decide +kernel
theorem dX11_clearColumn_157 : decode cX11_clearColumn 157 = .ok (.iload_n 1, 1) := by decide +kernel
theorem dX11_clearColumn_158 : decode cX11_clearColumn 158 = .ok (.imul, 1) := by decide +kernel
theorem dX11_clearColumn_159 : decode cX11_clearColumn 159 = .ok (.iload 10, 2) := by decide +kernel
theorem dX11_clearColumn_161 : decode cX11_clearColumn 161 = .ok (.iadd, 1) := by decide +kernel
theorem dX11_clearColumn_162 : decode cX11_clearColumn 162 = .ok (.laload, 1) := by decide +kernel
theorem dX11_clearColumn_163 : decode cX11_clearColumn 163 = .ok (.lload 4, 2) := by decide +kernel
theorem dX11_clearColumn_165 : decode cX11_clearColumn 165 = .ok (.lmul, 1) := by decide +kernel
theorem dX11_clearColumn_166 : decode cX11_clearColumn 166 = .ok (.lsub, 1) := by decide +kernel
theorem dX11_clearColumn_167 : decode cX11_clearColumn 167 = .ok (.lastore, 1) := by decide +kernel
theorem dX11_clearColumn_168 : decode cX11_clearColumn 168 = .ok (.lload 8, 2) := by decide +kernel
theorem dX11_clearColumn_170 : decode cX11_clearColumn 170 = .ok (.aload_n 0, 1) := by decide +kernel
theorem dX11_clearColumn_171 : decode cX11_clearColumn 171 = .ok (.getfield 48, 3) := by decide +kernel
theorem dX11_clearColumn_174 : decode cX11_clearColumn 174 = .ok (.iconst 5, 1) := by decide +kernel
theorem dX11_clearColumn_175 : decode cX11_clearColumn 175 = .ok (.iload_n 3, 1) := by decide +kernel
theorem dX11_clearColumn_176 : decode cX11_clearColumn 176 = .ok (.imul, 1) := by decide +kernel
theorem dX11_clearColumn_177 : decode cX11_clearColumn 177 = .ok (.iload 10, 2) := by decide +kernel
theorem dX11_clearColumn_179 : decode cX11_clearColumn 179 = .ok (.iadd, 1) := by decide +kernel
theorem dX11_clearColumn_180 : decode cX11_clearColumn 180 = .ok (.laload, 1) := by decide +kernel
theorem dX11_clearColumn_181 : decode cX11_clearColumn 181 = .ok (.invokestatic 93, 3) := by decide +kernel
theorem dX11_clearColumn_184 : decode cX11_clearColumn 184 = .ok (.lstore 8, 2) := by decide +kernel
theorem dX11_clearColumn_186 : decode cX11_clearColumn 186 = .ok (.iinc 10 1, 3) := by decide +kernel
theorem dX11_clearColumn_189 : decode cX11_clearColumn 189 = .ok (.goto (-72), 3) := by decide +kernel
theorem dX11_clearColumn_192 : decode cX11_clearColumn 192 = .ok (.iconst 0, 1) := by decide +kernel
theorem dX11_clearColumn_193 : decode cX11_clearColumn 193 = .ok (.istore 10, 2) := by decide +kernel
theorem dX11_clearColumn_195 : decode cX11_clearColumn 195 = .ok (.iload 10, 2) := by decide +kernel
theorem dX11_clearColumn_197 : decode cX11_clearColumn 197 = .ok (.iconst 5, 1) := by decide +kernel
theorem dX11_clearColumn_198 : decode cX11_clearColumn 198 = .ok (.if_icmp .ge 32, 3) := by decide +kernel
theorem dX11_clearColumn_201 : decode cX11_clearColumn 201 = .ok (.lload 8, 2) := by decide +kernel
theorem dX11_clearColumn_203 : decode cX11_clearColumn 203 = .ok (.lconst 1, 1) := by decide +kernel
theorem dX11_clearColumn_204 : decode cX11_clearColumn 204 = .ok (.lcmp, 1) := by decide +kernel
theorem dX11_clearColumn_205 : decode cX11_clearColumn 205 = .ok (.ifCond .le 25, 3) := by decide +kernel
theorem dX11_clearColumn_208 : decode cX11_clearColumn 208 = .ok (.aload_n 0, 1) := by decide +kernel
theorem dX11_clearColumn_209 : decode cX11_clearColumn 209 = .ok (.getfield 48, 3) := by decide +kernel
theorem dX11_clearColumn_212 : decode cX11_clearColumn 212 = .ok (.iconst 5, 1) := by decide +kernel
theorem dX11_clearColumn_213 : decode cX11_clearColumn 213 = .ok (.iload_n 3, 1) := by decide +kernel
theorem dX11_clearColumn_214 : decode cX11_clearColumn 214 = .ok (.imul, 1) := by decide +kernel
theorem dX11_clearColumn_215 : decode cX11_clearColumn 215 = .ok (.iload 10, 2) := by decide +kernel
theorem dX11_clearColumn_217 : decode cX11_clearColumn 217 = .ok (.iadd, 1) := by decide +kernel
theorem dX11_clearColumn_218 : decode cX11_clearColumn 218 = .ok (.dup2, 1) := by decide +kernel
theorem dX11_clearColumn_219 : decode cX11_clearColumn 219 = .ok (.laload, 1) := by decide +kernel
theorem dX11_clearColumn_220 : decode cX11_clearColumn 220 = .ok (.lload 8, 2) := by decide +kernel
theorem dX11_clearColumn_222 : decode cX11_clearColumn 222 = .ok (.ldiv, 1) := by decide +kernel
theorem dX11_clearColumn_223 : decode cX11_clearColumn 223 = .ok (.lastore, 1) := by decide +kernel
theorem dX11_clearColumn_224 : decode cX11_clearColumn 224 = .ok (.iinc 10 1, 3) := by decide +kernel
theorem dX11_clearColumn_227 : decode cX11_clearColumn 227 = .ok (.goto (-32), 3) := by decide +kernel
theorem dX11_clearColumn_230 : decode cX11_clearColumn 230 = .ok (.iinc 3 1, 3) := by decide +kernel
theorem dX11_clearColumn_233 : decode cX11_clearColumn 233 = .ok (.goto (-151), 3) := by decide +kernel
theorem dX11_clearColumn_236 : decode cX11_clearColumn 236 = .ok (.return_, 1) := by decide +kernel
theorem dX11_findFactors_0 : decode cX11_findFactors 0 = .ok (.aload_n 0, 1) := by decide +kernel
theorem dX11_findFactors_1 : decode cX11_findFactors 1 = .ok (.iconst 0, 1) := by decide +kernel
theorem dX11_findFactors_2 : decode cX11_findFactors 2 = .ok (.putfield 136, 3) := by decide +kernel
theorem dX11_findFactors_5 : decode cX11_findFactors 5 = .ok (.iconst 0, 1) := by decide +kernel
theorem dX11_findFactors_6 : decode cX11_findFactors 6 = .ok (.istore_n 2, 1) := by decide +kernel
theorem dX11_findFactors_7 : decode cX11_findFactors 7 = .ok (.iload_n 2, 1) := by decide +kernel
theorem dX11_findFactors_8 : decode cX11_findFactors 8 = .ok (.bipush 9, 2) := by decide +kernel
theorem dX11_findFactors_10 : decode cX11_findFactors 10 = .ok (.if_icmp .ge 44, 3) := by decide +kernel
theorem dX11_findFactors_13 : decode cX11_findFactors 13 = .ok (.aload_n 0, 1) := by decide +kernel
theorem dX11_findFactors_14 : decode cX11_findFactors 14 = .ok (.getfield 42, 3) := by decide +kernel
theorem dX11_findFactors_17 : decode cX11_findFactors 17 = .ok (.iload_n 2, 1) := by decide +kernel
theorem dX11_findFactors_18 : decode cX11_findFactors 18 = .ok (.lconst 0, 1) := by decide +kernel
theorem dX11_findFactors_19 : decode cX11_findFactors 19 = .ok (.lastore, 1) := by decide +kernel
theorem dX11_findFactors_20 : decode cX11_findFactors 20 = .ok (.iload_n 1, 1) := by decide +kernel
theorem dX11_findFactors_21 : decode cX11_findFactors 21 = .ok (.iload_n 2, 1) := by decide +kernel
theorem dX11_findFactors_22 : decode cX11_findFactors 22 = .ok (.invokestatic 97, 3) := by decide +kernel
theorem dX11_findFactors_25 : decode cX11_findFactors 25 = .ok (.ifCond .eq 23, 3) := by decide +kernel
theorem dX11_findFactors_28 : decode cX11_findFactors 28 = .ok (.aload_n 0, 1) := by decide +kernel
theorem dX11_findFactors_29 : decode cX11_findFactors 29 = .ok (.getfield 45, 3) := by decide +kernel
theorem dX11_findFactors_32 : decode cX11_findFactors 32 = .ok (.aload_n 0, 1) := by decide +kernel
theorem dX11_findFactors_33 : decode cX11_findFactors 33 = .ok (.getfield 136, 3) := by decide +kernel
theorem dX11_findFactors_36 : decode cX11_findFactors 36 = .ok (.iload_n 2, 1) := by decide +kernel
theorem dX11_findFactors_37 : decode cX11_findFactors 37 = .ok (.iastore, 1) := by decide +kernel
theorem dX11_findFactors_38 : decode cX11_findFactors 38 = .ok (.aload_n 0, 1) := by decide +kernel
theorem dX11_findFactors_39 : decode cX11_findFactors 39 = .ok (.dup, 1) := by decide +kernel
theorem dX11_findFactors_40 : decode cX11_findFactors 40 = .ok (.getfield 136, 3) := by decide +kernel
theorem dX11_findFactors_43 : decode cX11_findFactors 43 = .ok (.iconst 1, 1) := by decide +kernel
theorem dX11_findFactors_44 : decode cX11_findFactors 44 = .ok (.iadd, 1) := by decide +kernel
theorem dX11_findFactors_45 : decode cX11_findFactors 45 = .ok (.putfield 136, 3) := by decide +kernel
theorem dX11_findFactors_48 : decode cX11_findFactors 48 = .ok (.iinc 2 1, 3) := by decide +kernel
theorem dX11_findFactors_51 : decode cX11_findFactors 51 = .ok (.goto (-44), 3) := by decide +kernel
theorem dX11_findFactors_54 : decode cX11_findFactors 54 = .ok (.iconst 0, 1) := by decide +kernel
theorem dX11_findFactors_55 : decode cX11_findFactors 55 = .ok (.istore_n 2, 1) := by decide +kernel
theorem dX11_findFactors_56 : decode cX11_findFactors 56 = .ok (.iload_n 2, 1) := by decide +kernel
theorem dX11_findFactors_57 : decode cX11_findFactors 57 = .ok (.iconst 4, 1) := by decide +kernel
theorem dX11_findFactors_58 : decode cX11_findFactors 58 = .ok (.if_icmp .ge 60, 3) := by decide +kernel
theorem dX11_findFactors_61 : decode cX11_findFactors 61 = .ok (.iconst 0, 1) := by decide +kernel
theorem dX11_findFactors_62 : decode cX11_findFactors 62 = .ok (.istore_n 3, 1) := by decide +kernel
theorem dX11_findFactors_63 : decode cX11_findFactors 63 = .ok (.iload_n 3, 1) := by decide +kernel
theorem dX11_findFactors_64 : decode cX11_findFactors 64 = .ok (.iconst 5, 1) := by decide +kernel
theorem dX11_findFactors_65 : decode cX11_findFactors 65 = .ok (.if_icmp .ge 47, 3) := by decide +kernel
theorem dX11_findFactors_68 : decode cX11_findFactors 68 = .ok (.aload_n 0, 1) := by decide +kernel
theorem dX11_findFactors_69 : decode cX11_findFactors 69 = .ok (.getfield 48, 3) := by decide +kernel
theorem dX11_findFactors_72 : decode cX11_findFactors 72 = .ok (.iconst 5, 1) := by decide +kernel
theorem dX11_findFactors_73 : decode cX11_findFactors 73 = .ok (.iload_n 2, 1) := by decide +kernel
theorem dX11_findFactors_74 : decode cX11_findFactors 74 = .ok (.imul, 1) := by decide +kernel
theorem dX11_findFactors_75 : decode cX11_findFactors 75 = .ok (.iload_n 3, 1) := by decide +kernel
theorem dX11_findFactors_76 : decode cX11_findFactors 76 = .ok (.iadd, 1) := by decide +kernel
theorem dX11_findFactors_77 : decode cX11_findFactors 77 = .ok (.iload_n 3, 1) := by decide +kernel
theorem dX11_findFactors_78 : decode cX11_findFactors 78 = .ok (.aload_n 0, 1) := by decide +kernel
theorem dX11_findFactors_79 : decode cX11_findFactors 79 = .ok (.getfield 136, 3) := by decide +kernel
theorem dX11_findFactors_82 : decode cX11_findFactors 82 = .ok (.if_icmp .ge 22, 3) := by decide +kernel
theorem dX11_findFactors_85 : decode cX11_findFactors 85 = .ok (.aload_n 0, 1) := by decide +kernel
theorem dX11_findFactors_86 : decode cX11_findFactors 86 = .ok (.getfield 7, 3) := by decide +kernel
theorem dX11_findFactors_89 : decode cX11_findFactors 89 = .ok (.iconst 4, 1) := by decide +kernel
theorem dX11_findFactors_90 : decode cX11_findFactors 90 = .ok (.aload_n 0, 1) := by decide +kernel
theorem dX11_findFactors_91 : decode cX11_findFactors 91 = .ok (.getfield 45, 3) := by decide +kernel
theorem dX11_findFactors_94 : decode cX11_findFactors 94 = .ok (.iload_n 3, 1) := by decide +kernel
theorem dX11_findFactors_95 : decode cX11_findFactors 95 = .ok (.iaload, 1) := by decide +kernel
theorem dX11_findFactors_96 : decode cX11_findFactors 96 = .ok (.imul, 1) := by decide +kernel
theorem dX11_findFactors_97 : decode cX11_findFactors 97 = .ok (.iload_n 2, 1) := by decide +kernel
theorem dX11_findFactors_98 : decode cX11_findFactors 98 = .ok (.iadd, 1) := by decide +kernel
theorem dX11_findFactors_99 : decode cX11_findFactors 99 = .ok (.iaload, 1) := by decide +kernel
theorem dX11_findFactors_100 : decode cX11_findFactors 100 = .ok (.i2l, 1) := by decide +kernel
theorem dX11_findFactors_101 : decode cX11_findFactors 101 = .ok (.goto 4, 3) := by decide +kernel
theorem dX11_findFactors_104 : decode cX11_findFactors 104 = .ok (.lconst 0, 1) := by decide +kernel
theorem dX11_findFactors_105 : decode cX11_findFactors 105 = .ok (.lastore, 1) := by decide +kernel
theorem dX11_findFactors_106 : decode cX11_findFactors 106 = .ok (.iinc 3 1, 3) := by decide +kernel
theorem dX11_findFactors_109 : decode cX11_findFactors 109 = .ok (.goto (-46), 3) := by decide +kernel
theorem dX11_findFactors_112 : decode cX11_findFactors 112 = .ok (.iinc 2 1, 3) := by decide +kernel
theorem dX11_findFactors_115 : decode cX11_findFactors 115 = .ok (.goto (-59), 3) := by decide +kernel
theorem dX11_findFactors_118 : decode cX11_findFactors 118 = .ok (.aload_n 0, 1) := by decide +kernel
theorem dX11_findFactors_119 : decode cX11_findFactors 119 = .ok (.getfield 136, 3) := by decide +kernel
theorem dX11_findFactors_122 : decode cX11_findFactors 122 = .ok (.iconst 1, 1) := by decide +kernel
theorem dX11_findFactors_123 : decode cX11_findFactors 123 = .ok (.isub, 1) := by decide +kernel
theorem dX11_findFactors_124 : decode cX11_findFactors 124 = .ok (.istore_n 2, 1) := by decide +kernel
theorem dX11_findFactors_125 : decode cX11_findFactors 125 = .ok (.iconst 0, 1) := by decide +kernel
theorem dX11_findFactors_126 : decode cX11_findFactors 126 = .ok (.istore_n 3, 1) := by decide +kernel
theorem dX11_findFactors_127 : decode cX11_findFactors 127 = .ok (.iload_n 3, 1) := by decide +kernel
theorem dX11_findFactors_128 : decode cX11_findFactors 128 = .ok (.iload_n 2, 1) := by decide +kernel
theorem dX11_findFactors_129 : decode cX11_findFactors 129 = .ok (.if_icmp .ge 14, 3) := by decide +kernel
theorem dX11_findFactors_132 : decode cX11_findFactors 132 = .ok (.aload_n 0, 1) := by decide +kernel
theorem dX11_findFactors_133 : decode cX11_findFactors 133 = .ok (.iload_n 3, 1) := by decide +kernel
theorem dX11_findFactors_134 : decode cX11_findFactors 134 = .ok (.invokevirtual 139, 3) := by decide +kernel
theorem dX11_findFactors_137 : decode cX11_findFactors 137 = .ok (.iinc 3 1, 3) := by decide +kernel
theorem dX11_findFactors_140 : decode cX11_findFactors 140 = .ok (.goto (-13), 3) := by decide +kernel
theorem dX11_findFactors_143 : decode cX11_findFactors 143 = .ok (.lconst 1, 1) := by decide +kernel
theorem dX11_findFactors_144 : decode cX11_findFactors 144 = .ok (.lstore_n 3, 1) := by decide +kernel
theorem dX11_findFactors_145 : decode cX11_findFactors 145 = .ok (.iconst 0, 1) := by decide +kernel
theorem dX11_findFactors_146 : decode cX11_findFactors 146 = .ok (.istore 5, 2) := by decide +kernel
theorem dX11_findFactors_148 : decode cX11_findFactors 148 = .ok (.iload 5, 2) := by decide +kernel
theorem dX11_findFactors_150 : decode cX11_findFactors 150 = .ok (.iload_n 2, 1) := by decide +kernel
theorem dX11_findFactors_151 : decode cX11_findFactors 151 = .ok (.if_icmp .ge 35, 3) := by decide +kernel
theorem dX11_findFactors_154 : decode cX11_findFactors 154 = .ok (.aload_n 0, 1) := by decide +kernel
theorem dX11_findFactors_155 : decode cX11_findFactors 155 = .ok (.getfield 48, 3) := by decide +kernel
theorem dX11_findFactors_158 : decode cX11_findFactors 158 = .ok (.iconst 5, 1) := by decide +kernel
theorem dX11_findFactors_159 : decode cX11_findFactors 159 = .ok (.iload 5, 2) := by decide +kernel
theorem dX11_findFactors_161 : decode cX11_findFactors 161 = .ok (.imul, 1) := by decide +kernel
theorem dX11_findFactors_162 : decode cX11_findFactors 162 = .ok (.iload 5, 2) := by decide +kernel
theorem dX11_findFactors_164 : decode cX11_findFactors 164 = .ok (.iadd, 1) := by decide +kernel
theorem dX11_findFactors_165 : decode cX11_findFactors 165 = .ok (.laload, 1) := by decide +kernel
theorem dX11_findFactors_166 : decode cX11_findFactors 166 = .ok (.lstore 6, 2) := by decide +kernel
theorem dX11_findFactors_168 : decode cX11_findFactors 168 = .ok (.lload_n 3, 1) := by decide +kernel
theorem dX11_findFactors_169 : decode cX11_findFactors 169 = .ok (.lload 6, 2) := by decide +kernel
theorem dX11_findFactors_171 : decode cX11_findFactors 171 = .ok (.lload_n 3, 1) := by decide +kernel
theorem dX11_findFactors_172 : decode cX11_findFactors 172 = .ok (.lload 6, 2) := by decide +kernel
theorem dX11_findFactors_174 : decode cX11_findFactors 174 = .ok (.invokestatic 93, 3) := by decide +kernel
theorem dX11_findFactors_177 : decode cX11_findFactors 177 = .ok (.ldiv, 1) := by decide +kernel
theorem dX11_findFactors_178 : decode cX11_findFactors 178 = .ok (.lmul, 1) := by decide +kernel
theorem dX11_findFactors_179 : decode cX11_findFactors 179 = .ok (.lstore_n 3, 1) := by decide +kernel
theorem dX11_findFactors_180 : decode cX11_findFactors 180 = .ok (.iinc 5 1, 3) := by decide +kernel
theorem dX11_findFactors_183 : decode cX11_findFactors 183 = .ok (.goto (-35), 3) := by decide +kernel
theorem dX11_findFactors_186 : decode cX11_findFactors 186 = .ok (.aload_n 0, 1) := by decide +kernel
theorem dX11_findFactors_187 : decode cX11_findFactors 187 = .ok (.getfield 42, 3) := by decide +kernel
theorem dX11_findFactors_190 : decode cX11_findFactors 190 = .ok (.aload_n 0, 1) := by decide +kernel
theorem dX11_findFactors_191 : decode cX11_findFactors 191 = .ok (.getfield 45, 3) := by decide +kernel
theorem dX11_findFactors_194 : decode cX11_findFactors 194 = .ok (.iload_n 2, 1) := by decide +kernel
theorem dX11_findFactors_195 : decode cX11_findFactors 195 = .ok (.iaload, 1) := by decide +kernel
theorem dX11_findFactors_196 : decode cX11_findFactors 196 = .ok (.lload_n 3, 1) := by decide +kernel
theorem dX11_findFactors_197 : decode cX11_findFactors 197 = .ok (.lastore, 1) := by decide +kernel
theorem dX11_findFactors_198 : decode cX11_findFactors 198 = .ok (.lload_n 3, 1) := by decide +kernel
theorem dX11_findFactors_199 : decode cX11_findFactors 199 = .ok (.lstore 5, 2) := by decide +kernel
theorem dX11_findFactors_201 : decode cX11_findFactors 201 = .ok (.iconst 0, 1) := by decide +kernel
theorem dX11_findFactors_202 : decode cX11_findFactors 202 = .ok (.istore 7, 2) := by decide +kernel
theorem dX11_findFactors_204 : decode cX11_findFactors 204 = .ok (.iload 7, 2) := by decide +kernel
theorem dX11_findFactors_206 : decode cX11_findFactors 206 = .ok (.iload_n 2, 1) := by decide +kernel
theorem dX11_findFactors_207 : decode cX11_findFactors 207 = .ok (.if_icmp .ge 67, 3) := by decide +kernel
theorem dX11_findFactors_210 : decode cX11_findFactors 210 = .ok (.aload_n 0, 1) := by decide +kernel
theorem dX11_findFactors_211 : decode cX11_findFactors 211 = .ok (.getfield 42, 3) := by decide +kernel
theorem dX11_findFactors_214 : decode cX11_findFactors 214 = .ok (.aload_n 0, 1) := by decide +kernel
theorem dX11_findFactors_215 : decode cX11_findFactors 215 = .ok (.getfield 45, 3) := by decide +kernel
theorem dX11_findFactors_218 : decode cX11_findFactors 218 = .ok (.iload 7, 2) := by decide +kernel
theorem dX11_findFactors_220 : decode cX11_findFactors 220 = .ok (.iaload, 1) := by decide +kernel
theorem dX11_findFactors_221 : decode cX11_findFactors 221 = .ok (.aload_n 0, 1) := by decide +kernel
theorem dX11_findFactors_222 : decode cX11_findFactors 222 = .ok (.getfield 48, 3) := by decide +kernel
theorem dX11_findFactors_225 : decode cX11_findFactors 225 = .ok (.iconst 5, 1) := by decide +kernel
theorem dX11_findFactors_226 : decode cX11_findFactors 226 = .ok (.iload 7, 2) := by decide +kernel
theorem dX11_findFactors_228 : decode cX11_findFactors 228 = .ok (.imul, 1) := by decide +kernel
theorem dX11_findFactors_229 : decode cX11_findFactors 229 = .ok (.iload_n 2, 1) := by decide +kernel
theorem dX11_findFactors_230 : decode cX11_findFactors 230 = .ok (.iadd, 1) := by decide +kernel
theorem dX11_findFactors_231 : decode cX11_findFactors 231 = .ok (.laload, 1) := by decide +kernel
theorem dX11_findFactors_232 : decode cX11_findFactors 232 = .ok (.lneg, 1) := by decide +kernel
theorem dX11_findFactors_233 : decode cX11_findFactors 233 = .ok (.lload_n 3, 1) := by decide +kernel
theorem dX11_findFactors_234 : decode cX11_findFactors 234 = .ok (.aload_n 0, 1) := by decide +kernel
theorem dX11_findFactors_235 : decode cX11_findFactors 235 = .ok (.getfield 48, 3) := by decide +kernel
theorem dX11_findFactors_238 : decode cX11_findFactors 238 = .ok (.iconst 5, 1) := by decide +kernel
theorem dX11_findFactors_239 : decode cX11_findFactors 239 = .ok (.iload 7, 2) := by decide +kernel
theorem dX11_findFactors_241 : decode cX11_findFactors 241 = .ok (.imul, 1) := by decide +kernel
theorem dX11_findFactors_242 : decode cX11_findFactors 242 = .ok (.iload 7, 2) := by decide +kernel
theorem dX11_findFactors_244 : decode cX11_findFactors 244 = .ok (.iadd, 1) := by decide +kernel
theorem dX11_findFactors_245 : decode cX11_findFactors 245 = .ok (.laload, 1) := by decide +kernel
theorem dX11_findFactors_246 : decode cX11_findFactors 246 = .ok (.ldiv, 1) := by decide +kernel
theorem dX11_findFactors_247 : decode cX11_findFactors 247 = .ok (.lmul, 1) := by decide +kernel
theorem dX11_findFactors_248 : decode cX11_findFactors 248 = .ok (.lastore, 1) := by decide +kernel
theorem dX11_findFactors_249 : decode cX11_findFactors 249 = .ok (.lload 5, 2) := by decide +kernel
theorem dX11_findFactors_251 : decode cX11_findFactors 251 = .ok (.aload_n 0, 1) := by decide +kernel
theorem dX11_findFactors_252 : decode cX11_findFactors 252 = .ok (.getfield 42, 3) := by decide +kernel
theorem dX11_findFactors_255 : decode cX11_findFactors 255 = .ok (.aload_n 0, 1) := by decide +kernel
theorem dX11_findFactors_256 : decode cX11_findFactors 256 = .ok (.getfield 45, 3) := by decide +kernel
theorem dX11_findFactors_259 : decode cX11_findFactors 259 = .ok (.iload 7, 2) := by decide +kernel
theorem dX11_findFactors_261 : decode cX11_findFactors 261 = .ok (.iaload, 1) := by decide +kernel
theorem dX11_findFactors_262 : decode cX11_findFactors 262 = .ok (.laload, 1) := by decide +kernel
theorem dX11_findFactors_263 : decode cX11_findFactors 263 = .ok (.invokestatic 93, 3) := by decide +kernel
theorem dX11_findFactors_266 : decode cX11_findFactors 266 = .ok (.lstore 5, 2) := by decide +kernel
theorem dX11_findFactors_268 : decode cX11_findFactors 268 = .ok (.iinc 7 1, 3) := by decide +kernel
theorem dX11_findFactors_271 : decode cX11_findFactors 271 = .ok (.goto (-67), 3) := by decide +kernel
theorem dX11_findFactors_274 : decode cX11_findFactors 274 = .ok (.aload_n 0, 1) := by decide +kernel
theorem dX11_findFactors_275 : decode cX11_findFactors 275 = .ok (.getfield 42, 3) := by decide +kernel
theorem dX11_findFactors_278 : decode cX11_findFactors 278 = .ok (.aload_n 0, 1) := by decide +kernel
theorem dX11_findFactors_279 : decode cX11_findFactors 279 = .ok (.getfield 45, 3) := by decide +kernel
theorem dX11_findFactors_282 : decode cX11_findFactors 282 = .ok (.iconst 0, 1) := by decide +kernel
theorem dX11_findFactors_283 : decode cX11_findFactors 283 = .ok (.iaload, 1) := by decide +kernel
theorem dX11_findFactors_284 : decode cX11_findFactors 284 = .ok (.laload, 1) := by decide +kernel
theorem dX11_findFactors_285 : decode cX11_findFactors 285 = .ok (.lconst 0, 1) := by decide +kernel
theorem dX11_findFactors_286 : decode cX11_findFactors 286 = .ok (.lcmp, 1) := by decide +kernel
theorem dX11_findFactors_287 : decode cX11_findFactors 287 = .ok (.ifCond .ge 9, 3) := by decide +kernel
theorem dX11_findFactors_290 : decode cX11_findFactors 290 = .ok (.lload 5, 2) := by decide +kernel
theorem dX11_findFactors_292 : decode cX11_findFactors 292 = .ok (.lneg, 1) := by decide +kernel
theorem dX11_findFactors_293 : decode cX11_findFactors 293 = .ok (.goto 5, 3) := by decide +kernel
theorem dX11_findFactors_296 : decode cX11_findFactors 296 = .ok (.lload 5, 2) := by decide +kernel
theorem dX11_findFactors_298 : decode cX11_findFactors 298 = .ok (.lstore 5, 2) := by decide +kernel
theorem dX11_findFactors_300 : decode cX11_findFactors 300 = .ok (.iconst 0, 1) := by decide +kernel
theorem dX11_findFactors_301 : decode cX11_findFactors 301 = .ok (.istore 7, 2) := by decide +kernel
theorem dX11_findFactors_303 : decode cX11_findFactors 303 = .ok (.iload 7, 2) := by decide +kernel
theorem dX11_findFactors_305 : decode cX11_findFactors 305 = .ok (.bipush 9, 2) := by decide +kernel
theorem dX11_findFactors_307 : decode cX11_findFactors 307 = .ok (.if_icmp .ge 21, 3) := by decide +kernel
theorem dX11_findFactors_310 : decode cX11_findFactors 310 = .ok (.aload_n 0, 1) := by decide +kernel
theorem dX11_findFactors_311 : decode cX11_findFactors 311 = .ok (.getfield 42, 3) := by decide +kernel
theorem dX11_findFactors_314 : decode cX11_findFactors 314 = .ok (.iload 7, 2) := by decide +kernel
end
section
/-! THE ABSTRACT MACHINE: a world of a fixed shape (objects whose references never change, rows of fixed lengths), named by small numbers; 'X h M pc loc st S Q': from this point of method M the machine comes to its end with Q answer state. -/
/-- int fields (object, slot), int rows (row, place), long fields, long rows -/
abbrev amS : Type := (Nat → Nat → Int32) × (Nat → Nat → Int32) × (Nat → Nat → Int64) × (Nat → Nat → Int64)
/-- a row: length, type, what it holds if references; an object: its kind, its fields: int, long, or a fixed reference -/
abbrev amSh : Type := (Nat × FieldType × List Nat) ⊕ (Nat × List Value)
/-- a method: name, code, locals, answer's type, frames and locals that its calls need -/
abbrev amM : Type := MethodName × ByteArray × Nat × Option FieldType × Nat × Nat
def am_cv (ad : Nat → Nat) : Value → Value
  | .ref r => .ref (ad r)
  | v => v
def am_ld : List Value → Nat → Value
  | [], _ => .null
  | v :: _, 0 => v
  | _ :: l, n + 1 => am_ld l n
def am_shp : List amSh → Nat → Option amSh
  | [], _ => none
  | v :: _, 0 => some v
  | _ :: l, n + 1 => am_shp l n
def am_st (v : Value) (i : Nat) : Nat → List Value → List Value
  | _, [] => []
  | j, w :: l => (bif Nat.beq j i then v else bif (Nat.beq (j + 1) i && Nat.beq w.category 2) || (Nat.beq j (i + 1) && Nat.beq v.category 2) then .null else w) :: am_st v i (j + 1) l
def am_rd (S : amS) (o k : Nat) : Value → Value
  | .int _ => .int (S.1 o k)
  | .long _ => .long (S.2.2.1 o k)
  | v => v
/-- what a field holds -/
def am_gf (h : List amSh) (S : amS) (o ci k : Nat) : Option Value :=
  match am_shp h o with
  | some (.inr (c, tpl)) => bif Nat.beq c ci then some (am_rd S o k (am_ld tpl k)) else none
  | _ => none
def am_fs (ad : Nat → Nat) (S : amS) (o : Nat) (tpl : List Value) : List Value := tpl.mapIdx (fun k t => am_cv ad (am_rd S o k t))
def am_arr (ad : Nat → Nat) (S : amS) (id : Nat) (ty : FieldType) (ids : List Nat) : (Nat → Int32) ⊕ (Nat → Int64) ⊕ (Nat → UInt32) ⊕ (Nat → UInt64) ⊕ (Nat → Option Nat) :=
  match ty with
  | .long => .inr (.inl (S.2.2.2 id))
  | .object _ => .inr (.inr (.inr (.inr (fun j => (ids[j]?).map ad))))
  | _ => .inl (S.2.1 id)
def am_cell (ad : Nat → Nat) (ca : Nat → ClassId) (S : amS) (id : Nat) : amSh → va_E
  | .inl (n, ty, ids) => .inl (ca id, n, am_arr ad S id ty ids)
  | .inr (ci, tpl) => .inr (ci, am_fs ad S id tpl)
def am_world (h : List amSh) (ad : Nat → Nat) (ca : Nat → ClassId) (S : amS) : va_W := h.mapIdx (fun id sh => (ad id, am_cell ad ca S id sh))
def am_tyOf (ca : Nat → ClassId) (q : amSh × Nat) : Option (ClassId × FieldType) :=
  match q.1 with
  | .inl (_, ty, _) => some (ca q.2, ty)
  | .inr _ => none
def am_tys (h : List amSh) (ca : Nat → ClassId) : List (ClassId × FieldType) := h.zipIdx.filterMap (am_tyOf ca)
def am_A (h : List amSh) (ad : Nat → Nat) : Nat → Prop := fun q => ∃ i, i < h.length ∧ q = ad i
def sF (S : amS) (o : Nat) (g : Nat → Int32) : amS := (va_up S.1 o g, S.2)
def sA (S : amS) (o : Nat) (g : Nat → Int32) : amS := (S.1, va_up S.2.1 o g, S.2.2)
def sG (S : amS) (o : Nat) (g : Nat → Int64) : amS := (S.1, S.2.1, va_up S.2.2.1 o g, S.2.2.2)
def sL (S : amS) (o : Nat) (g : Nat → Int64) : amS := (S.1, S.2.1, S.2.2.1, va_up S.2.2.2 o g)
theorem am_shp_get : ∀ (h : List amSh) (i : Nat), am_shp h i = h[i]?
  | [], i => by simp [am_shp]
  | v :: l, 0 => by simp [am_shp]
  | v :: l, n + 1 => by simp [am_shp, am_shp_get l n]
theorem am_ld_get : ∀ (l : List Value) (i : Nat), am_ld l i = (l[i]?).getD .null
  | [], i => by simp [am_ld]
  | v :: l, 0 => by simp [am_ld]
  | v :: l, n + 1 => by simp [am_ld, am_ld_get l n]
theorem am_ld_some {l : List Value} {i : Nat} {v : Value} (h : am_ld l i = v) (hv : v ≠ .null) : l[i]? = some v := by
  rw [am_ld_get] at h
  cases e : l[i]? with
  | none => rw [e] at h; exact absurd h.symm hv
  | some w => rw [e] at h; exact congrArg some h
theorem am_st_len (v : Value) (i : Nat) : ∀ (l : List Value) (j : Nat), (am_st v i j l).length = l.length
  | [], j => rfl
  | w :: l, j => by simp [am_st, am_st_len v i l (j + 1)]
theorem am_st_get (v : Value) (i : Nat) : ∀ (l : List Value) (j k : Nat), (am_st v i j l)[k]? = (l[k]?).map (fun w => bif Nat.beq (j + k) i then v else bif (Nat.beq (j + k + 1) i && Nat.beq w.category 2) || (Nat.beq (j + k) (i + 1) && Nat.beq v.category 2) then .null else w)
  | [], j, k => by simp [am_st]
  | w :: l, j, 0 => by simp [am_st]
  | w :: l, j, k + 1 => by
    rw [am_st, List.getElem?_cons_succ, List.getElem?_cons_succ, am_st_get v i l (j + 1) k, show j + 1 + k = j + (k + 1) by omega]
theorem am_world_get {h : List amSh} {ad : Nat → Nat} {ca : Nat → ClassId} {S : amS} {id : Nat} {sh : amSh} (e : h[id]? = some sh) : (am_world h ad ca S)[id]? = some (ad id, am_cell ad ca S id sh) := by
  simp [am_world, List.getElem?_mapIdx, e]
theorem am_world_len {h : List amSh} {ad : Nat → Nat} {ca : Nat → ClassId} {S : amS} : (am_world h ad ca S).length = h.length := by simp [am_world]
theorem am_D {h : List amSh} {ad : Nat → Nat} (ca : Nat → ClassId) (S : amS) (inj : ∀ i j, i < h.length → j < h.length → ad i = ad j → i = j) : va_D (am_A h ad) (am_world h ad ca S) := by
  have key : ∀ (k : Nat) (q : Nat × va_E), (am_world h ad ca S)[k]? = some q → k < h.length ∧ q.1 = ad k := by
    intro k q hq
    have hk : k < (am_world h ad ca S).length := (List.getElem?_eq_some_iff.mp hq).1
    rw [am_world_len] at hk
    obtain ⟨sh, e⟩ : ∃ sh, h[k]? = some sh := ⟨h[k], by simp [hk]⟩
    rw [am_world_get e] at hq
    cases hq
    exact ⟨hk, rfl⟩
  refine ⟨fun i j p q hi hj e => ?_, fun k q hk => ?_⟩
  · obtain ⟨a1, a2⟩ := key i p hi
    obtain ⟨b1, b2⟩ := key j q hj
    exact inj i j a1 b1 (by rw [← a2, ← b2, e])
  · obtain ⟨a1, a2⟩ := key k q hk
    exact ⟨k, a1, a2⟩
theorem am_tys_get {h : List amSh} {ca : Nat → ClassId} {id n : Nat} {ty : FieldType} {ids : List Nat} (e : h[id]? = some (.inl (n, ty, ids))) : ∃ t0 : Nat, (am_tys h ca)[t0]? = some (ca id, ty) := by
  have hm : (ca id, ty) ∈ am_tys h ca := by
    refine List.mem_filterMap.mpr ⟨(.inl (n, ty, ids), id), ?_, rfl⟩
    exact List.mem_zipIdx_iff_getElem?.mpr e
  exact List.getElem?_of_mem hm
theorem va_up_s {α : Type} (f : Nat → α) (k : Nat) (v : α) : va_up f k v k = v := by simp [va_up]
theorem va_up_n {α : Type} (f : Nat → α) {k j : Nat} (v : α) (h : j ≠ k) : va_up f k v j = f j := by simp [va_up, h]
/-- a changed cell alone: the world is the old one with that cell set -/
theorem am_world_set {h : List amSh} {ad : Nat → Nat} {ca : Nat → ClassId} {S S' : amS} {id : Nat} {sh : amSh} (e : h[id]? = some sh) (ho : ∀ j sh', j ≠ id → am_cell ad ca S' j sh' = am_cell ad ca S j sh') : am_world h ad ca S' = (am_world h ad ca S).set id (ad id, am_cell ad ca S' id sh) := by
  apply List.ext_getElem?
  intro j
  have hid : id < h.length := (List.getElem?_eq_some_iff.mp e).1
  by_cases hj : j = id
  · subst hj
    rw [am_world_get e, List.getElem?_set_self (by rw [am_world_len]; exact hid)]
  · rw [List.getElem?_set_ne (Ne.symm hj)]
    by_cases hl : j < h.length
    · have e2 : h[j]? = some h[j] := by simp [hl]
      rw [am_world_get e2, am_world_get e2, ho j _ hj]
    · rw [List.getElem?_eq_none (by rw [am_world_len]; omega), List.getElem?_eq_none (by rw [am_world_len]; omega)]
theorem am_cell_sA {ad : Nat → Nat} {ca : Nat → ClassId} {S : amS} {id : Nat} {g : Nat → Int32} (j : Nat) (sh : amSh) (hj : j ≠ id) : am_cell ad ca (sA S id g) j sh = am_cell ad ca S j sh := by
  cases sh with
  | inl a =>
    obtain ⟨n, ty, ids⟩ := a
    cases ty <;> simp [am_cell, am_arr, sA, va_up, hj]
  | inr a => rfl
theorem am_cell_sL {ad : Nat → Nat} {ca : Nat → ClassId} {S : amS} {id : Nat} {g : Nat → Int64} (j : Nat) (sh : amSh) (hj : j ≠ id) : am_cell ad ca (sL S id g) j sh = am_cell ad ca S j sh := by
  cases sh with
  | inl a =>
    obtain ⟨n, ty, ids⟩ := a
    cases ty <;> simp [am_cell, am_arr, sL, va_up, hj]
  | inr a => rfl
theorem am_cell_sF {ad : Nat → Nat} {ca : Nat → ClassId} {S : amS} {id : Nat} {g : Nat → Int32} (j : Nat) (sh : amSh) (hj : j ≠ id) : am_cell ad ca (sF S id g) j sh = am_cell ad ca S j sh := by
  cases sh with
  | inl a => rfl
  | inr a =>
    obtain ⟨ci, tpl⟩ := a
    have : am_rd (sF S id g) j = am_rd S j := by
      funext k v
      cases v <;> simp [am_rd, sF, va_up, hj]
    simp [am_cell, am_fs, this]
theorem am_cell_sG {ad : Nat → Nat} {ca : Nat → ClassId} {S : amS} {id : Nat} {g : Nat → Int64} (j : Nat) (sh : amSh) (hj : j ≠ id) : am_cell ad ca (sG S id g) j sh = am_cell ad ca S j sh := by
  cases sh with
  | inl a => rfl
  | inr a =>
    obtain ⟨ci, tpl⟩ := a
    have : am_rd (sG S id g) j = am_rd S j := by
      funext k v
      cases v <;> simp [am_rd, sG, va_up, hj]
    simp [am_cell, am_fs, this]
theorem am_fs_get {ad : Nat → Nat} {S : amS} {o k : Nat} {tpl : List Value} {t : Value} (e : tpl[k]? = some t) : (am_fs ad S o tpl)[k]? = some (am_cv ad (am_rd S o k t)) := by
  simp [am_fs, List.getElem?_mapIdx, e]
theorem am_fs_sF {ad : Nat → Nat} {S : amS} {o k : Nat} {tpl : List Value} {x y : Int32} (e : tpl[k]? = some (.int y)) : am_fs ad (sF S o (upd (S.1 o) k x)) o tpl = (am_fs ad S o tpl).set k (.int x) := by
  have hk : k < tpl.length := (List.getElem?_eq_some_iff.mp e).1
  apply List.ext_getElem?
  intro j
  by_cases hj : j = k
  · subst hj
    rw [am_fs_get e, List.getElem?_set_self (by simp [am_fs]; exact hk)]
    simp [am_rd, sF, va_up, upd, am_cv]
  · rw [List.getElem?_set_ne (Ne.symm hj)]
    by_cases hl : j < tpl.length
    · have e2 : tpl[j]? = some tpl[j] := by simp [hl]
      rw [am_fs_get e2, am_fs_get e2]
      cases tpl[j] <;> simp [am_rd, sF, va_up, upd, hj]
    · rw [List.getElem?_eq_none (by simp [am_fs]; omega), List.getElem?_eq_none (by simp [am_fs]; omega)]
theorem am_fs_sG {ad : Nat → Nat} {S : amS} {o k : Nat} {tpl : List Value} {x y : Int64} (e : tpl[k]? = some (.long y)) : am_fs ad (sG S o (vp_updL (S.2.2.1 o) k x)) o tpl = (am_fs ad S o tpl).set k (.long x) := by
  have hk : k < tpl.length := (List.getElem?_eq_some_iff.mp e).1
  apply List.ext_getElem?
  intro j
  by_cases hj : j = k
  · subst hj
    rw [am_fs_get e, List.getElem?_set_self (by simp [am_fs]; exact hk)]
    simp [am_rd, sG, va_up, vp_updL, am_cv]
  · rw [List.getElem?_set_ne (Ne.symm hj)]
    by_cases hl : j < tpl.length
    · have e2 : tpl[j]? = some tpl[j] := by simp [hl]
      rw [am_fs_get e2, am_fs_get e2]
      cases tpl[j] <;> simp [am_rd, sG, va_up, vp_updL, hj]
    · rw [List.getElem?_eq_none (by simp [am_fs]; omega), List.getElem?_eq_none (by simp [am_fs]; omega)]
end
section
/-! THE JUDGEMENT X, and its rows, an instruction each -/
def am_isN : Cond → Bool
  | .fieldLinkNest .. => true
  | _ => false
/-- the words that stay true in calls -/
def am_kw (w : Cond) : Bool := (w.onTables && w.keeps) || am_isN w
def am_T (s : State) : Prop := ∀ w ∈ lw_tbl, am_kw w = true → va_Nw w s
theorem am_kw_on {w : Cond} (h : am_kw w = true) : w.onTables = true := by
  simp only [am_kw, Bool.or_eq_true, Bool.and_eq_true] at h
  rcases h with h | h
  · exact h.1
  · cases w <;> simp [am_isN] at h <;> rfl
theorem am_T.at {s : State} (h : am_T s) {w : Cond} (hw : w ∈ lw_tbl) (hk : am_kw w = true) (args : Array Value) : w.before args s = true := va_Nw.use (am_kw_on hk) (h w hw hk)
theorem am_T.same {s u : State} (h : am_T s) (e : s.vm = u.vm) : am_T u := fun w hw hk => va_Nw.same (am_kw_on hk) e (h w hw hk)
theorem am_T.warm {s U : State} (h : am_T s) (hW : s.WarmedH U.vm) : am_T U := by
  intro w hw hk
  have h0 := h w hw hk
  simp only [am_kw, Bool.or_eq_true] at hk
  rcases hk with hk | hk
  · exact word_at hW (Or.inl hk) h0
  · cases w with
    | fieldLinkNest a i b n d x => exact va_Nw.warmF hW h0
    | _ => simp [am_isN] at hk
theorem am_T.us {s : State} (h : am_T s) {C : String} {T : u_T} {N : Nat} (hin : ∀ w ∈ u_ws C T N, w ∈ lw_tbl) (args : Array Value) : ∀ w ∈ u_ws C T N, w.before args s = true := by
  intro w hw
  refine h.at (hin w hw) ?_ args
  obtain ⟨k, -, rfl⟩ := List.mem_map.mp hw
  unfold u_lay
  split <;> rfl
def am_C (h : List amSh) (M : amM) (p : Program) (R : Room) (s : State) (m : MethodId) (args : Array Value) (c : Code) (D : va_G) (ad : Nat → Nat) (ca : Nat → ClassId) : Prop :=
  p.tables.exec = Jvm.exec ∧ c.code = M.2.1 ∧ c.maxLocals = M.2.2.1 ∧ s.vm.findClass M.1.cls = some m.cls ∧ am_T s ∧ va_K D vwCl (am_tys h ca) s ∧ (∀ i j, i < h.length → j < h.length → ad i = ad j → i = j) ∧ M.2.2.2.2.1 ≤ R.frames ∧ M.2.2.2.2.2 ≤ R.locals
def am_L (ad : Nat → Nat) (nL : Nat) (loc : List Value) (ls : Array Slot) : Prop :=
  ls.size = nL ∧ lv_wf ls ∧ loc.length = nL ∧ ∀ (i : Nat) (v : Value), loc[i]? = some v → v ≠ .null → ls[i]? = some (.val (am_cv ad v))
/-- the end: the return instruction that fits -/
def am_R (M : amM) (v : Option Value) (pc : Nat) : Prop :=
  match v with
  | none => M.2.2.2.1 = none ∧ decode M.2.1 pc = .ok (.return_, 1)
  | some (.int x) => ∃ ty, M.2.2.2.1 = some ty ∧ narrow ty (.int x) = .int x ∧ decode M.2.1 pc = .ok (.ireturn, 1)
  | some (.long _) => M.2.2.2.1 = some .long ∧ decode M.2.1 pc = .ok (.lreturn, 1)
  | some (.ref _) => ∃ rt, M.2.2.2.1 = some rt ∧ ((∃ n, rt = .object n) ∨ ∃ t, rt = .array t) ∧ decode M.2.1 pc = .ok (.areturn, 1)
  | _ => False
def X (h : List amSh) (M : amM) (pc : Nat) (loc st : List Value) (S : amS) (Q : Option Value → amS → Prop) : Prop :=
  ∀ (p : Program) (l : Launch) (e : Env) (R : Room) (s : State) (m : MethodId) (args : Array Value) (below : List Frame) (meth : Method) (c : Code) (D : va_G) (ad : Nat → Nat) (ca : Nat → ClassId) (H0 H : Heap) (locs : List Loc) (ls : Array Slot) (QQ : State → Prop),
    am_C h M p R s m args c D ad ca → am_L ad M.2.2.1 loc ls → va_P D vwCl (am_world h ad ca S) H → va_S (am_A h ad) H0 H locs →
    (∀ (v : Option Value) (S' : amS) (H' : Heap) (locs' : List Loc) (pc' : Nat) (ls' : Array Slot), Q v S' → am_R M v pc' → va_P D vwCl (am_world h ad ca S') H' → va_S (am_A h ad) H0 H' locs' → W p l e R s m args below meth c H' locs' 0 0 QQ (F0 m pc' ls' (v.toList.map (am_cv ad)))) →
    W p l e R s m args below meth c H locs 0 0 QQ (F0 m pc ls (st.map (am_cv ad)))
theorem am_L_at {ad : Nat → Nat} {nL : Nat} {loc : List Value} {ls : Array Slot} (h : am_L ad nL loc ls) {i : Nat} {v : Value} (e : am_ld loc i = v) (hv : v ≠ .null) : ls[i]? = some (.val (am_cv ad v)) := h.2.2.2 i v (am_ld_some e hv) hv
def am_pairs (ad : Nat → Nat) (loc : List Value) : List (Nat × Value) := loc.zipIdx.filterMap (fun q => if q.1 = .null then none else some (q.2, am_cv ad q.1))
theorem am_pairs_mem {ad : Nat → Nat} {loc : List Value} {i : Nat} {v : Value} (e : loc[i]? = some v) (hv : v ≠ .null) : (i, am_cv ad v) ∈ am_pairs ad loc :=
  List.mem_filterMap.mpr ⟨(v, i), List.mem_zipIdx_iff_getElem?.mpr e, by simp [hv]⟩
theorem am_pairs_of {ad : Nat → Nat} {loc : List Value} {q : Nat × Value} (h : q ∈ am_pairs ad loc) : ∃ v, loc[q.1]? = some v ∧ v ≠ .null ∧ q.2 = am_cv ad v := by
  obtain ⟨⟨v, i⟩, h1, h2⟩ := List.mem_filterMap.mp h
  by_cases hv : v = .null
  · simp [hv] at h2
  · simp only [hv, if_false] at h2
    cases h2
    exact ⟨v, List.mem_zipIdx_iff_getElem?.mp h1, hv, rfl⟩
theorem am_L_has {ad : Nat → Nat} {nL : Nat} {loc : List Value} {ls : Array Slot} (h : am_L ad nL loc ls) : lv_has ls nL (am_pairs ad loc) := by
  refine ⟨h.1, h.2.1, fun q hq => ?_⟩
  obtain ⟨v, h1, h2, h3⟩ := am_pairs_of hq
  rw [h3]
  exact h.2.2.2 q.1 v h1 h2
theorem am_bF {j i : Nat} (h : ¬ j = i) : Nat.beq j i = false := by
  cases e : Nat.beq j i with
  | false => rfl
  | true => exact absurd (Nat.eq_of_beq_eq_true e) h
theorem am_bT {j i : Nat} (h : j = i) : Nat.beq j i = true := by subst h; exact Nat.beq_refl j
theorem am_cv_cat (ad : Nat → Nat) (v : Value) : (am_cv ad v).category = v.category := by cases v <;> rfl
theorem am_keep1 {ad : Nat → Nat} {i j : Nat} {w : Value} (hji : ¬ j = i) (hz : (Nat.beq (j + 1) i && Nat.beq w.category 2) = false) : (!((j, am_cv ad w).1 == i) && !((j, am_cv ad w).1 + 1 == i && (j, am_cv ad w).2.category == 2)) = true := by
  have a1 : (j == i) = false := by simpa using hji
  have a2 : ((j + 1 == i) && ((am_cv ad w).category == 2)) = false := by
    rw [am_cv_cat]
    have q : ∀ a b : Nat, (a == b) = Nat.beq a b := fun a b => by
      by_cases z : a = b
      · rw [am_bT z]; simpa using z
      · rw [am_bF z]; simpa using z
    rw [q, q]
    exact hz
  show (!(j == i) && !((j + 1 == i) && ((am_cv ad w).category == 2))) = true
  rw [a1, a2]
  rfl
theorem am_keep2 {ad : Nat → Nat} {i j : Nat} {w : Value} (hji : ¬ j = i) (hj1 : ¬ j = i + 1) (hz : (Nat.beq (j + 1) i && Nat.beq w.category 2) = false) : (!((j, am_cv ad w).1 == i) && (!((j, am_cv ad w).1 == i + 1) && !((j, am_cv ad w).1 + 1 == i && (j, am_cv ad w).2.category == 2))) = true := by
  have a1 : (j == i) = false := by simpa using hji
  have a3 : (j == i + 1) = false := by simpa using hj1
  have a2 : ((j + 1 == i) && ((am_cv ad w).category == 2)) = false := by
    rw [am_cv_cat]
    have q : ∀ a b : Nat, (a == b) = Nat.beq a b := fun a b => by
      by_cases z : a = b
      · rw [am_bT z]; simpa using z
      · rw [am_bF z]; simpa using z
    rw [q, q]
    exact hz
  show (!(j == i) && (!(j == i + 1) && !((j + 1 == i) && ((am_cv ad w).category == 2)))) = true
  rw [a1, a2, a3]
  rfl
/-- behind a store of one place -/
theorem am_L_st1 {ad : Nat → Nat} {nL : Nat} {loc : List Value} {ls ls' : Array Slot} {i : Nat} {v : Value} (h : am_L ad nL loc ls) (hc : v.category = 1) (h' : lv_has ls' nL ((i, am_cv ad v) :: (am_pairs ad loc).filter (fun q => !(q.1 == i) && !(q.1 + 1 == i && q.2.category == 2)))) : am_L ad nL (am_st v i 0 loc) ls' := by
  refine ⟨h'.1, h'.2.1, by rw [am_st_len]; exact h.2.2.1, fun j u hj hu => ?_⟩
  rw [am_st_get] at hj
  cases e : loc[j]? with
  | none => rw [e] at hj; simp at hj
  | some w =>
    rw [e] at hj
    simp only [Option.map_some, Option.some.injEq, Nat.zero_add, hc] at hj
    by_cases hji : j = i
    · subst hji
      simp at hj
      subst hj
      exact h'.2.2 (j, am_cv ad v) (List.mem_cons_self)
    · have e1 : Nat.beq j i = false := am_bF hji
      rw [e1] at hj
      simp only [cond_false] at hj
      have e3 : Nat.beq 1 2 = false := rfl
      cases hz : (Nat.beq (j + 1) i && Nat.beq w.category 2) with
      | true =>
        simp only [hz, Bool.true_or, cond_true] at hj
        exact absurd hj.symm hu
      | false =>
        simp only [hz, e3, Bool.and_false, Bool.or_false, cond_false] at hj
        subst hj
        refine h'.2.2 (j, am_cv ad w) (List.mem_cons_of_mem _ (List.mem_filter.mpr ⟨am_pairs_mem e hu, ?_⟩))
        exact am_keep1 hji hz
theorem am_L_st2 {ad : Nat → Nat} {nL : Nat} {loc : List Value} {ls ls' : Array Slot} {i : Nat} {v : Value} (h : am_L ad nL loc ls) (hc : v.category = 2) (h' : lv_has ls' nL ((i, am_cv ad v) :: (am_pairs ad loc).filter (fun q => !(q.1 == i) && (!(q.1 == i + 1) && !(q.1 + 1 == i && q.2.category == 2))))) : am_L ad nL (am_st v i 0 loc) ls' := by
  refine ⟨h'.1, h'.2.1, by rw [am_st_len]; exact h.2.2.1, fun j u hj hu => ?_⟩
  rw [am_st_get] at hj
  cases e : loc[j]? with
  | none => rw [e] at hj; simp at hj
  | some w =>
    rw [e] at hj
    simp only [Option.map_some, Option.some.injEq, Nat.zero_add, hc] at hj
    by_cases hji : j = i
    · subst hji
      simp at hj
      subst hj
      exact h'.2.2 (j, am_cv ad v) (List.mem_cons_self)
    · have e1 : Nat.beq j i = false := am_bF hji
      rw [e1] at hj
      simp only [cond_false] at hj
      by_cases hj1 : j = i + 1
      · have e2 : Nat.beq j (i + 1) = true := am_bT hj1
        simp only [e2, show Nat.beq 2 2 = true from rfl, Bool.true_and, Bool.or_true, cond_true] at hj
        exact absurd hj.symm hu
      · have e2 : Nat.beq j (i + 1) = false := am_bF hj1
        cases hz : (Nat.beq (j + 1) i && Nat.beq w.category 2) with
        | true =>
          simp only [hz, Bool.true_or, cond_true] at hj
          exact absurd hj.symm hu
        | false =>
          simp only [hz, e2, Bool.false_and, Bool.or_false, cond_false] at hj
          subst hj
          refine h'.2.2 (j, am_cv ad w) (List.mem_cons_of_mem _ (List.mem_filter.mpr ⟨am_pairs_mem e hu, ?_⟩))
          exact am_keep2 hji hj1 hz
theorem am_lt {loc : List Value} {i nL : Nat} (h : Nat.blt i loc.length = true) (e : loc.length = nL) : i < nL := by rw [← e]; exact Nat.blt_eq.mp h
theorem x_mono {h : List amSh} {M : amM} {pc : Nat} {loc st : List Value} {S : amS} {Q Q' : Option Value → amS → Prop} (hq : ∀ v S', Q v S' → Q' v S') (k : X h M pc loc st S Q) : X h M pc loc st S Q' := by
  intro p l e R s m args below meth c D ad ca H0 H locs ls QQ hC hL hP hS hr
  exact k p l e R s m args below meth c D ad ca H0 H locs ls QQ hC hL hP hS (fun v S' H' locs' pc' ls' hv => hr v S' H' locs' pc' ls' (hq v S' hv))
section XR
variable {h : List amSh} {M : amM} {pc : Nat} {loc st : List Value} {S : amS} {Q : Option Value → amS → Prop}

theorem x_iconst {n : Int} (hd : decode M.2.1 pc = .ok (.iconst n, 1))  (k : X h M (pc + 1) loc (.int (Int32.ofInt n) :: st) S Q) : X h M pc loc (st) S Q := by
  intro p l e R s m args below meth c D ad ca H0 H locs ls QQ hC hL hP hS hr
  obtain ⟨hx, hb, hml, hown, hts, hK, inj, hfr, hlo⟩ := (show _ from hC)
  exact lv_iconst hx hb hd rfl (k p l e R s m args below meth c D ad ca H0 H locs ls QQ hC hL hP hS hr)
theorem x_bipush {n : Int} (hd : decode M.2.1 pc = .ok (.bipush n, 2))  (k : X h M (pc + 2) loc (.int (Int8.ofInt n).toInt32 :: st) S Q) : X h M pc loc (st) S Q := by
  intro p l e R s m args below meth c D ad ca H0 H locs ls QQ hC hL hP hS hr
  obtain ⟨hx, hb, hml, hown, hts, hK, inj, hfr, hlo⟩ := (show _ from hC)
  exact lv_bipush hx hb hd rfl (k p l e R s m args below meth c D ad ca H0 H locs ls QQ hC hL hP hS hr)
theorem x_sipush {n : Int} (hd : decode M.2.1 pc = .ok (.sipush n, 3))  (k : X h M (pc + 3) loc (.int (Int16.ofInt n).toInt32 :: st) S Q) : X h M pc loc (st) S Q := by
  intro p l e R s m args below meth c D ad ca H0 H locs ls QQ hC hL hP hS hr
  obtain ⟨hx, hb, hml, hown, hts, hK, inj, hfr, hlo⟩ := (show _ from hC)
  exact lv_sipush hx hb hd rfl (k p l e R s m args below meth c D ad ca H0 H locs ls QQ hC hL hP hS hr)
theorem x_lconst {n : Fin 2} (hd : decode M.2.1 pc = .ok (.lconst n, 1))  (k : X h M (pc + 1) loc (.long (Int64.ofNat n) :: st) S Q) : X h M pc loc (st) S Q := by
  intro p l e R s m args below meth c D ad ca H0 H locs ls QQ hC hL hP hS hr
  obtain ⟨hx, hb, hml, hown, hts, hK, inj, hfr, hlo⟩ := (show _ from hC)
  exact lv_lconst hx hb hd rfl (k p l e R s m args below meth c D ad ca H0 H locs ls QQ hC hL hP hS hr)
theorem x_iload_n {n : Fin 4} {x : Int32} (hd : decode M.2.1 pc = .ok (.iload_n n, 1)) (hl : am_ld loc n = .int x) (k : X h M (pc + 1) loc (.int x :: st) S Q) : X h M pc loc (st) S Q := by
  intro p l e R s m args below meth c D ad ca H0 H locs ls QQ hC hL hP hS hr
  obtain ⟨hx, hb, hml, hown, hts, hK, inj, hfr, hlo⟩ := (show _ from hC)
  exact lv_iload_n hx hb hd rfl (am_L_at hL hl (by simp)) (k p l e R s m args below meth c D ad ca H0 H locs ls QQ hC hL hP hS hr)
theorem x_iload {n : Nat} {x : Int32} (hd : decode M.2.1 pc = .ok (.iload n, 2)) (hl : am_ld loc n = .int x) (k : X h M (pc + 2) loc (.int x :: st) S Q) : X h M pc loc (st) S Q := by
  intro p l e R s m args below meth c D ad ca H0 H locs ls QQ hC hL hP hS hr
  obtain ⟨hx, hb, hml, hown, hts, hK, inj, hfr, hlo⟩ := (show _ from hC)
  exact lv_iload hx hb hd (am_L_at hL hl (by simp)) (k p l e R s m args below meth c D ad ca H0 H locs ls QQ hC hL hP hS hr)
theorem x_lload_n {n : Fin 4} {x : Int64} (hd : decode M.2.1 pc = .ok (.lload_n n, 1)) (hl : am_ld loc n = .long x) (k : X h M (pc + 1) loc (.long x :: st) S Q) : X h M pc loc (st) S Q := by
  intro p l e R s m args below meth c D ad ca H0 H locs ls QQ hC hL hP hS hr
  obtain ⟨hx, hb, hml, hown, hts, hK, inj, hfr, hlo⟩ := (show _ from hC)
  exact lv_lload_n hx hb hd rfl (am_L_at hL hl (by simp)) (k p l e R s m args below meth c D ad ca H0 H locs ls QQ hC hL hP hS hr)
theorem x_lload {n : Nat} {x : Int64} (hd : decode M.2.1 pc = .ok (.lload n, 2)) (hl : am_ld loc n = .long x) (k : X h M (pc + 2) loc (.long x :: st) S Q) : X h M pc loc (st) S Q := by
  intro p l e R s m args below meth c D ad ca H0 H locs ls QQ hC hL hP hS hr
  obtain ⟨hx, hb, hml, hown, hts, hK, inj, hfr, hlo⟩ := (show _ from hC)
  exact lv_lload hx hb hd (am_L_at hL hl (by simp)) (k p l e R s m args below meth c D ad ca H0 H locs ls QQ hC hL hP hS hr)
theorem x_aload_n {n : Fin 4} {x : Nat} (hd : decode M.2.1 pc = .ok (.aload_n n, 1)) (hl : am_ld loc n = .ref x) (k : X h M (pc + 1) loc (.ref x :: st) S Q) : X h M pc loc (st) S Q := by
  intro p l e R s m args below meth c D ad ca H0 H locs ls QQ hC hL hP hS hr
  obtain ⟨hx, hb, hml, hown, hts, hK, inj, hfr, hlo⟩ := (show _ from hC)
  exact lv_aload_n hx hb hd rfl (am_L_at hL hl (by simp)) (k p l e R s m args below meth c D ad ca H0 H locs ls QQ hC hL hP hS hr)
theorem x_aload {n : Nat} {x : Nat} (hd : decode M.2.1 pc = .ok (.aload n, 2)) (hl : am_ld loc n = .ref x) (k : X h M (pc + 2) loc (.ref x :: st) S Q) : X h M pc loc (st) S Q := by
  intro p l e R s m args below meth c D ad ca H0 H locs ls QQ hC hL hP hS hr
  obtain ⟨hx, hb, hml, hown, hts, hK, inj, hfr, hlo⟩ := (show _ from hC)
  exact lv_aload hx hb hd (am_L_at hL hl (by simp)) (k p l e R s m args below meth c D ad ca H0 H locs ls QQ hC hL hP hS hr)
theorem x_iadd {x y : Int32} (hd : decode M.2.1 pc = .ok (.iadd, 1))  (k : X h M (pc + 1) loc (.int (x + y) :: st) S Q) : X h M pc loc (.int y :: .int x :: st) S Q := by
  intro p l e R s m args below meth c D ad ca H0 H locs ls QQ hC hL hP hS hr
  obtain ⟨hx, hb, hml, hown, hts, hK, inj, hfr, hlo⟩ := (show _ from hC)
  exact lv_iadd hx hb hd (k p l e R s m args below meth c D ad ca H0 H locs ls QQ hC hL hP hS hr)
theorem x_isub {x y : Int32} (hd : decode M.2.1 pc = .ok (.isub, 1))  (k : X h M (pc + 1) loc (.int (x - y) :: st) S Q) : X h M pc loc (.int y :: .int x :: st) S Q := by
  intro p l e R s m args below meth c D ad ca H0 H locs ls QQ hC hL hP hS hr
  obtain ⟨hx, hb, hml, hown, hts, hK, inj, hfr, hlo⟩ := (show _ from hC)
  exact lv_isub hx hb hd (k p l e R s m args below meth c D ad ca H0 H locs ls QQ hC hL hP hS hr)
theorem x_imul {x y : Int32} (hd : decode M.2.1 pc = .ok (.imul, 1))  (k : X h M (pc + 1) loc (.int (x * y) :: st) S Q) : X h M pc loc (.int y :: .int x :: st) S Q := by
  intro p l e R s m args below meth c D ad ca H0 H locs ls QQ hC hL hP hS hr
  obtain ⟨hx, hb, hml, hown, hts, hK, inj, hfr, hlo⟩ := (show _ from hC)
  exact lv_imul hx hb hd (k p l e R s m args below meth c D ad ca H0 H locs ls QQ hC hL hP hS hr)
theorem x_iand {x y : Int32} (hd : decode M.2.1 pc = .ok (.iand, 1))  (k : X h M (pc + 1) loc (.int (x &&& y) :: st) S Q) : X h M pc loc (.int y :: .int x :: st) S Q := by
  intro p l e R s m args below meth c D ad ca H0 H locs ls QQ hC hL hP hS hr
  obtain ⟨hx, hb, hml, hown, hts, hK, inj, hfr, hlo⟩ := (show _ from hC)
  exact lv_iand hx hb hd (k p l e R s m args below meth c D ad ca H0 H locs ls QQ hC hL hP hS hr)
theorem x_ior {x y : Int32} (hd : decode M.2.1 pc = .ok (.ior, 1))  (k : X h M (pc + 1) loc (.int (x ||| y) :: st) S Q) : X h M pc loc (.int y :: .int x :: st) S Q := by
  intro p l e R s m args below meth c D ad ca H0 H locs ls QQ hC hL hP hS hr
  obtain ⟨hx, hb, hml, hown, hts, hK, inj, hfr, hlo⟩ := (show _ from hC)
  exact lv_ior hx hb hd (k p l e R s m args below meth c D ad ca H0 H locs ls QQ hC hL hP hS hr)
theorem x_ixor {x y : Int32} (hd : decode M.2.1 pc = .ok (.ixor, 1))  (k : X h M (pc + 1) loc (.int (x ^^^ y) :: st) S Q) : X h M pc loc (.int y :: .int x :: st) S Q := by
  intro p l e R s m args below meth c D ad ca H0 H locs ls QQ hC hL hP hS hr
  obtain ⟨hx, hb, hml, hown, hts, hK, inj, hfr, hlo⟩ := (show _ from hC)
  exact lv_ixor hx hb hd (k p l e R s m args below meth c D ad ca H0 H locs ls QQ hC hL hP hS hr)
theorem x_ishl {x y : Int32} (hd : decode M.2.1 pc = .ok (.ishl, 1))  (k : X h M (pc + 1) loc (.int (x <<< (y &&& 31)) :: st) S Q) : X h M pc loc (.int y :: .int x :: st) S Q := by
  intro p l e R s m args below meth c D ad ca H0 H locs ls QQ hC hL hP hS hr
  obtain ⟨hx, hb, hml, hown, hts, hK, inj, hfr, hlo⟩ := (show _ from hC)
  exact lv_ishl hx hb hd (k p l e R s m args below meth c D ad ca H0 H locs ls QQ hC hL hP hS hr)
theorem x_ishr {x y : Int32} (hd : decode M.2.1 pc = .ok (.ishr, 1))  (k : X h M (pc + 1) loc (.int (x >>> (y &&& 31)) :: st) S Q) : X h M pc loc (.int y :: .int x :: st) S Q := by
  intro p l e R s m args below meth c D ad ca H0 H locs ls QQ hC hL hP hS hr
  obtain ⟨hx, hb, hml, hown, hts, hK, inj, hfr, hlo⟩ := (show _ from hC)
  exact lv_ishr hx hb hd (k p l e R s m args below meth c D ad ca H0 H locs ls QQ hC hL hP hS hr)
theorem x_iushr {x y : Int32} (hd : decode M.2.1 pc = .ok (.iushr, 1))  (k : X h M (pc + 1) loc (.int (x.toUInt32 >>> (y.toUInt32 &&& Int32.toUInt32 31)).toInt32 :: st) S Q) : X h M pc loc (.int y :: .int x :: st) S Q := by
  intro p l e R s m args below meth c D ad ca H0 H locs ls QQ hC hL hP hS hr
  obtain ⟨hx, hb, hml, hown, hts, hK, inj, hfr, hlo⟩ := (show _ from hC)
  exact lv_iushr hx hb hd rfl (k p l e R s m args below meth c D ad ca H0 H locs ls QQ hC hL hP hS hr)
theorem x_idiv {x y : Int32} (hd : decode M.2.1 pc = .ok (.idiv, 1)) (hne : ¬ y = 0) (k : X h M (pc + 1) loc (.int (x / y) :: st) S Q) : X h M pc loc (.int y :: .int x :: st) S Q := by
  intro p l e R s m args below meth c D ad ca H0 H locs ls QQ hC hL hP hS hr
  obtain ⟨hx, hb, hml, hown, hts, hK, inj, hfr, hlo⟩ := (show _ from hC)
  exact lv_idiv hx hb hd hne (k p l e R s m args below meth c D ad ca H0 H locs ls QQ hC hL hP hS hr)
theorem x_irem {x y : Int32} (hd : decode M.2.1 pc = .ok (.irem, 1)) (hne : ¬ y = 0) (k : X h M (pc + 1) loc (.int (x - x / y * y) :: st) S Q) : X h M pc loc (.int y :: .int x :: st) S Q := by
  intro p l e R s m args below meth c D ad ca H0 H locs ls QQ hC hL hP hS hr
  obtain ⟨hx, hb, hml, hown, hts, hK, inj, hfr, hlo⟩ := (show _ from hC)
  exact lv_irem hx hb hd hne (k p l e R s m args below meth c D ad ca H0 H locs ls QQ hC hL hP hS hr)
theorem x_ineg {x : Int32} (hd : decode M.2.1 pc = .ok (.ineg, 1))  (k : X h M (pc + 1) loc (.int (-x) :: st) S Q) : X h M pc loc (.int x :: st) S Q := by
  intro p l e R s m args below meth c D ad ca H0 H locs ls QQ hC hL hP hS hr
  obtain ⟨hx, hb, hml, hown, hts, hK, inj, hfr, hlo⟩ := (show _ from hC)
  exact lv_ineg hx hb hd (k p l e R s m args below meth c D ad ca H0 H locs ls QQ hC hL hP hS hr)
theorem x_ladd {x y : Int64} (hd : decode M.2.1 pc = .ok (.ladd, 1))  (k : X h M (pc + 1) loc (.long (x + y) :: st) S Q) : X h M pc loc (.long y :: .long x :: st) S Q := by
  intro p l e R s m args below meth c D ad ca H0 H locs ls QQ hC hL hP hS hr
  obtain ⟨hx, hb, hml, hown, hts, hK, inj, hfr, hlo⟩ := (show _ from hC)
  exact lv_ladd hx hb hd (k p l e R s m args below meth c D ad ca H0 H locs ls QQ hC hL hP hS hr)
theorem x_lsub {x y : Int64} (hd : decode M.2.1 pc = .ok (.lsub, 1))  (k : X h M (pc + 1) loc (.long (x - y) :: st) S Q) : X h M pc loc (.long y :: .long x :: st) S Q := by
  intro p l e R s m args below meth c D ad ca H0 H locs ls QQ hC hL hP hS hr
  obtain ⟨hx, hb, hml, hown, hts, hK, inj, hfr, hlo⟩ := (show _ from hC)
  exact lv_lsub hx hb hd (k p l e R s m args below meth c D ad ca H0 H locs ls QQ hC hL hP hS hr)
theorem x_lmul {x y : Int64} (hd : decode M.2.1 pc = .ok (.lmul, 1))  (k : X h M (pc + 1) loc (.long (x * y) :: st) S Q) : X h M pc loc (.long y :: .long x :: st) S Q := by
  intro p l e R s m args below meth c D ad ca H0 H locs ls QQ hC hL hP hS hr
  obtain ⟨hx, hb, hml, hown, hts, hK, inj, hfr, hlo⟩ := (show _ from hC)
  exact lv_lmul hx hb hd (k p l e R s m args below meth c D ad ca H0 H locs ls QQ hC hL hP hS hr)
theorem x_ldiv {x y : Int64} (hd : decode M.2.1 pc = .ok (.ldiv, 1)) (hne : ¬ y = 0) (k : X h M (pc + 1) loc (.long (x / y) :: st) S Q) : X h M pc loc (.long y :: .long x :: st) S Q := by
  intro p l e R s m args below meth c D ad ca H0 H locs ls QQ hC hL hP hS hr
  obtain ⟨hx, hb, hml, hown, hts, hK, inj, hfr, hlo⟩ := (show _ from hC)
  exact lv_ldiv hx hb hd hne (k p l e R s m args below meth c D ad ca H0 H locs ls QQ hC hL hP hS hr)
theorem x_lrem {x y : Int64} (hd : decode M.2.1 pc = .ok (.lrem, 1)) (hne : ¬ y = 0) (k : X h M (pc + 1) loc (.long (x - x / y * y) :: st) S Q) : X h M pc loc (.long y :: .long x :: st) S Q := by
  intro p l e R s m args below meth c D ad ca H0 H locs ls QQ hC hL hP hS hr
  obtain ⟨hx, hb, hml, hown, hts, hK, inj, hfr, hlo⟩ := (show _ from hC)
  exact lv_lrem hx hb hd hne (k p l e R s m args below meth c D ad ca H0 H locs ls QQ hC hL hP hS hr)
theorem x_lneg {x : Int64} (hd : decode M.2.1 pc = .ok (.lneg, 1))  (k : X h M (pc + 1) loc (.long (-x) :: st) S Q) : X h M pc loc (.long x :: st) S Q := by
  intro p l e R s m args below meth c D ad ca H0 H locs ls QQ hC hL hP hS hr
  obtain ⟨hx, hb, hml, hown, hts, hK, inj, hfr, hlo⟩ := (show _ from hC)
  exact lv_lneg hx hb hd (k p l e R s m args below meth c D ad ca H0 H locs ls QQ hC hL hP hS hr)
theorem x_lcmp {x y : Int64} (hd : decode M.2.1 pc = .ok (.lcmp, 1))  (k : X h M (pc + 1) loc (.int (lg_cmp x y) :: st) S Q) : X h M pc loc (.long y :: .long x :: st) S Q := by
  intro p l e R s m args below meth c D ad ca H0 H locs ls QQ hC hL hP hS hr
  obtain ⟨hx, hb, hml, hown, hts, hK, inj, hfr, hlo⟩ := (show _ from hC)
  exact W.lcmp hx hb hd (k p l e R s m args below meth c D ad ca H0 H locs ls QQ hC hL hP hS hr)
theorem x_i2l {x : Int32} (hd : decode M.2.1 pc = .ok (.i2l, 1))  (k : X h M (pc + 1) loc (.long x.toInt64 :: st) S Q) : X h M pc loc (.int x :: st) S Q := by
  intro p l e R s m args below meth c D ad ca H0 H locs ls QQ hC hL hP hS hr
  obtain ⟨hx, hb, hml, hown, hts, hK, inj, hfr, hlo⟩ := (show _ from hC)
  exact lv_i2l hx hb hd rfl (k p l e R s m args below meth c D ad ca H0 H locs ls QQ hC hL hP hS hr)
theorem x_l2i {x : Int64} (hd : decode M.2.1 pc = .ok (.l2i, 1))  (k : X h M (pc + 1) loc (.int x.toInt32 :: st) S Q) : X h M pc loc (.long x :: st) S Q := by
  intro p l e R s m args below meth c D ad ca H0 H locs ls QQ hC hL hP hS hr
  obtain ⟨hx, hb, hml, hown, hts, hK, inj, hfr, hlo⟩ := (show _ from hC)
  exact lv_l2i hx hb hd rfl (k p l e R s m args below meth c D ad ca H0 H locs ls QQ hC hL hP hS hr)
theorem x_i2b {x : Int32} (hd : decode M.2.1 pc = .ok (.i2b, 1))  (k : X h M (pc + 1) loc (.int x.toInt8.toInt32 :: st) S Q) : X h M pc loc (.int x :: st) S Q := by
  intro p l e R s m args below meth c D ad ca H0 H locs ls QQ hC hL hP hS hr
  obtain ⟨hx, hb, hml, hown, hts, hK, inj, hfr, hlo⟩ := (show _ from hC)
  exact lv_i2b hx hb hd rfl (k p l e R s m args below meth c D ad ca H0 H locs ls QQ hC hL hP hS hr)
theorem x_dup {v : Value} (hd : decode M.2.1 pc = .ok (.dup, 1)) (hv : v.category = 1) (k : X h M (pc + 1) loc (v :: v :: st) S Q) : X h M pc loc (v :: st) S Q := by
  intro p l e R s m args below meth c D ad ca H0 H locs ls QQ hC hL hP hS hr
  obtain ⟨hx, hb, hml, hown, hts, hK, inj, hfr, hlo⟩ := (show _ from hC)
  exact lv_dup hx hb hd (by rw [am_cv_cat]; exact hv) (k p l e R s m args below meth c D ad ca H0 H locs ls QQ hC hL hP hS hr)
theorem x_pop {v : Value} (hd : decode M.2.1 pc = .ok (.pop, 1)) (hv : v.category = 1) (k : X h M (pc + 1) loc (st) S Q) : X h M pc loc (v :: st) S Q := by
  intro p l e R s m args below meth c D ad ca H0 H locs ls QQ hC hL hP hS hr
  obtain ⟨hx, hb, hml, hown, hts, hK, inj, hfr, hlo⟩ := (show _ from hC)
  exact lv_pop hx hb hd (by rw [am_cv_cat]; exact hv) (k p l e R s m args below meth c D ad ca H0 H locs ls QQ hC hL hP hS hr)
theorem x_dup2 {v u : Value} (hd : decode M.2.1 pc = .ok (.dup2, 1)) (hv : v.category = 1) (hu : u.category = 1) (k : X h M (pc + 1) loc (v :: u :: v :: u :: st) S Q) : X h M pc loc (v :: u :: st) S Q := by
  intro p l e R s m args below meth c D ad ca H0 H locs ls QQ hC hL hP hS hr
  obtain ⟨hx, hb, hml, hown, hts, hK, inj, hfr, hlo⟩ := (show _ from hC)
  exact lv_dup2_11 hx hb hd (by rw [am_cv_cat]; exact hv) (by rw [am_cv_cat]; exact hu) (k p l e R s m args below meth c D ad ca H0 H locs ls QQ hC hL hP hS hr)
theorem x_dup2l {v : Value} (hd : decode M.2.1 pc = .ok (.dup2, 1)) (hv : v.category = 2) (k : X h M (pc + 1) loc (v :: v :: st) S Q) : X h M pc loc (v :: st) S Q := by
  intro p l e R s m args below meth c D ad ca H0 H locs ls QQ hC hL hP hS hr
  obtain ⟨hx, hb, hml, hown, hts, hK, inj, hfr, hlo⟩ := (show _ from hC)
  exact lv_dup2_2 hx hb hd (by rw [am_cv_cat]; exact hv) (k p l e R s m args below meth c D ad ca H0 H locs ls QQ hC hL hP hS hr)
theorem x_istore_n {n : Fin 4} {x : Int32} (hd : decode M.2.1 pc = .ok (.istore_n n, 1)) (hn : Nat.blt (n) loc.length = true) (k : X h M (pc + 1) (am_st (.int x) n 0 loc) st S Q) : X h M pc loc (.int x :: st) S Q := by
  intro p l e R s m args below meth c D ad ca H0 H locs ls QQ hC hL hP hS hr
  obtain ⟨hx, hb, hml, hown, hts, hK, inj, hfr, hlo⟩ := (show _ from hC)
  exact lv_istore_n hx hb hd rfl (am_L_has hL) (am_lt hn hL.2.2.1) rfl (fun ls' hl' => k p l e R s m args below meth c D ad ca H0 H locs ls' QQ hC (am_L_st1 hL rfl hl') hP hS hr)
theorem x_istore {n : Nat} {x : Int32} (hd : decode M.2.1 pc = .ok (.istore n, 2)) (hn : Nat.blt (n) loc.length = true) (k : X h M (pc + 2) (am_st (.int x) n 0 loc) st S Q) : X h M pc loc (.int x :: st) S Q := by
  intro p l e R s m args below meth c D ad ca H0 H locs ls QQ hC hL hP hS hr
  obtain ⟨hx, hb, hml, hown, hts, hK, inj, hfr, hlo⟩ := (show _ from hC)
  exact lv_istore hx hb hd (am_L_has hL) (am_lt hn hL.2.2.1) rfl (fun ls' hl' => k p l e R s m args below meth c D ad ca H0 H locs ls' QQ hC (am_L_st1 hL rfl hl') hP hS hr)
theorem x_lstore_n {n : Fin 4} {x : Int64} (hd : decode M.2.1 pc = .ok (.lstore_n n, 1)) (hn : Nat.blt (n + 1) loc.length = true) (k : X h M (pc + 1) (am_st (.long x) n 0 loc) st S Q) : X h M pc loc (.long x :: st) S Q := by
  intro p l e R s m args below meth c D ad ca H0 H locs ls QQ hC hL hP hS hr
  obtain ⟨hx, hb, hml, hown, hts, hK, inj, hfr, hlo⟩ := (show _ from hC)
  exact lv_lstore_n hx hb hd rfl (am_L_has hL) (am_lt hn hL.2.2.1) rfl (fun ls' hl' => k p l e R s m args below meth c D ad ca H0 H locs ls' QQ hC (am_L_st2 hL rfl hl') hP hS hr)
theorem x_lstore {n : Nat} {x : Int64} (hd : decode M.2.1 pc = .ok (.lstore n, 2)) (hn : Nat.blt (n + 1) loc.length = true) (k : X h M (pc + 2) (am_st (.long x) n 0 loc) st S Q) : X h M pc loc (.long x :: st) S Q := by
  intro p l e R s m args below meth c D ad ca H0 H locs ls QQ hC hL hP hS hr
  obtain ⟨hx, hb, hml, hown, hts, hK, inj, hfr, hlo⟩ := (show _ from hC)
  exact lv_lstore hx hb hd (am_L_has hL) (am_lt hn hL.2.2.1) rfl (fun ls' hl' => k p l e R s m args below meth c D ad ca H0 H locs ls' QQ hC (am_L_st2 hL rfl hl') hP hS hr)
theorem x_astore_n {n : Fin 4} {x : Nat} (hd : decode M.2.1 pc = .ok (.astore_n n, 1)) (hn : Nat.blt (n) loc.length = true) (k : X h M (pc + 1) (am_st (.ref x) n 0 loc) st S Q) : X h M pc loc (.ref x :: st) S Q := by
  intro p l e R s m args below meth c D ad ca H0 H locs ls QQ hC hL hP hS hr
  obtain ⟨hx, hb, hml, hown, hts, hK, inj, hfr, hlo⟩ := (show _ from hC)
  exact lv_astore_n hx hb hd rfl (am_L_has hL) (am_lt hn hL.2.2.1) rfl (fun ls' hl' => k p l e R s m args below meth c D ad ca H0 H locs ls' QQ hC (am_L_st1 hL rfl hl') hP hS hr)
theorem x_astore {n : Nat} {x : Nat} (hd : decode M.2.1 pc = .ok (.astore n, 2)) (hn : Nat.blt (n) loc.length = true) (k : X h M (pc + 2) (am_st (.ref x) n 0 loc) st S Q) : X h M pc loc (.ref x :: st) S Q := by
  intro p l e R s m args below meth c D ad ca H0 H locs ls QQ hC hL hP hS hr
  obtain ⟨hx, hb, hml, hown, hts, hK, inj, hfr, hlo⟩ := (show _ from hC)
  exact lv_astore hx hb hd (am_L_has hL) (am_lt hn hL.2.2.1) rfl (fun ls' hl' => k p l e R s m args below meth c D ad ca H0 H locs ls' QQ hC (am_L_st1 hL rfl hl') hP hS hr)
theorem x_iinc {n : Nat} {d : Int} {x : Int32} (hd : decode M.2.1 pc = .ok (.iinc n d, 3)) (hl : am_ld loc n = .int x) (hn : Nat.blt n loc.length = true) (k : X h M (pc + 3) (am_st (.int (x + Int32.ofInt d)) n 0 loc) st S Q) : X h M pc loc st S Q := by
  intro p l e R s m args below meth c D ad ca H0 H locs ls QQ hC hL hP hS hr
  obtain ⟨hx, hb, hml, hown, hts, hK, inj, hfr, hlo⟩ := (show _ from hC)
  obtain ⟨kk, hkk⟩ := List.getElem?_of_mem (am_pairs_mem (ad := ad) (am_ld_some hl (by simp)) (by simp))
  exact lv_iinc hx hb hd (am_L_has hL) hkk rfl (am_lt hn hL.2.2.1) rfl (fun ls' hl' => k p l e R s m args below meth c D ad ca H0 H locs ls' QQ hC (am_L_st1 hL rfl hl') hP hS hr)
theorem x_if_eq {x : Int32} {off : Int} (tgt : Nat) (hd : decode M.2.1 pc = .ok (.ifCond .eq off, 3)) (ht : (pc : Int) + off = (tgt : Int)) (kt : x = 0 → X h M tgt loc st S Q) (kf : ¬ x = 0 → X h M (pc + 3) loc st S Q) : X h M pc loc (.int x :: st) S Q := by
  intro p l e R s m args below meth c D ad ca H0 H locs ls QQ hC hL hP hS hr
  obtain ⟨hx, hb, hml, hown, hts, hK, inj, hfr, hlo⟩ := (show _ from hC)
  exact lv_if_eq hx hb hd ht (fun z => kt z p l e R s m args below meth c D ad ca H0 H locs ls QQ hC hL hP hS hr) (fun z => kf z p l e R s m args below meth c D ad ca H0 H locs ls QQ hC hL hP hS hr)
theorem x_if_ne {x : Int32} {off : Int} (tgt : Nat) (hd : decode M.2.1 pc = .ok (.ifCond .ne off, 3)) (ht : (pc : Int) + off = (tgt : Int)) (kt : ¬ x = 0 → X h M tgt loc st S Q) (kf : x = 0 → X h M (pc + 3) loc st S Q) : X h M pc loc (.int x :: st) S Q := by
  intro p l e R s m args below meth c D ad ca H0 H locs ls QQ hC hL hP hS hr
  obtain ⟨hx, hb, hml, hown, hts, hK, inj, hfr, hlo⟩ := (show _ from hC)
  exact lv_if_ne hx hb hd ht (fun z => kt z p l e R s m args below meth c D ad ca H0 H locs ls QQ hC hL hP hS hr) (fun z => kf z p l e R s m args below meth c D ad ca H0 H locs ls QQ hC hL hP hS hr)
theorem x_if_lt {x : Int32} {off : Int} (tgt : Nat) (hd : decode M.2.1 pc = .ok (.ifCond .lt off, 3)) (ht : (pc : Int) + off = (tgt : Int)) (kt : x < 0 → X h M tgt loc st S Q) (kf : ¬ x < 0 → X h M (pc + 3) loc st S Q) : X h M pc loc (.int x :: st) S Q := by
  intro p l e R s m args below meth c D ad ca H0 H locs ls QQ hC hL hP hS hr
  obtain ⟨hx, hb, hml, hown, hts, hK, inj, hfr, hlo⟩ := (show _ from hC)
  exact lv_if_lt hx hb hd ht (fun z => kt z p l e R s m args below meth c D ad ca H0 H locs ls QQ hC hL hP hS hr) (fun z => kf z p l e R s m args below meth c D ad ca H0 H locs ls QQ hC hL hP hS hr)
theorem x_if_ge {x : Int32} {off : Int} (tgt : Nat) (hd : decode M.2.1 pc = .ok (.ifCond .ge off, 3)) (ht : (pc : Int) + off = (tgt : Int)) (kt : 0 ≤ x → X h M tgt loc st S Q) (kf : ¬ 0 ≤ x → X h M (pc + 3) loc st S Q) : X h M pc loc (.int x :: st) S Q := by
  intro p l e R s m args below meth c D ad ca H0 H locs ls QQ hC hL hP hS hr
  obtain ⟨hx, hb, hml, hown, hts, hK, inj, hfr, hlo⟩ := (show _ from hC)
  exact lv_if_ge hx hb hd ht (fun z => kt z p l e R s m args below meth c D ad ca H0 H locs ls QQ hC hL hP hS hr) (fun z => kf z p l e R s m args below meth c D ad ca H0 H locs ls QQ hC hL hP hS hr)
theorem x_if_gt {x : Int32} {off : Int} (tgt : Nat) (hd : decode M.2.1 pc = .ok (.ifCond .gt off, 3)) (ht : (pc : Int) + off = (tgt : Int)) (kt : 0 < x → X h M tgt loc st S Q) (kf : ¬ 0 < x → X h M (pc + 3) loc st S Q) : X h M pc loc (.int x :: st) S Q := by
  intro p l e R s m args below meth c D ad ca H0 H locs ls QQ hC hL hP hS hr
  obtain ⟨hx, hb, hml, hown, hts, hK, inj, hfr, hlo⟩ := (show _ from hC)
  exact lv_if_gt hx hb hd ht (fun z => kt z p l e R s m args below meth c D ad ca H0 H locs ls QQ hC hL hP hS hr) (fun z => kf z p l e R s m args below meth c D ad ca H0 H locs ls QQ hC hL hP hS hr)
theorem x_if_le {x : Int32} {off : Int} (tgt : Nat) (hd : decode M.2.1 pc = .ok (.ifCond .le off, 3)) (ht : (pc : Int) + off = (tgt : Int)) (kt : x ≤ 0 → X h M tgt loc st S Q) (kf : ¬ x ≤ 0 → X h M (pc + 3) loc st S Q) : X h M pc loc (.int x :: st) S Q := by
  intro p l e R s m args below meth c D ad ca H0 H locs ls QQ hC hL hP hS hr
  obtain ⟨hx, hb, hml, hown, hts, hK, inj, hfr, hlo⟩ := (show _ from hC)
  exact lv_if_le hx hb hd ht (fun z => kt z p l e R s m args below meth c D ad ca H0 H locs ls QQ hC hL hP hS hr) (fun z => kf z p l e R s m args below meth c D ad ca H0 H locs ls QQ hC hL hP hS hr)
theorem x_icmp_eq {x y : Int32} {off : Int} (tgt : Nat) (hd : decode M.2.1 pc = .ok (.if_icmp .eq off, 3)) (ht : (pc : Int) + off = (tgt : Int)) (kt : x = y → X h M tgt loc st S Q) (kf : ¬ x = y → X h M (pc + 3) loc st S Q) : X h M pc loc (.int y :: .int x :: st) S Q := by
  intro p l e R s m args below meth c D ad ca H0 H locs ls QQ hC hL hP hS hr
  obtain ⟨hx, hb, hml, hown, hts, hK, inj, hfr, hlo⟩ := (show _ from hC)
  exact lv_icmp_eq hx hb hd ht (fun z => kt z p l e R s m args below meth c D ad ca H0 H locs ls QQ hC hL hP hS hr) (fun z => kf z p l e R s m args below meth c D ad ca H0 H locs ls QQ hC hL hP hS hr)
theorem x_icmp_ne {x y : Int32} {off : Int} (tgt : Nat) (hd : decode M.2.1 pc = .ok (.if_icmp .ne off, 3)) (ht : (pc : Int) + off = (tgt : Int)) (kt : ¬ x = y → X h M tgt loc st S Q) (kf : x = y → X h M (pc + 3) loc st S Q) : X h M pc loc (.int y :: .int x :: st) S Q := by
  intro p l e R s m args below meth c D ad ca H0 H locs ls QQ hC hL hP hS hr
  obtain ⟨hx, hb, hml, hown, hts, hK, inj, hfr, hlo⟩ := (show _ from hC)
  exact lv_icmp_ne hx hb hd ht (fun z => kt z p l e R s m args below meth c D ad ca H0 H locs ls QQ hC hL hP hS hr) (fun z => kf z p l e R s m args below meth c D ad ca H0 H locs ls QQ hC hL hP hS hr)
theorem x_icmp_lt {x y : Int32} {off : Int} (tgt : Nat) (hd : decode M.2.1 pc = .ok (.if_icmp .lt off, 3)) (ht : (pc : Int) + off = (tgt : Int)) (kt : x < y → X h M tgt loc st S Q) (kf : ¬ x < y → X h M (pc + 3) loc st S Q) : X h M pc loc (.int y :: .int x :: st) S Q := by
  intro p l e R s m args below meth c D ad ca H0 H locs ls QQ hC hL hP hS hr
  obtain ⟨hx, hb, hml, hown, hts, hK, inj, hfr, hlo⟩ := (show _ from hC)
  exact lv_icmp_lt hx hb hd ht (fun z => kt z p l e R s m args below meth c D ad ca H0 H locs ls QQ hC hL hP hS hr) (fun z => kf z p l e R s m args below meth c D ad ca H0 H locs ls QQ hC hL hP hS hr)
theorem x_icmp_ge {x y : Int32} {off : Int} (tgt : Nat) (hd : decode M.2.1 pc = .ok (.if_icmp .ge off, 3)) (ht : (pc : Int) + off = (tgt : Int)) (kt : y ≤ x → X h M tgt loc st S Q) (kf : ¬ y ≤ x → X h M (pc + 3) loc st S Q) : X h M pc loc (.int y :: .int x :: st) S Q := by
  intro p l e R s m args below meth c D ad ca H0 H locs ls QQ hC hL hP hS hr
  obtain ⟨hx, hb, hml, hown, hts, hK, inj, hfr, hlo⟩ := (show _ from hC)
  exact lv_icmp_ge hx hb hd ht (fun z => kt z p l e R s m args below meth c D ad ca H0 H locs ls QQ hC hL hP hS hr) (fun z => kf z p l e R s m args below meth c D ad ca H0 H locs ls QQ hC hL hP hS hr)
theorem x_icmp_gt {x y : Int32} {off : Int} (tgt : Nat) (hd : decode M.2.1 pc = .ok (.if_icmp .gt off, 3)) (ht : (pc : Int) + off = (tgt : Int)) (kt : y < x → X h M tgt loc st S Q) (kf : ¬ y < x → X h M (pc + 3) loc st S Q) : X h M pc loc (.int y :: .int x :: st) S Q := by
  intro p l e R s m args below meth c D ad ca H0 H locs ls QQ hC hL hP hS hr
  obtain ⟨hx, hb, hml, hown, hts, hK, inj, hfr, hlo⟩ := (show _ from hC)
  exact lv_icmp_gt hx hb hd ht (fun z => kt z p l e R s m args below meth c D ad ca H0 H locs ls QQ hC hL hP hS hr) (fun z => kf z p l e R s m args below meth c D ad ca H0 H locs ls QQ hC hL hP hS hr)
theorem x_icmp_le {x y : Int32} {off : Int} (tgt : Nat) (hd : decode M.2.1 pc = .ok (.if_icmp .le off, 3)) (ht : (pc : Int) + off = (tgt : Int)) (kt : x ≤ y → X h M tgt loc st S Q) (kf : ¬ x ≤ y → X h M (pc + 3) loc st S Q) : X h M pc loc (.int y :: .int x :: st) S Q := by
  intro p l e R s m args below meth c D ad ca H0 H locs ls QQ hC hL hP hS hr
  obtain ⟨hx, hb, hml, hown, hts, hK, inj, hfr, hlo⟩ := (show _ from hC)
  exact lv_icmp_le hx hb hd ht (fun z => kt z p l e R s m args below meth c D ad ca H0 H locs ls QQ hC hL hP hS hr) (fun z => kf z p l e R s m args below meth c D ad ca H0 H locs ls QQ hC hL hP hS hr)
theorem x_goto {off : Int} (tgt : Nat) (hd : decode M.2.1 pc = .ok (.goto off, 3)) (ht : (pc : Int) + off = (tgt : Int)) (k : X h M tgt loc st S Q) : X h M pc loc st S Q := by
  intro p l e R s m args below meth c D ad ca H0 H locs ls QQ hC hL hP hS hr
  obtain ⟨hx, hb, hml, hown, hts, hK, inj, hfr, hlo⟩ := (show _ from hC)
  exact lv_goto hx hb hd ht (k p l e R s m args below meth c D ad ca H0 H locs ls QQ hC hL hP hS hr)
theorem x_lookup {dflt : Int} {ps : Array (Int × Int)} {len : Nat} {x : Int32} {off : Int} (tgt : Nat) (hd : decode M.2.1 pc = .ok (.lookupswitch dflt ps, len)) (hp : (ps.toList.zip (ps.toList.drop 1)).all (fun (a, next) => a.1 < next.1) = true) (ho : Op.lookupswitch.offset ps.toList dflt x.toInt = off) (ht : (pc : Int) + off = (tgt : Int)) (k : X h M tgt loc st S Q) : X h M pc loc (.int x :: st) S Q := by
  intro p l e R s m args below meth c D ad ca H0 H locs ls QQ hC hL hP hS hr
  obtain ⟨hx, hb, hml, hown, hts, hK, inj, hfr, hlo⟩ := (show _ from hC)
  exact lv_lookup hx hb hd hp ho ht (k p l e R s m args below meth c D ad ca H0 H locs ls QQ hC hL hP hS hr)
theorem x_tableOut {dflt lo hi : Int} {offs : Array Int} {len : Nat} {x : Int32} (tgt : Nat) (hd : decode M.2.1 pc = .ok (.tableswitch dflt lo hi offs, len)) (hh : x.toInt < lo ∨ hi < x.toInt) (ht : (pc : Int) + dflt = (tgt : Int)) (k : X h M tgt loc st S Q) : X h M pc loc (.int x :: st) S Q := by
  intro p l e R s m args below meth c D ad ca H0 H locs ls QQ hC hL hP hS hr
  obtain ⟨hx, hb, hml, hown, hts, hK, inj, hfr, hlo⟩ := (show _ from hC)
  exact lv_tableOut hx hb hd hh ht (k p l e R s m args below meth c D ad ca H0 H locs ls QQ hC hL hP hS hr)
theorem x_tableIn {dflt lo hi : Int} {offs : Array Int} {len : Nat} {x : Int32} {off : Int} (tgt : Nat) (hd : decode M.2.1 pc = .ok (.tableswitch dflt lo hi offs, len)) (h1 : ¬ x.toInt < lo) (h2 : ¬ hi < x.toInt) (ho : offs[(x.toInt - lo).toNat]? = some off) (ht : (pc : Int) + off = (tgt : Int)) (k : X h M tgt loc st S Q) : X h M pc loc (.int x :: st) S Q := by
  intro p l e R s m args below meth c D ad ca H0 H locs ls QQ hC hL hP hS hr
  obtain ⟨hx, hb, hml, hown, hts, hK, inj, hfr, hlo⟩ := (show _ from hC)
  exact lv_tableIn hx hb hd h1 h2 ho ht (k p l e R s m args below meth c D ad ca H0 H locs ls QQ hC hL hP hS hr)
theorem x_ldcw {i : Nat} {v : Int32} (hw : Cond.constant M.1.cls i v ∈ lw_tbl) (hd : decode M.2.1 pc = .ok (.ldc_w i, 3)) (k : X h M (pc + 3) loc (.int v :: st) S Q) : X h M pc loc st S Q := by
  intro p l e R s m args below meth c D ad ca H0 H locs ls QQ hC hL hP hS hr
  obtain ⟨hx, hb, hml, hown, hts, hK, inj, hfr, hlo⟩ := (show _ from hC)
  exact lv_ldcw hx hb hown (hts.at hw rfl args) hd (k p l e R s m args below meth c D ad ca H0 H locs ls QQ hC hL hP hS hr)
theorem x_ldc {i : Nat} {v : Int32} (hw : Cond.constant M.1.cls i v ∈ lw_tbl) (hd : decode M.2.1 pc = .ok (.ldc i, 2)) (k : X h M (pc + 2) loc (.int v :: st) S Q) : X h M pc loc st S Q := by
  intro p l e R s m args below meth c D ad ca H0 H locs ls QQ hC hL hP hS hr
  obtain ⟨hx, hb, hml, hown, hts, hK, inj, hfr, hlo⟩ := (show _ from hC)
  exact W.ldc hx hb hown (hts.at hw rfl args) rfl hd (k p l e R s m args below meth c D ad ca H0 H locs ls QQ hC hL hP hS hr)
theorem x_ldc2 {i : Nat} {v : Int64} (hw : Cond.constantLong M.1.cls i v ∈ lw_tbl) (hd : decode M.2.1 pc = .ok (.ldc2_w i, 3)) (k : X h M (pc + 3) loc (.long v :: st) S Q) : X h M pc loc st S Q := by
  intro p l e R s m args below meth c D ad ca H0 H locs ls QQ hC hL hP hS hr
  obtain ⟨hx, hb, hml, hown, hts, hK, inj, hfr, hlo⟩ := (show _ from hC)
  exact W.ldc2 hx hb hown (hts.at hw rfl args) rfl hd (k p l e R s m args below meth c D ad ca H0 H locs ls QQ hC hL hP hS hr)
theorem x_iret {x : Int32} {ty : FieldType} (hd : decode M.2.1 pc = .ok (.ireturn, 1)) (ht : M.2.2.2.1 = some ty) (hn : narrow ty (.int x) = .int x) (q : Q (some (.int x)) S) : X h M pc loc [.int x] S Q := by
  intro p l e R s m args below meth c D ad ca H0 H locs ls QQ hC hL hP hS hr
  obtain ⟨hx, hb, hml, hown, hts, hK, inj, hfr, hlo⟩ := (show _ from hC)
  exact hr (some (.int x)) S H locs pc ls q ⟨ty, ht, hn, hd⟩ hP hS
theorem x_lret {x : Int64} (hd : decode M.2.1 pc = .ok (.lreturn, 1)) (ht : M.2.2.2.1 = some .long) (q : Q (some (.long x)) S) : X h M pc loc [.long x] S Q := by
  intro p l e R s m args below meth c D ad ca H0 H locs ls QQ hC hL hP hS hr
  obtain ⟨hx, hb, hml, hown, hts, hK, inj, hfr, hlo⟩ := (show _ from hC)
  exact hr (some (.long x)) S H locs pc ls q ⟨ht, hd⟩ hP hS
theorem x_aret {x : Nat} {rt : FieldType} (hd : decode M.2.1 pc = .ok (.areturn, 1)) (ht : M.2.2.2.1 = some rt) (hrt : (∃ n, rt = .object n) ∨ ∃ t, rt = .array t) (q : Q (some (.ref x)) S) : X h M pc loc [.ref x] S Q := by
  intro p l e R s m args below meth c D ad ca H0 H locs ls QQ hC hL hP hS hr
  obtain ⟨hx, hb, hml, hown, hts, hK, inj, hfr, hlo⟩ := (show _ from hC)
  exact hr (some (.ref x)) S H locs pc ls q ⟨rt, ht, hrt, hd⟩ hP hS
theorem x_ret (hd : decode M.2.1 pc = .ok (.return_, 1)) (ht : M.2.2.2.1 = none) (q : Q none S) : X h M pc loc [] S Q := by
  intro p l e R s m args below meth c D ad ca H0 H locs ls QQ hC hL hP hS hr
  obtain ⟨hx, hb, hml, hown, hts, hK, inj, hfr, hlo⟩ := (show _ from hC)
  exact hr none S H locs pc ls q ⟨ht, hd⟩ hP hS
/-- the words of a field of kind ci, slot k, by an entry of a class's pool -/
def am_FL (own : String) (idx ci k : Nat) : Prop := ∃ (C : String) (T : u_T) (N : Nat), vwCl[ci]? = some (C, T, N) ∧ k < N ∧ (∀ w ∈ u_ws C T N, w ∈ lw_tbl) ∧ (Cond.fieldLink own idx (T k).1 (T k).2.1 (T k).2.2.1 ∈ lw_tbl ∨ ∃ host, Cond.fieldLinkNest own idx (T k).1 (T k).2.1 (T k).2.2.1 host ∈ lw_tbl)
def am_FP (own : String) (idx ci k : Nat) (ty : FieldType) : Prop := ∃ (C : String) (T : u_T) (N : Nat) (tys : Nat → FieldType), vwCl[ci]? = some (C, T, N) ∧ k < N ∧ (∀ w ∈ u_ws C T N, w ∈ lw_tbl) ∧ (Cond.fieldLink own idx (T k).1 (T k).2.1 (T k).2.2.1 ∈ lw_tbl ∨ ∃ host, Cond.fieldLinkNest own idx (T k).1 (T k).2.1 (T k).2.2.1 host ∈ lw_tbl) ∧ (∀ k, k < N → parseFieldDescriptor (T k).2.2.1 = some (tys k)) ∧ (∀ a, a < N → ∀ b, b < N → a ≠ b → (T a).2.1 ≠ (T b).2.1) ∧ (T k).2.2.2 = false ∧ tys k = ty
theorem am_gf_spec {S : amS} {o ci k : Nat} {v : Value} (e : am_gf h S o ci k = some v) (hv : v ≠ .null) : ∃ tpl t, h[o]? = some (.inr (ci, tpl)) ∧ tpl[k]? = some t ∧ v = am_rd S o k t := by
  unfold am_gf at e
  rw [am_shp_get] at e
  cases hs : h[o]? with
  | none => rw [hs] at e; simp at e
  | some sh =>
    rw [hs] at e
    cases sh with
    | inl a => simp at e
    | inr a =>
      obtain ⟨c0, tpl⟩ := a
      by_cases hc : c0 = ci
      · subst hc
        simp at e
        refine ⟨tpl, am_ld tpl k, rfl, ?_, e.symm⟩
        refine am_ld_some rfl (fun z => ?_)
        rw [z] at e
        exact hv e.symm
      · have : Nat.beq c0 ci = false := am_bF hc
        simp [this] at e
theorem x_get {o idx ci k : Nat} {v : Value} (hd : decode M.2.1 pc = .ok (.getfield idx, 3)) (hl : am_FL M.1.cls idx ci k) (hv : am_gf h S o ci k = some v) (hn : v ≠ .null) (kk : X h M (pc + 3) loc (v :: st) S Q) : X h M pc loc (.ref o :: st) S Q := by
  intro p l e R s m args below meth c D ad ca H0 H locs ls QQ hC hL hP hS hr
  obtain ⟨hx, hb, hml, hown, hts, hK, inj, hfr, hlo⟩ := (show _ from hC)
  obtain ⟨tpl, t, e1, e2, e3⟩ := am_gf_spec hv hn
  obtain ⟨C, T, N, hc, hk, hin, hln⟩ := hl
  have he : (am_world h ad ca S)[o]? = some (ad o, .inr (ci, am_fs ad S o tpl)) := am_world_get e1
  have hf : (am_fs ad S o tpl)[k]? = some (am_cv ad v) := by rw [e3]; exact am_fs_get e2
  have hgo := kk p l e R s m args below meth c D ad ca H0 H locs ls QQ hC hL hP hS hr
  rcases hln with hln | ⟨host, hln⟩
  · exact va_get hx hb (hts.us hin args) (fun _ z => z) hown hK hP o he hc k hk (hts.at hln rfl args) (fun _ z => z) hf hd hgo
  · exact va_getN hx hb (hts.us hin args) (fun _ z => z) hown hK hP o he hc k hk (hts.at hln rfl args) (fun _ z => z) hf hd hgo
theorem x_put {o idx ci k : Nat} {ty : FieldType} {x y : Int32} (hd : decode M.2.1 pc = .ok (.putfield idx, 3)) (hl : am_FP M.1.cls idx ci k ty) (hv : am_gf h S o ci k = some (.int y)) (hn : narrow ty (.int x) = .int x) (hf : fits ty (.int x) = true) (kk : X h M (pc + 3) loc st (sF S o (upd (S.1 o) k x)) Q) : X h M pc loc (.int x :: .ref o :: st) S Q := by
  intro p l e R s m args below meth c D ad ca H0 H locs ls QQ hC hL hP hS hr
  obtain ⟨hx, hb, hml, hown, hts, hK, inj, hfr, hlo⟩ := (show _ from hC)
  obtain ⟨tpl, t, e1, e2, e3⟩ := am_gf_spec hv (by simp)
  obtain ⟨C, T, N, tys, hc, hk, hin, hln, hty, hnm, hfin, rfl⟩ := hl
  have he : (am_world h ad ca S)[o]? = some (ad o, .inr (ci, am_fs ad S o tpl)) := am_world_get e1
  obtain ⟨y', rfl⟩ : ∃ y', t = .int y' := by cases t <;> simp [am_rd] at e3 <;> exact ⟨_, rfl⟩
  have hw : am_world h ad ca (sF S o (upd (S.1 o) k x)) = (am_world h ad ca S).set o (ad o, .inr (ci, (am_fs ad S o tpl).set k (.int x))) := by
    rw [am_world_set e1 (fun j sh hj => am_cell_sF j sh hj)]
    simp only [am_cell, am_fs_sF e2]
  have hlen : k < (am_fs ad S o tpl).length := by simp [am_fs]; exact (List.getElem?_eq_some_iff.mp e2).1
  have hgo := fun (H1 : Heap) (locs1 : List Loc) (hP1 : va_P D vwCl ((am_world h ad ca S).set o (ad o, .inr (ci, (am_fs ad S o tpl).set k (.int x)))) H1) (_ : va_D (am_A h ad) ((am_world h ad ca S).set o (ad o, .inr (ci, (am_fs ad S o tpl).set k (.int x))))) (hS1 : va_S (am_A h ad) H0 H1 locs1) => kk p l e R s m args below meth c D ad ca H0 H1 locs1 ls QQ hC hL (by rw [hw]; exact hP1) hS1 hr
  rcases hln with hln | ⟨host, hln⟩
  · exact va_put hx hb (hts.us hin args) (fun _ z => z) tys hty hnm hown hK hP (am_D ca S inj) hS o he hc k hk (hts.at hln rfl args) (fun _ z => z) hfin (hty k hk) hn hf hlen hd hgo
  · exact va_putN hx hb (hts.us hin args) (fun _ z => z) tys hty hnm hown hK hP (am_D ca S inj) hS o he hc k hk (hts.at hln rfl args) (fun _ z => z) hfin (hty k hk) hn hf hlen hd hgo
theorem x_putl {o idx ci k : Nat} {x y : Int64} (hd : decode M.2.1 pc = .ok (.putfield idx, 3)) (hl : am_FP M.1.cls idx ci k .long) (hv : am_gf h S o ci k = some (.long y)) (kk : X h M (pc + 3) loc st (sG S o (vp_updL (S.2.2.1 o) k x)) Q) : X h M pc loc (.long x :: .ref o :: st) S Q := by
  intro p l e R s m args below meth c D ad ca H0 H locs ls QQ hC hL hP hS hr
  obtain ⟨hx, hb, hml, hown, hts, hK, inj, hfr, hlo⟩ := (show _ from hC)
  obtain ⟨tpl, t, e1, e2, e3⟩ := am_gf_spec hv (by simp)
  obtain ⟨C, T, N, tys, hc, hk, hin, hln, hty, hnm, hfin, hlo2⟩ := hl
  have he : (am_world h ad ca S)[o]? = some (ad o, .inr (ci, am_fs ad S o tpl)) := am_world_get e1
  obtain ⟨y', rfl⟩ : ∃ y', t = .long y' := by cases t <;> simp [am_rd] at e3 <;> exact ⟨_, rfl⟩
  have hw : am_world h ad ca (sG S o (vp_updL (S.2.2.1 o) k x)) = (am_world h ad ca S).set o (ad o, .inr (ci, (am_fs ad S o tpl).set k (.long x))) := by
    rw [am_world_set e1 (fun j sh hj => am_cell_sG j sh hj)]
    simp only [am_cell, am_fs_sG e2]
  have hlen : k < (am_fs ad S o tpl).length := by simp [am_fs]; exact (List.getElem?_eq_some_iff.mp e2).1
  have hgo := fun (H1 : Heap) (locs1 : List Loc) (hP1 : va_P D vwCl ((am_world h ad ca S).set o (ad o, .inr (ci, (am_fs ad S o tpl).set k (.long x)))) H1) (_ : va_D (am_A h ad) ((am_world h ad ca S).set o (ad o, .inr (ci, (am_fs ad S o tpl).set k (.long x))))) (hS1 : va_S (am_A h ad) H0 H1 locs1) => kk p l e R s m args below meth c D ad ca H0 H1 locs1 ls QQ hC hL (by rw [hw]; exact hP1) hS1 hr
  have hd1 : parseFieldDescriptor (T k).2.2.1 = some .long := by rw [← hlo2]; exact hty k hk
  rcases hln with hln | ⟨host, hln⟩
  · exact va_put hx hb (hts.us hin args) (fun _ z => z) tys hty hnm hown hK hP (am_D ca S inj) hS o he hc k hk (hts.at hln rfl args) (fun _ z => z) hfin hd1 rfl rfl hlen hd hgo
  · exact va_putN hx hb (hts.us hin args) (fun _ z => z) tys hty hnm hown hK hP (am_D ca S inj) hS o he hc k hk (hts.at hln rfl args) (fun _ z => z) hfin hd1 rfl rfl hlen hd hgo
theorem x_iald {ix n : Nat} {ids : List Nat} {i : Int32} (hd : decode M.2.1 pc = .ok (.iaload, 1)) (hs : am_shp h ix = some (.inl (n, .int, ids))) (hin : vp_in i n) (kk : X h M (pc + 1) loc (.int (S.2.1 ix i.toNatClampNeg) :: st) S Q) : X h M pc loc (.int i :: .ref ix :: st) S Q := by
  intro p l e R s m args below meth c D ad ca H0 H locs ls QQ hC hL hP hS hr
  obtain ⟨hx, hb, hml, hown, hts, hK, inj, hfr, hlo⟩ := (show _ from hC)
  rw [am_shp_get] at hs
  obtain ⟨t0, ht⟩ := am_tys_get (ca := ca) hs
  exact va_iald hx hb hK hP ix t0 (am_world_get hs) ht hin hd (kk p l e R s m args below meth c D ad ca H0 H locs ls QQ hC hL hP hS hr)
theorem x_bald {ix n : Nat} {ids : List Nat} {i : Int32} (hd : decode M.2.1 pc = .ok (.baload, 1)) (hs : am_shp h ix = some (.inl (n, .byte, ids))) (hin : vp_in i n) (kk : X h M (pc + 1) loc (.int (S.2.1 ix i.toNatClampNeg) :: st) S Q) : X h M pc loc (.int i :: .ref ix :: st) S Q := by
  intro p l e R s m args below meth c D ad ca H0 H locs ls QQ hC hL hP hS hr
  obtain ⟨hx, hb, hml, hown, hts, hK, inj, hfr, hlo⟩ := (show _ from hC)
  rw [am_shp_get] at hs
  obtain ⟨t0, ht⟩ := am_tys_get (ca := ca) hs
  exact va_bald hx hb hK hP ix t0 (am_world_get hs) ht hin hd (kk p l e R s m args below meth c D ad ca H0 H locs ls QQ hC hL hP hS hr)
theorem x_zald {ix n : Nat} {ids : List Nat} {i : Int32} (hd : decode M.2.1 pc = .ok (.baload, 1)) (hs : am_shp h ix = some (.inl (n, .boolean, ids))) (hin : vp_in i n) (kk : X h M (pc + 1) loc (.int (S.2.1 ix i.toNatClampNeg) :: st) S Q) : X h M pc loc (.int i :: .ref ix :: st) S Q := by
  intro p l e R s m args below meth c D ad ca H0 H locs ls QQ hC hL hP hS hr
  obtain ⟨hx, hb, hml, hown, hts, hK, inj, hfr, hlo⟩ := (show _ from hC)
  rw [am_shp_get] at hs
  obtain ⟨t0, ht⟩ := am_tys_get (ca := ca) hs
  exact va_zald hx hb hK hP ix t0 (am_world_get hs) ht hin hd (kk p l e R s m args below meth c D ad ca H0 H locs ls QQ hC hL hP hS hr)
theorem x_lald {ix n : Nat} {ids : List Nat} {i : Int32} (hd : decode M.2.1 pc = .ok (.laload, 1)) (hs : am_shp h ix = some (.inl (n, .long, ids))) (hin : vp_in i n) (kk : X h M (pc + 1) loc (.long (S.2.2.2 ix i.toNatClampNeg) :: st) S Q) : X h M pc loc (.int i :: .ref ix :: st) S Q := by
  intro p l e R s m args below meth c D ad ca H0 H locs ls QQ hC hL hP hS hr
  obtain ⟨hx, hb, hml, hown, hts, hK, inj, hfr, hlo⟩ := (show _ from hC)
  rw [am_shp_get] at hs
  obtain ⟨t0, ht⟩ := am_tys_get (ca := ca) hs
  exact va_lald hx hb hK hP ix t0 (am_world_get hs) ht hin hd (kk p l e R s m args below meth c D ad ca H0 H locs ls QQ hC hL hP hS hr)
theorem x_aald {ix n r : Nat} {C : String} {ids : List Nat} {i : Int32} (hd : decode M.2.1 pc = .ok (.aaload, 1)) (hs : am_shp h ix = some (.inl (n, .object C, ids))) (hin : vp_in i n) (hi : ids[i.toNatClampNeg]? = some r) (kk : X h M (pc + 1) loc (.ref r :: st) S Q) : X h M pc loc (.int i :: .ref ix :: st) S Q := by
  intro p l e R s m args below meth c D ad ca H0 H locs ls QQ hC hL hP hS hr
  obtain ⟨hx, hb, hml, hown, hts, hK, inj, hfr, hlo⟩ := (show _ from hC)
  rw [am_shp_get] at hs
  obtain ⟨t0, ht⟩ := am_tys_get (ca := ca) hs
  refine va_aldq hx hb hK hP ix t0 (am_world_get hs) ht hin hd ?_
  rw [hi]
  exact kk p l e R s m args below meth c D ad ca H0 H locs ls QQ hC hL hP hS hr
theorem x_alen {ix n : Nat} {ty : FieldType} {ids : List Nat} (hd : decode M.2.1 pc = .ok (.arraylength, 1)) (hs : am_shp h ix = some (.inl (n, ty, ids))) (kk : X h M (pc + 1) loc (.int (Int32.ofNat n) :: st) S Q) : X h M pc loc (.ref ix :: st) S Q := by
  intro p l e R s m args below meth c D ad ca H0 H locs ls QQ hC hL hP hS hr
  obtain ⟨hx, hb, hml, hown, hts, hK, inj, hfr, hlo⟩ := (show _ from hC)
  rw [am_shp_get] at hs
  obtain ⟨t0, ht⟩ := am_tys_get (ca := ca) hs
  exact va_alen hx hb hK hP ix t0 (am_world_get hs) ht rfl hd (kk p l e R s m args below meth c D ad ca H0 H locs ls QQ hC hL hP hS hr)
theorem x_iast {ix n : Nat} {ids : List Nat} {i x : Int32} (hd : decode M.2.1 pc = .ok (.iastore, 1)) (hs : am_shp h ix = some (.inl (n, .int, ids))) (hin : vp_in i n) (kk : X h M (pc + 1) loc st (sA S ix (upd (S.2.1 ix) i.toNatClampNeg (x))) Q) : X h M pc loc (.int x :: .int i :: .ref ix :: st) S Q := by
  intro p l e R s m args below meth c D ad ca H0 H locs ls QQ hC hL hP hS hr
  obtain ⟨hx, hb, hml, hown, hts, hK, inj, hfr, hlo⟩ := (show _ from hC)
  rw [am_shp_get] at hs
  obtain ⟨t0, ht⟩ := am_tys_get (ca := ca) hs
  refine va_iast hx hb hK hP (am_D ca S inj) hS ix t0 (am_world_get hs) ht hin hd (fun H1 locs1 hP1 _ hS1 => ?_)
  refine kk p l e R s m args below meth c D ad ca H0 H1 locs1 ls QQ hC hL ?_ hS1 hr
  rw [am_world_set hs (fun j sh hj => am_cell_sA j sh hj)]
  simpa only [am_cell, am_arr, sA, va_up_s] using hP1
theorem x_bast {ix n : Nat} {ids : List Nat} {i x : Int32} (hd : decode M.2.1 pc = .ok (.bastore, 1)) (hs : am_shp h ix = some (.inl (n, .byte, ids))) (hin : vp_in i n) (kk : X h M (pc + 1) loc st (sA S ix (upd (S.2.1 ix) i.toNatClampNeg (vp_nar .byte x))) Q) : X h M pc loc (.int x :: .int i :: .ref ix :: st) S Q := by
  intro p l e R s m args below meth c D ad ca H0 H locs ls QQ hC hL hP hS hr
  obtain ⟨hx, hb, hml, hown, hts, hK, inj, hfr, hlo⟩ := (show _ from hC)
  rw [am_shp_get] at hs
  obtain ⟨t0, ht⟩ := am_tys_get (ca := ca) hs
  refine va_bast hx hb hK hP (am_D ca S inj) hS ix t0 (am_world_get hs) ht hin hd (fun H1 locs1 hP1 _ hS1 => ?_)
  refine kk p l e R s m args below meth c D ad ca H0 H1 locs1 ls QQ hC hL ?_ hS1 hr
  rw [am_world_set hs (fun j sh hj => am_cell_sA j sh hj)]
  simpa only [am_cell, am_arr, sA, va_up_s] using hP1
theorem x_zast {ix n : Nat} {ids : List Nat} {i x : Int32} (hd : decode M.2.1 pc = .ok (.bastore, 1)) (hs : am_shp h ix = some (.inl (n, .boolean, ids))) (hin : vp_in i n) (kk : X h M (pc + 1) loc st (sA S ix (upd (S.2.1 ix) i.toNatClampNeg (vp_nar .boolean x))) Q) : X h M pc loc (.int x :: .int i :: .ref ix :: st) S Q := by
  intro p l e R s m args below meth c D ad ca H0 H locs ls QQ hC hL hP hS hr
  obtain ⟨hx, hb, hml, hown, hts, hK, inj, hfr, hlo⟩ := (show _ from hC)
  rw [am_shp_get] at hs
  obtain ⟨t0, ht⟩ := am_tys_get (ca := ca) hs
  refine va_zast hx hb hK hP (am_D ca S inj) hS ix t0 (am_world_get hs) ht hin hd (fun H1 locs1 hP1 _ hS1 => ?_)
  refine kk p l e R s m args below meth c D ad ca H0 H1 locs1 ls QQ hC hL ?_ hS1 hr
  rw [am_world_set hs (fun j sh hj => am_cell_sA j sh hj)]
  simpa only [am_cell, am_arr, sA, va_up_s] using hP1
theorem x_last {ix n : Nat} {ids : List Nat} {i : Int32} {x : Int64} (hd : decode M.2.1 pc = .ok (.lastore, 1)) (hs : am_shp h ix = some (.inl (n, .long, ids))) (hin : vp_in i n) (kk : X h M (pc + 1) loc st (sL S ix (vp_updL (S.2.2.2 ix) i.toNatClampNeg x)) Q) : X h M pc loc (.long x :: .int i :: .ref ix :: st) S Q := by
  intro p l e R s m args below meth c D ad ca H0 H locs ls QQ hC hL hP hS hr
  obtain ⟨hx, hb, hml, hown, hts, hK, inj, hfr, hlo⟩ := (show _ from hC)
  rw [am_shp_get] at hs
  obtain ⟨t0, ht⟩ := am_tys_get (ca := ca) hs
  refine va_last hx hb hK hP (am_D ca S inj) hS ix t0 (am_world_get hs) ht hin hd (fun H1 locs1 hP1 _ hS1 => ?_)
  refine kk p l e R s m args below meth c D ad ca H0 H1 locs1 ls QQ hC hL ?_ hS1 hr
  rw [am_world_set hs (fun j sh hj => am_cell_sL j sh hj)]
  simpa only [am_cell, am_arr, sL, va_up_s] using hP1
theorem x_copy {i0 i1 n0 n1 idx : Nat} {ids0 ids1 : List Nat} {sp dp n : Int32} (hd : decode M.2.1 pc = .ok (.invokestatic idx, 3)) (hlink : Cond.methodLink M.1.cls idx arraycopyName ∈ lw_tbl) (hnat : Cond.native arraycopyName ∈ lw_tbl) (hstat : Cond.static arraycopyName ∈ lw_tbl) (hini : Cond.initialized "java/lang/System" ∈ lw_tbl)
    (hs0 : am_shp h i0 = some (.inl (n0, .int, ids0))) (hs1 : am_shp h i1 = some (.inl (n1, .int, ids1))) (h1 : ¬ sp < 0) (h2 : ¬ dp < 0) (h3 : ¬ n < 0) (h4 : sp.toNatClampNeg + n.toNatClampNeg ≤ n0) (h5 : dp.toNatClampNeg + n.toNatClampNeg ≤ n1) (hf1 : 1 ≤ M.2.2.2.2.1) (hl1 : (st.map fun v => v.category).sum + (nativeFrameWords "java/lang/System" "arraycopy" 5 + 11) ≤ M.2.2.2.2.2)
    (kk : X h M (pc + 3) loc st (sA S i1 (va_cpy (S.2.1 i0) (S.2.1 i1) sp.toNatClampNeg dp.toNatClampNeg n.toNatClampNeg)) Q) : X h M pc loc (.int n :: .int dp :: .ref i1 :: .int sp :: .ref i0 :: st) S Q := by
  intro p l e R s m args below meth c D ad ca H0 H locs ls QQ hC hL hP hS hr
  obtain ⟨hx, hb, hml, hown, hts, hK, inj, hfr, hlo⟩ := (show _ from hC)
  rw [am_shp_get] at hs0 hs1
  obtain ⟨t0, ht0⟩ := am_tys_get (ca := ca) hs0
  obtain ⟨t1, ht1⟩ := am_tys_get (ca := ca) hs1
  have hst : ((st.map (am_cv ad)).map fun v => v.category).sum = (st.map fun v => v.category).sum := by
    rw [List.map_map]
    congr 2
    funext v
    exact am_cv_cat ad v
  refine va_copyi hx hb (hml.trans hL.1.symm) hown (hts.at hlink rfl args) (hts.at hnat rfl args) (hts.at hstat rfl args) (hts.at hini rfl args) hK hP (am_D ca S inj) hS i0 i1 t0 t1 (am_world_get hs0) (am_world_get hs1) ht0 ht1 rfl h1 h2 h3 h4 h5 (fun _ _ => rfl) (Nat.le_trans hf1 hfr) (by rw [hst]; exact Nat.le_trans hl1 hlo) hd (fun H1' locs1 hP1 _ hS1 => ?_)
  refine kk p l e R s m args below meth c D ad ca H0 H1' locs1 ls QQ hC hL ?_ hS1 hr
  rw [am_world_set hs1 (fun j sh hj => am_cell_sA j sh hj)]
  simpa only [am_cell, am_arr, sA, va_up_s] using hP1
end XR
end
section
/-! CALLS: a method's X from its entry is its contract, at every call -/
def am_nul : Nat → List Value
  | 0 => []
  | n + 1 => .null :: am_nul n
def am_ent : Nat → List Value → List Value
  | n, [] => am_nul n
  | n, .long x :: l => .long x :: .null :: am_ent (n - 2) l
  | n, v :: l => v :: am_ent (n - 1) l
def am_wd : List Value → Nat
  | [] => 0
  | v :: l => v.category + am_wd l
def am_push : Option Value → List Value → List Value
  | none, l => l
  | some v, l => v :: l
def am_kind (h : List amSh) (o : Nat) : Option Nat :=
  match am_shp h o with
  | some (.inr (c, _)) => some c
  | _ => none
def am_pk (v : Value) : Bool := match v with
  | .double _ => false
  | _ => true
def am_ws (M : amM) : List Cond := [Cond.code M.1 M.2.1 M.2.2.1 M.2.2.2.1]
def am_rm (M : amM) : Room := { frames := M.2.2.2.2.1, cells := 0, slots := 0, locals := M.2.2.2.2.2 }
def am_Pc (h : List amSh) (D : va_G) (ad : Nat → Nat) (ca : Nat → ClassId) (S : amS) (av : List Value) : Array Value → State → Prop := va_Pc (av.map (am_cv ad)) (fun U => va_P D vwCl (am_world h ad ca S) U.heap ∧ va_K D vwCl (am_tys h ca) U ∧ am_T U)
def am_Qc (h : List amSh) (D : va_G) (ad : Nat → Nat) (ca : Nat → ClassId) (Q : Option Value → amS → Prop) : Array Value → State → Outcome → State → Prop := fun _ st oc t => (∃ (v : Option Value) (S' : amS), oc = .returned (v.map (am_cv ad)) ∧ Q v S' ∧ va_P D vwCl (am_world h ad ca S') t.heap) ∧ va_F (am_A h ad) st t
theorem am_nul_get (n i : Nat) {v : Value} (h : (am_nul n)[i]? = some v) : v = .null := by
  induction n generalizing i with
  | zero => simp [am_nul] at h
  | succ n ih =>
    cases i with
    | zero => simp [am_nul] at h; exact h.symm
    | succ i => rw [am_nul, List.getElem?_cons_succ] at h; exact ih i h
theorem am_nul_len (n : Nat) : (am_nul n).length = n := by
  induction n with
  | zero => rfl
  | succ n ih => simp [am_nul, ih]
theorem am_ent_len : ∀ (av : List Value) (n : Nat), av.all am_pk = true → am_wd av ≤ n → (am_ent n av).length = n := by
  intro av
  induction av with
  | nil => intro n _ _; exact am_nul_len n
  | cons v l ih =>
    intro n hp h
    simp only [List.all_cons, Bool.and_eq_true] at hp
    cases v with
    | long x =>
      simp only [am_wd, Value.category] at h
      simp only [am_ent, List.length_cons, ih (n - 2) hp.2 (by omega)]
      omega
    | double x => simp [am_pk] at hp
    | _ =>
      simp only [am_wd, Value.category] at h
      simp only [am_ent, List.length_cons, ih (n - 1) hp.2 (by omega)]
      omega
theorem am_ent_mem (ad : Nat → Nat) : ∀ (av : List Value) (n j i : Nat) (v : Value), av.all am_pk = true → (am_ent n av)[i]? = some v → v ≠ .null → (j + i, am_cv ad v) ∈ lv_args j (av.map (am_cv ad)) := by
  intro av
  induction av with
  | nil => intro n j i v _ h hv; exact absurd (am_nul_get n i h) hv
  | cons u l ih =>
    intro n j i v hp h hv
    simp only [List.all_cons, Bool.and_eq_true] at hp
    have key : ∀ (n' : Nat), u.category = 1 → (u :: am_ent n' l)[i]? = some v → (j + i, am_cv ad v) ∈ lv_args j ((u :: l).map (am_cv ad)) := by
      intro n' hc hi
      simp only [List.map_cons, lv_args, am_cv_cat, hc]
      cases i with
      | zero =>
        simp only [List.getElem?_cons_zero, Option.some.injEq] at hi
        subst hi
        exact List.mem_cons_self
      | succ i =>
        rw [List.getElem?_cons_succ] at hi
        have := ih n' (j + 1) i v hp.2 hi hv
        rw [show j + 1 + i = j + (i + 1) by omega] at this
        exact List.mem_cons_of_mem _ (by simpa using this)
    cases u with
    | long x =>
      simp only [am_ent] at h
      simp only [List.map_cons, lv_args, am_cv_cat, Value.category]
      cases i with
      | zero =>
        simp only [List.getElem?_cons_zero, Option.some.injEq] at h
        subst h
        exact List.mem_cons_self
      | succ i =>
        cases i with
        | zero =>
          simp at h
          exact absurd h.symm hv
        | succ i =>
          rw [List.getElem?_cons_succ, List.getElem?_cons_succ] at h
          have := ih (n - 2) (j + 2) i v hp.2 h hv
          rw [show j + 2 + i = j + (i + 1 + 1) by omega] at this
          exact List.mem_cons_of_mem _ this
    | double x => simp [am_pk] at hp
    | _ => exact key (n - 1) rfl h
theorem am_sl_len (ad : Nat → Nat) : ∀ (av : List Value), (lg_sl (av.map (am_cv ad))).length = am_wd av := by
  intro av
  induction av with
  | nil => rfl
  | cons v l ih =>
    simp only [lg_sl, List.map_cons, List.flatMap_cons, List.length_append, am_cv_cat, am_wd] at ih ⊢
    rw [ih]
    rcases lv_cat v with hc | hc <;> simp [hc]
theorem am_L_ent {ad : Nat → Nat} {av : List Value} {n : Nat} (hp : av.all am_pk = true) (hw : am_wd av ≤ n) : am_L ad n (am_ent n av) ((lg_sl (av.map (am_cv ad)) ++ List.replicate (n - (lg_sl (av.map (am_cv ad))).length) Slot.unset).toArray) := by
  have hl := lv_entry (av.map (am_cv ad)) (n := n) (by rw [am_sl_len]; exact hw)
  refine ⟨hl.1, hl.2.1, am_ent_len av n hp hw, fun i v hi hv => ?_⟩
  have := hl.2.2 _ (am_ent_mem ad av n 0 i v hp hi hv)
  simpa using this
theorem am_met {h : List amSh} {M : amM} {av : List Value} {S : amS} {Q : Option Value → amS → Prop} (hX : X h M 0 (am_ent M.2.2.1 av) [] S Q) (hy : plainName M.1.cls = true) (hp : av.all am_pk = true) (hw : am_wd av ≤ M.2.2.1) (l : Launch) (D : va_G) (ad : Nat → Nat) (ca : Nat → ClassId) (inj : ∀ i j, i < h.length → j < h.length → ad i = ad j → i = j) :
    Met l M.1 (am_ws M) (am_rm M) (am_Pc h D ad ca S av) (am_Qc h D ad ca Q) 0 0 (am_A h ad) := by
  refine Met.ofW (cc := M.2.1) (maxL := M.2.2.1) (ret := M.2.2.2.1) hy rfl ?_
  intro p e s m args below meth c s₁ B hml hv
  obtain ⟨rfl, hP, hK, hts⟩ := hv
  have hown : s.vm.findClass M.1.cls = some m.cls := findClass_of_methodNamed B.named
  have hlocks := B.notSynchronized
  have hx := B.exec
  have hb := B.bytes
  have hr := B.returns
  rw [lg_entry_eq]
  refine hX p l e _ s m _ below meth c D ad ca s.heap s.heap [] _ _ ⟨hx, hb, hml, hown, hts, hK, inj, Nat.le_refl _, Nat.le_refl _⟩ (am_L_ent hp hw) hP va_S.rf ?_
  intro v S' H' locs' pc' ls' hq hR hP' hS'
  have hend : ∀ t : State, t.heap = H' → s.WarmedH t.vm → am_Qc h D ad ca Q (av.map (am_cv ad)).toArray s (.returned (v.map (am_cv ad))) t := fun t ht _ => ⟨⟨v, S', rfl, hq, by rw [ht]; exact hP'⟩, hS'.F ht⟩
  cases v with
  | none => exact W.vret hx hb (hr.trans hR.1) hend hS'.2.2 hR.2
  | some v =>
    cases v with
    | int x =>
      obtain ⟨ty, h1, h2, h3⟩ := hR
      exact W.zret hx hb (hr.trans h1) h2 hend hS'.2.2 h3
    | long x =>
      obtain ⟨h1, h2⟩ := hR
      exact W.lret hx hb (hr.trans h1) hend hS'.2.2 h2
    | ref x =>
      obtain ⟨rt, h1, h2, h3⟩ := hR
      exact W.aret hx hb (hr.trans h1) h2 (Or.inr ⟨_, rfl⟩) hend hS'.2.2 h3
    | _ => exact hR.elim
theorem am_blind {h : List amSh} {D : va_G} {ad : Nat → Nat} {ca : Nat → ClassId} {S : amS} {av : List Value} : FrameBlind (am_Pc h D ad ca S av) := by
  intro a U g mk q
  obtain ⟨q0, qP, qK, qT⟩ := q
  exact ⟨q0, qP, va_K.moved (u := U) (U := U.calling g mk a) (Vm.Alike.refl U.vm) qK, qT.same rfl⟩
theorem am_pre {h : List amSh} {D : va_G} {ad : Nat → Nat} {ca : Nat → ClassId} {S : amS} {av : List Value} {s : State} {H : Heap} (hP : va_P D vwCl (am_world h ad ca S) H) (hK : va_K D vwCl (am_tys h ca) s) (hT : am_T s) : PreS s H (am_Pc h D ad ca S av) (av.map (am_cv ad)) :=
  ⟨am_blind, fun U hU hW => ⟨rfl, by rw [hU]; exact hP, va_K.moved hW.alike hK, hT.warm hW⟩⟩
/-- behind a call, of any answer -/
theorem am_after {p : Program} {l : Launch} {e : Env} {R : Room} {s : State} {m : MethodId} {args : Array Value} {below : List Frame} {meth : Method} {c : Code} {H : Heap} {locs : List Loc} {cells slots : Nat} {QQ : State → Prop} {pc : Nat} {ls : Array Slot} {rest st0 : List Value} {a : Array Value} {A0 : Nat → Prop} {H0 : Heap} {h : List amSh} {D : va_G} {ad : Nat → Nat} {ca : Nat → ClassId} {Q : Option Value → amS → Prop}
    (hr : va_Run p l e R s m args below meth c H locs cells slots 0 0 (F0 m pc ls st0) rest (am_Qc h D ad ca Q a) (am_A h ad)) (hS : va_S A0 H0 H locs) (hA : ∀ q, am_A h ad q → A0 q)
    (kk : ∀ (v : Option Value) (S' : amS) (H1 : Heap) (locs1 : List Loc), Q v S' → va_P D vwCl (am_world h ad ca S') H1 → H.size ≤ H1.size → (∀ q : Nat, q < H.size → ¬ am_A h ad q → H1[q]? = H[q]?) → va_S A0 H0 H1 locs1 → W p l e R s m args below meth c H1 locs1 cells slots QQ (F0 m (pc + 3) ls ((v.map (am_cv ad)).toList ++ rest))) : W p l e R s m args below meth c H locs cells slots QQ (F0 m pc ls st0) := by
  intro T hT X0
  obtain ⟨v, st₀, t, T', L, h0, X', hL, e1, e2, ⟨⟨v1, S', hv, hp, hb⟩, hz, hk⟩, st⟩ := hr T hT X0
  cases hv
  rw [h0] at hz hk
  obtain ⟨t2, a1, b1⟩ := kk v1 S' T'.heap (locs ++ L) hp (by rw [e1]; exact hb) (by rw [e1]; exact hz) (fun q h1 h2 => by rw [e1]; exact hk q h1 h2)
    ⟨Nat.le_trans hS.1 (by rw [e1]; exact hz), fun q h1 h2 => by rw [e1, hk q (Nat.lt_of_lt_of_le h1 hS.1) (fun z => h2 (hA q z))]; exact hS.2.1 q h1 h2, fun q hq => by
      rcases List.mem_append.mp hq with h | h
      · exact hS.2.2 q h
      · exact hA _ (hL q h)⟩ T' rfl X'
  exact ⟨t2, st t2 a1, b1⟩
/-- the words of a method that is called: of an object of kind ci, with n arguments; static -/
def am_NV (N : amM) (ci n : Nat) : Prop := plainName N.1.cls = true ∧ Cond.code N.1 N.2.1 N.2.2.1 N.2.2.2.1 ∈ lw_tbl ∧ Cond.initialized N.1.cls ∈ lw_tbl ∧ (N.1.cls ≠ "java/lang/invoke/MethodHandle" ∧ N.1.cls ≠ "java/lang/invoke/VarHandle" ∧ (parseMethodDescriptor N.1.desc).map (fun d => d.parameters.length) = some n) ∧ Cond.instanceMethod N.1 ∈ lw_tbl ∧ Cond.selects N.1.cls N.1 N.1 ∈ lw_tbl ∧ ∃ (T : u_T) (k : Nat), vwCl[ci]? = some (N.1.cls, T, k)
def am_NS (N : amM) (n : Nat) : Prop := plainName N.1.cls = true ∧ Cond.code N.1 N.2.1 N.2.2.1 N.2.2.2.1 ∈ lw_tbl ∧ Cond.initialized N.1.cls ∈ lw_tbl ∧ (N.1.cls ≠ "java/lang/invoke/MethodHandle" ∧ N.1.cls ≠ "java/lang/invoke/VarHandle" ∧ (parseMethodDescriptor N.1.desc).map (fun d => d.parameters.length) = some n) ∧ Cond.static N.1 ∈ lw_tbl
def am_ok (M N : amM) (av rest : List Value) : Bool := Nat.ble (N.2.2.2.2.1 + 1) M.2.2.2.2.1 && (Nat.ble (8 + (N.2.2.1 + 11) + N.2.2.2.2.2) M.2.2.2.2.2 && (Nat.ble (am_wd rest) 8 && (Nat.ble (am_wd av) N.2.2.1 && av.all am_pk)))
theorem am_ok_spec {M N : amM} {av rest : List Value} (h : am_ok M N av rest = true) : N.2.2.2.2.1 + 1 ≤ M.2.2.2.2.1 ∧ 8 + (N.2.2.1 + 11) + N.2.2.2.2.2 ≤ M.2.2.2.2.2 ∧ am_wd rest ≤ 8 ∧ am_wd av ≤ N.2.2.1 ∧ av.all am_pk = true := by
  simp only [am_ok, Bool.and_eq_true] at h
  exact ⟨Nat.le_of_ble_eq_true h.1, Nat.le_of_ble_eq_true h.2.1, Nat.le_of_ble_eq_true h.2.2.1, Nat.le_of_ble_eq_true h.2.2.2.1, h.2.2.2.2⟩
theorem am_wd_sum (ad : Nat → Nat) (l : List Value) : ((l.map (am_cv ad)).map fun v => v.category).sum = am_wd l := by
  induction l with
  | nil => rfl
  | cons v l ih => simp only [List.map_cons, List.sum_cons, am_cv_cat, ih, am_wd]
theorem am_goodIn (N : amM) : GoodIn (am_ws N) (am_ws N) := by
  intro w hw
  refine ⟨hw, Or.inl ?_⟩
  rw [List.mem_singleton.mp hw]
  rfl
theorem am_wsT {N : amM} {s : State} {args : Array Value} (hT : am_T s) (hc : Cond.code N.1 N.2.1 N.2.2.1 N.2.2.2.1 ∈ lw_tbl) : ∀ w ∈ am_ws N, w.before args s = true := by
  intro w hw
  rw [List.mem_singleton.mp hw]
  exact hT.at hc rfl args
theorem am_push_cv (ad : Nat → Nat) (v : Option Value) (rest : List Value) : (v.map (am_cv ad)).toList ++ rest.map (am_cv ad) = (am_push v rest).map (am_cv ad) := by cases v <;> rfl
section XC
variable {h : List amSh} {M N : amM} {pc idx n : Nat} {loc rest : List Value} {S : amS} {Q Q' : Option Value → amS → Prop}
theorem x_callV {o ci : Nat} (As : List Value) (hd : decode M.2.1 pc = .ok (.invokevirtual idx, 3)) (hl : Cond.methodLink M.1.cls idx N.1 ∈ lw_tbl) (hN : am_NV N ci n) (hs : am_kind h o = some ci) (hn : As.length = n) (hok : am_ok M N (.ref o :: As) rest = true) (hX : X h N 0 (am_ent N.2.2.1 (.ref o :: As)) [] S Q') (kk : ∀ v S', Q' v S' → X h M (pc + 3) loc (am_push v rest) S' Q) : X h M pc loc (As.reverse ++ .ref o :: rest) S Q := by
  intro p l e R s m args below meth c D ad ca H0 H locs ls QQ hC hL hP hS hr
  obtain ⟨hx, hb, hml, hown, hts, hK, inj, hfr, hlo⟩ := (show _ from hC)
  obtain ⟨hy, hcode, hini, hnm, hin, hsel, T, k, hcl⟩ := hN
  obtain ⟨o1, o2, o3, o4, o5⟩ := am_ok_spec hok
  have hM := am_met hX hy o5 o4 l D ad ca inj
  have hB : CallB R s args M.1.cls idx N.1 N.2.1 N.2.2.1 N.2.2.2.1 (am_ws N) (am_rm N) 0 0 n := callB_of n (am_wsT hts hcode) (am_goodIn N) rfl rfl rfl (hts.at hini rfl args) (hts.at hl rfl args) hnm ⟨Nat.le_trans o1 hfr, Nat.le_trans o2 hlo⟩
  obtain ⟨tpl, hsh⟩ : ∃ tpl, h[o]? = some (.inr (ci, tpl)) := by
    unfold am_kind at hs
    rw [am_shp_get] at hs
    cases e1 : h[o]? with
    | none => rw [e1] at hs; cases hs
    | some sh =>
      rw [e1] at hs
      cases sh with
      | inl a => cases hs
      | inr a => cases hs; exact ⟨a.2, rfl⟩
  have hpre : PreV s H N.1.cls (ad o) (am_Pc h D ad ca S (.ref o :: As)) (As.map (am_cv ad)) := ⟨am_blind, va_recv hK hP (ci := ci) (q0 := o) hcl (am_world_get hsh), (am_pre hP hK hts).2⟩
  have hrun := va_runV (As := As.map (am_cv ad)) (rest := rest.map (am_cv ad)) (g := F0 m pc ls ((As.reverse ++ .ref o :: rest).map (am_cv ad))) (locs := locs) (cells := 0) (slots := 0) (e := e) (below := below) (meth := meth) (Ts := []) ⟨hx, hb, hml, hown, fun _ z => absurd z List.not_mem_nil⟩ hM ⟨hB, hts.at hin rfl args, hts.at hsel rfl args⟩ hpre rfl (by rw [List.length_map]; exact hn) hL.1 (by simp [am_cv, List.map_append, List.map_reverse]) (lv_room (by rw [am_wd_sum]; exact o3)) hd ⟨Nat.zero_le _, Nat.zero_le _⟩
  refine am_after hrun hS (fun _ z => z) (fun v S' H1 locs1 hq hP1 _ _ hS1 => ?_)
  rw [am_push_cv]
  exact kk v S' hq p l e R s m args below meth c D ad ca H0 H1 locs1 ls QQ hC hL hP1 hS1 hr
theorem x_callS (As : List Value) (hd : decode M.2.1 pc = .ok (.invokestatic idx, 3)) (hl : Cond.methodLink M.1.cls idx N.1 ∈ lw_tbl) (hN : am_NS N n) (hn : As.length = n) (hok : am_ok M N As rest = true) (hX : X h N 0 (am_ent N.2.2.1 As) [] S Q') (kk : ∀ v S', Q' v S' → X h M (pc + 3) loc (am_push v rest) S' Q) : X h M pc loc (As.reverse ++ rest) S Q := by
  intro p l e R s m args below meth c D ad ca H0 H locs ls QQ hC hL hP hS hr
  obtain ⟨hx, hb, hml, hown, hts, hK, inj, hfr, hlo⟩ := (show _ from hC)
  obtain ⟨hy, hcode, hini, hnm, hst⟩ := hN
  obtain ⟨o1, o2, o3, o4, o5⟩ := am_ok_spec hok
  have hM := am_met hX hy o5 o4 l D ad ca inj
  have hB : CallB R s args M.1.cls idx N.1 N.2.1 N.2.2.1 N.2.2.2.1 (am_ws N) (am_rm N) 0 0 n := callB_of n (am_wsT hts hcode) (am_goodIn N) rfl rfl rfl (hts.at hini rfl args) (hts.at hl rfl args) hnm ⟨Nat.le_trans o1 hfr, Nat.le_trans o2 hlo⟩
  have hrun := va_runS (As := As.map (am_cv ad)) (rest := rest.map (am_cv ad)) (g := F0 m pc ls ((As.reverse ++ rest).map (am_cv ad))) (locs := locs) (cells := 0) (slots := 0) (e := e) (below := below) (meth := meth) (Ts := []) ⟨hx, hb, hml, hown, fun _ z => absurd z List.not_mem_nil⟩ hM ⟨hB, hts.at hst rfl args⟩ (am_pre hP hK hts) rfl (by rw [List.length_map]; exact hn) hL.1 (by simp [List.map_append, List.map_reverse]) (lv_room (by rw [am_wd_sum]; exact o3)) hd ⟨Nat.zero_le _, Nat.zero_le _⟩
  refine am_after hrun hS (fun _ z => z) (fun v S' H1 locs1 hq hP1 _ _ hS1 => ?_)
  rw [am_push_cv]
  exact kk v S' hq p l e R s m args below meth c D ad ca H0 H1 locs1 ls QQ hC hL hP1 hS1 hr
theorem x_v0 {o ci : Nat} (hd : decode M.2.1 pc = .ok (.invokevirtual idx, 3)) (hl : Cond.methodLink M.1.cls idx N.1 ∈ lw_tbl) (hN : am_NV N ci 0) (hs : am_kind h o = some ci) (hok : am_ok M N (.ref o :: []) rest = true) (hX : X h N 0 (am_ent N.2.2.1 (.ref o :: [])) [] S Q') (kk : ∀ v S', Q' v S' → X h M (pc + 3) loc (am_push v rest) S' Q) : X h M pc loc (.ref o :: rest) S Q := x_callV [] hd hl hN hs rfl hok hX kk
theorem x_v1 {o ci : Nat} {a0 : Value} (hd : decode M.2.1 pc = .ok (.invokevirtual idx, 3)) (hl : Cond.methodLink M.1.cls idx N.1 ∈ lw_tbl) (hN : am_NV N ci 1) (hs : am_kind h o = some ci) (hok : am_ok M N (.ref o :: [a0]) rest = true) (hX : X h N 0 (am_ent N.2.2.1 (.ref o :: [a0])) [] S Q') (kk : ∀ v S', Q' v S' → X h M (pc + 3) loc (am_push v rest) S' Q) : X h M pc loc (a0 :: .ref o :: rest) S Q := x_callV [a0] hd hl hN hs rfl hok hX kk
theorem x_v2 {o ci : Nat} {a0 a1 : Value} (hd : decode M.2.1 pc = .ok (.invokevirtual idx, 3)) (hl : Cond.methodLink M.1.cls idx N.1 ∈ lw_tbl) (hN : am_NV N ci 2) (hs : am_kind h o = some ci) (hok : am_ok M N (.ref o :: [a0, a1]) rest = true) (hX : X h N 0 (am_ent N.2.2.1 (.ref o :: [a0, a1])) [] S Q') (kk : ∀ v S', Q' v S' → X h M (pc + 3) loc (am_push v rest) S' Q) : X h M pc loc (a1 :: a0 :: .ref o :: rest) S Q := x_callV [a0, a1] hd hl hN hs rfl hok hX kk
theorem x_v3 {o ci : Nat} {a0 a1 a2 : Value} (hd : decode M.2.1 pc = .ok (.invokevirtual idx, 3)) (hl : Cond.methodLink M.1.cls idx N.1 ∈ lw_tbl) (hN : am_NV N ci 3) (hs : am_kind h o = some ci) (hok : am_ok M N (.ref o :: [a0, a1, a2]) rest = true) (hX : X h N 0 (am_ent N.2.2.1 (.ref o :: [a0, a1, a2])) [] S Q') (kk : ∀ v S', Q' v S' → X h M (pc + 3) loc (am_push v rest) S' Q) : X h M pc loc (a2 :: a1 :: a0 :: .ref o :: rest) S Q := x_callV [a0, a1, a2] hd hl hN hs rfl hok hX kk
theorem x_v4 {o ci : Nat} {a0 a1 a2 a3 : Value} (hd : decode M.2.1 pc = .ok (.invokevirtual idx, 3)) (hl : Cond.methodLink M.1.cls idx N.1 ∈ lw_tbl) (hN : am_NV N ci 4) (hs : am_kind h o = some ci) (hok : am_ok M N (.ref o :: [a0, a1, a2, a3]) rest = true) (hX : X h N 0 (am_ent N.2.2.1 (.ref o :: [a0, a1, a2, a3])) [] S Q') (kk : ∀ v S', Q' v S' → X h M (pc + 3) loc (am_push v rest) S' Q) : X h M pc loc (a3 :: a2 :: a1 :: a0 :: .ref o :: rest) S Q := x_callV [a0, a1, a2, a3] hd hl hN hs rfl hok hX kk
theorem x_v5 {o ci : Nat} {a0 a1 a2 a3 a4 : Value} (hd : decode M.2.1 pc = .ok (.invokevirtual idx, 3)) (hl : Cond.methodLink M.1.cls idx N.1 ∈ lw_tbl) (hN : am_NV N ci 5) (hs : am_kind h o = some ci) (hok : am_ok M N (.ref o :: [a0, a1, a2, a3, a4]) rest = true) (hX : X h N 0 (am_ent N.2.2.1 (.ref o :: [a0, a1, a2, a3, a4])) [] S Q') (kk : ∀ v S', Q' v S' → X h M (pc + 3) loc (am_push v rest) S' Q) : X h M pc loc (a4 :: a3 :: a2 :: a1 :: a0 :: .ref o :: rest) S Q := x_callV [a0, a1, a2, a3, a4] hd hl hN hs rfl hok hX kk
theorem x_s1 {a0 : Value} (hd : decode M.2.1 pc = .ok (.invokestatic idx, 3)) (hl : Cond.methodLink M.1.cls idx N.1 ∈ lw_tbl) (hN : am_NS N 1) (hok : am_ok M N [a0] rest = true) (hX : X h N 0 (am_ent N.2.2.1 [a0]) [] S Q') (kk : ∀ v S', Q' v S' → X h M (pc + 3) loc (am_push v rest) S' Q) : X h M pc loc (a0 :: rest) S Q := x_callS [a0] hd hl hN rfl hok hX kk
theorem x_s2 {a0 a1 : Value} (hd : decode M.2.1 pc = .ok (.invokestatic idx, 3)) (hl : Cond.methodLink M.1.cls idx N.1 ∈ lw_tbl) (hN : am_NS N 2) (hok : am_ok M N [a0, a1] rest = true) (hX : X h N 0 (am_ent N.2.2.1 [a0, a1]) [] S Q') (kk : ∀ v S', Q' v S' → X h M (pc + 3) loc (am_push v rest) S' Q) : X h M pc loc (a1 :: a0 :: rest) S Q := x_callS [a0, a1] hd hl hN rfl hok hX kk
theorem x_s3 {a0 a1 a2 : Value} (hd : decode M.2.1 pc = .ok (.invokestatic idx, 3)) (hl : Cond.methodLink M.1.cls idx N.1 ∈ lw_tbl) (hN : am_NS N 3) (hok : am_ok M N [a0, a1, a2] rest = true) (hX : X h N 0 (am_ent N.2.2.1 [a0, a1, a2]) [] S Q') (kk : ∀ v S', Q' v S' → X h M (pc + 3) loc (am_push v rest) S' Q) : X h M pc loc (a2 :: a1 :: a0 :: rest) S Q := x_callS [a0, a1, a2] hd hl hN rfl hok hX kk
theorem x_s4 {a0 a1 a2 a3 : Value} (hd : decode M.2.1 pc = .ok (.invokestatic idx, 3)) (hl : Cond.methodLink M.1.cls idx N.1 ∈ lw_tbl) (hN : am_NS N 4) (hok : am_ok M N [a0, a1, a2, a3] rest = true) (hX : X h N 0 (am_ent N.2.2.1 [a0, a1, a2, a3]) [] S Q') (kk : ∀ v S', Q' v S' → X h M (pc + 3) loc (am_push v rest) S' Q) : X h M pc loc (a3 :: a2 :: a1 :: a0 :: rest) S Q := x_callS [a0, a1, a2, a3] hd hl hN rfl hok hX kk
theorem x_v0d {o ci : Nat} {r : Value} {S1 : amS} (hd : decode M.2.1 pc = .ok (.invokevirtual idx, 3)) (hl : Cond.methodLink M.1.cls idx N.1 ∈ lw_tbl) (hN : am_NV N ci 0) (hs : am_kind h o = some ci) (hok : am_ok M N (.ref o :: []) rest = true) (hX : X h N 0 (am_ent N.2.2.1 (.ref o :: [])) [] S (fun v S' => v = some r ∧ S' = S1)) (kk : X h M (pc + 3) loc (r :: rest) S1 Q) : X h M pc loc (.ref o :: rest) S Q := x_v0 hd hl hN hs hok hX (fun v S' e => by obtain ⟨e1, e2⟩ := e; rw [e1, e2]; exact kk)
theorem x_v0n {o ci : Nat} {S1 : amS} (hd : decode M.2.1 pc = .ok (.invokevirtual idx, 3)) (hl : Cond.methodLink M.1.cls idx N.1 ∈ lw_tbl) (hN : am_NV N ci 0) (hs : am_kind h o = some ci) (hok : am_ok M N (.ref o :: []) rest = true) (hX : X h N 0 (am_ent N.2.2.1 (.ref o :: [])) [] S (fun v S' => v = none ∧ S' = S1)) (kk : X h M (pc + 3) loc rest S1 Q) : X h M pc loc (.ref o :: rest) S Q := x_v0 hd hl hN hs hok hX (fun v S' e => by obtain ⟨e1, e2⟩ := e; rw [e1, e2]; exact kk)
theorem x_v1d {o ci : Nat} {a0 : Value} {r : Value} {S1 : amS} (hd : decode M.2.1 pc = .ok (.invokevirtual idx, 3)) (hl : Cond.methodLink M.1.cls idx N.1 ∈ lw_tbl) (hN : am_NV N ci 1) (hs : am_kind h o = some ci) (hok : am_ok M N (.ref o :: [a0]) rest = true) (hX : X h N 0 (am_ent N.2.2.1 (.ref o :: [a0])) [] S (fun v S' => v = some r ∧ S' = S1)) (kk : X h M (pc + 3) loc (r :: rest) S1 Q) : X h M pc loc (a0 :: .ref o :: rest) S Q := x_v1 hd hl hN hs hok hX (fun v S' e => by obtain ⟨e1, e2⟩ := e; rw [e1, e2]; exact kk)
theorem x_v1n {o ci : Nat} {a0 : Value} {S1 : amS} (hd : decode M.2.1 pc = .ok (.invokevirtual idx, 3)) (hl : Cond.methodLink M.1.cls idx N.1 ∈ lw_tbl) (hN : am_NV N ci 1) (hs : am_kind h o = some ci) (hok : am_ok M N (.ref o :: [a0]) rest = true) (hX : X h N 0 (am_ent N.2.2.1 (.ref o :: [a0])) [] S (fun v S' => v = none ∧ S' = S1)) (kk : X h M (pc + 3) loc rest S1 Q) : X h M pc loc (a0 :: .ref o :: rest) S Q := x_v1 hd hl hN hs hok hX (fun v S' e => by obtain ⟨e1, e2⟩ := e; rw [e1, e2]; exact kk)
theorem x_v2d {o ci : Nat} {a0 a1 : Value} {r : Value} {S1 : amS} (hd : decode M.2.1 pc = .ok (.invokevirtual idx, 3)) (hl : Cond.methodLink M.1.cls idx N.1 ∈ lw_tbl) (hN : am_NV N ci 2) (hs : am_kind h o = some ci) (hok : am_ok M N (.ref o :: [a0, a1]) rest = true) (hX : X h N 0 (am_ent N.2.2.1 (.ref o :: [a0, a1])) [] S (fun v S' => v = some r ∧ S' = S1)) (kk : X h M (pc + 3) loc (r :: rest) S1 Q) : X h M pc loc (a1 :: a0 :: .ref o :: rest) S Q := x_v2 hd hl hN hs hok hX (fun v S' e => by obtain ⟨e1, e2⟩ := e; rw [e1, e2]; exact kk)
theorem x_v2n {o ci : Nat} {a0 a1 : Value} {S1 : amS} (hd : decode M.2.1 pc = .ok (.invokevirtual idx, 3)) (hl : Cond.methodLink M.1.cls idx N.1 ∈ lw_tbl) (hN : am_NV N ci 2) (hs : am_kind h o = some ci) (hok : am_ok M N (.ref o :: [a0, a1]) rest = true) (hX : X h N 0 (am_ent N.2.2.1 (.ref o :: [a0, a1])) [] S (fun v S' => v = none ∧ S' = S1)) (kk : X h M (pc + 3) loc rest S1 Q) : X h M pc loc (a1 :: a0 :: .ref o :: rest) S Q := x_v2 hd hl hN hs hok hX (fun v S' e => by obtain ⟨e1, e2⟩ := e; rw [e1, e2]; exact kk)
theorem x_v3d {o ci : Nat} {a0 a1 a2 : Value} {r : Value} {S1 : amS} (hd : decode M.2.1 pc = .ok (.invokevirtual idx, 3)) (hl : Cond.methodLink M.1.cls idx N.1 ∈ lw_tbl) (hN : am_NV N ci 3) (hs : am_kind h o = some ci) (hok : am_ok M N (.ref o :: [a0, a1, a2]) rest = true) (hX : X h N 0 (am_ent N.2.2.1 (.ref o :: [a0, a1, a2])) [] S (fun v S' => v = some r ∧ S' = S1)) (kk : X h M (pc + 3) loc (r :: rest) S1 Q) : X h M pc loc (a2 :: a1 :: a0 :: .ref o :: rest) S Q := x_v3 hd hl hN hs hok hX (fun v S' e => by obtain ⟨e1, e2⟩ := e; rw [e1, e2]; exact kk)
theorem x_v3n {o ci : Nat} {a0 a1 a2 : Value} {S1 : amS} (hd : decode M.2.1 pc = .ok (.invokevirtual idx, 3)) (hl : Cond.methodLink M.1.cls idx N.1 ∈ lw_tbl) (hN : am_NV N ci 3) (hs : am_kind h o = some ci) (hok : am_ok M N (.ref o :: [a0, a1, a2]) rest = true) (hX : X h N 0 (am_ent N.2.2.1 (.ref o :: [a0, a1, a2])) [] S (fun v S' => v = none ∧ S' = S1)) (kk : X h M (pc + 3) loc rest S1 Q) : X h M pc loc (a2 :: a1 :: a0 :: .ref o :: rest) S Q := x_v3 hd hl hN hs hok hX (fun v S' e => by obtain ⟨e1, e2⟩ := e; rw [e1, e2]; exact kk)
theorem x_v4d {o ci : Nat} {a0 a1 a2 a3 : Value} {r : Value} {S1 : amS} (hd : decode M.2.1 pc = .ok (.invokevirtual idx, 3)) (hl : Cond.methodLink M.1.cls idx N.1 ∈ lw_tbl) (hN : am_NV N ci 4) (hs : am_kind h o = some ci) (hok : am_ok M N (.ref o :: [a0, a1, a2, a3]) rest = true) (hX : X h N 0 (am_ent N.2.2.1 (.ref o :: [a0, a1, a2, a3])) [] S (fun v S' => v = some r ∧ S' = S1)) (kk : X h M (pc + 3) loc (r :: rest) S1 Q) : X h M pc loc (a3 :: a2 :: a1 :: a0 :: .ref o :: rest) S Q := x_v4 hd hl hN hs hok hX (fun v S' e => by obtain ⟨e1, e2⟩ := e; rw [e1, e2]; exact kk)
theorem x_v4n {o ci : Nat} {a0 a1 a2 a3 : Value} {S1 : amS} (hd : decode M.2.1 pc = .ok (.invokevirtual idx, 3)) (hl : Cond.methodLink M.1.cls idx N.1 ∈ lw_tbl) (hN : am_NV N ci 4) (hs : am_kind h o = some ci) (hok : am_ok M N (.ref o :: [a0, a1, a2, a3]) rest = true) (hX : X h N 0 (am_ent N.2.2.1 (.ref o :: [a0, a1, a2, a3])) [] S (fun v S' => v = none ∧ S' = S1)) (kk : X h M (pc + 3) loc rest S1 Q) : X h M pc loc (a3 :: a2 :: a1 :: a0 :: .ref o :: rest) S Q := x_v4 hd hl hN hs hok hX (fun v S' e => by obtain ⟨e1, e2⟩ := e; rw [e1, e2]; exact kk)
theorem x_v5d {o ci : Nat} {a0 a1 a2 a3 a4 : Value} {r : Value} {S1 : amS} (hd : decode M.2.1 pc = .ok (.invokevirtual idx, 3)) (hl : Cond.methodLink M.1.cls idx N.1 ∈ lw_tbl) (hN : am_NV N ci 5) (hs : am_kind h o = some ci) (hok : am_ok M N (.ref o :: [a0, a1, a2, a3, a4]) rest = true) (hX : X h N 0 (am_ent N.2.2.1 (.ref o :: [a0, a1, a2, a3, a4])) [] S (fun v S' => v = some r ∧ S' = S1)) (kk : X h M (pc + 3) loc (r :: rest) S1 Q) : X h M pc loc (a4 :: a3 :: a2 :: a1 :: a0 :: .ref o :: rest) S Q := x_v5 hd hl hN hs hok hX (fun v S' e => by obtain ⟨e1, e2⟩ := e; rw [e1, e2]; exact kk)
theorem x_v5n {o ci : Nat} {a0 a1 a2 a3 a4 : Value} {S1 : amS} (hd : decode M.2.1 pc = .ok (.invokevirtual idx, 3)) (hl : Cond.methodLink M.1.cls idx N.1 ∈ lw_tbl) (hN : am_NV N ci 5) (hs : am_kind h o = some ci) (hok : am_ok M N (.ref o :: [a0, a1, a2, a3, a4]) rest = true) (hX : X h N 0 (am_ent N.2.2.1 (.ref o :: [a0, a1, a2, a3, a4])) [] S (fun v S' => v = none ∧ S' = S1)) (kk : X h M (pc + 3) loc rest S1 Q) : X h M pc loc (a4 :: a3 :: a2 :: a1 :: a0 :: .ref o :: rest) S Q := x_v5 hd hl hN hs hok hX (fun v S' e => by obtain ⟨e1, e2⟩ := e; rw [e1, e2]; exact kk)
theorem x_s1d {a0 : Value} {r : Value} {S1 : amS} (hd : decode M.2.1 pc = .ok (.invokestatic idx, 3)) (hl : Cond.methodLink M.1.cls idx N.1 ∈ lw_tbl) (hN : am_NS N 1) (hok : am_ok M N [a0] rest = true) (hX : X h N 0 (am_ent N.2.2.1 [a0]) [] S (fun v S' => v = some r ∧ S' = S1)) (kk : X h M (pc + 3) loc (r :: rest) S1 Q) : X h M pc loc (a0 :: rest) S Q := x_s1 hd hl hN hok hX (fun v S' e => by obtain ⟨e1, e2⟩ := e; rw [e1, e2]; exact kk)
theorem x_s1n {a0 : Value} {S1 : amS} (hd : decode M.2.1 pc = .ok (.invokestatic idx, 3)) (hl : Cond.methodLink M.1.cls idx N.1 ∈ lw_tbl) (hN : am_NS N 1) (hok : am_ok M N [a0] rest = true) (hX : X h N 0 (am_ent N.2.2.1 [a0]) [] S (fun v S' => v = none ∧ S' = S1)) (kk : X h M (pc + 3) loc rest S1 Q) : X h M pc loc (a0 :: rest) S Q := x_s1 hd hl hN hok hX (fun v S' e => by obtain ⟨e1, e2⟩ := e; rw [e1, e2]; exact kk)
theorem x_s2d {a0 a1 : Value} {r : Value} {S1 : amS} (hd : decode M.2.1 pc = .ok (.invokestatic idx, 3)) (hl : Cond.methodLink M.1.cls idx N.1 ∈ lw_tbl) (hN : am_NS N 2) (hok : am_ok M N [a0, a1] rest = true) (hX : X h N 0 (am_ent N.2.2.1 [a0, a1]) [] S (fun v S' => v = some r ∧ S' = S1)) (kk : X h M (pc + 3) loc (r :: rest) S1 Q) : X h M pc loc (a1 :: a0 :: rest) S Q := x_s2 hd hl hN hok hX (fun v S' e => by obtain ⟨e1, e2⟩ := e; rw [e1, e2]; exact kk)
theorem x_s2n {a0 a1 : Value} {S1 : amS} (hd : decode M.2.1 pc = .ok (.invokestatic idx, 3)) (hl : Cond.methodLink M.1.cls idx N.1 ∈ lw_tbl) (hN : am_NS N 2) (hok : am_ok M N [a0, a1] rest = true) (hX : X h N 0 (am_ent N.2.2.1 [a0, a1]) [] S (fun v S' => v = none ∧ S' = S1)) (kk : X h M (pc + 3) loc rest S1 Q) : X h M pc loc (a1 :: a0 :: rest) S Q := x_s2 hd hl hN hok hX (fun v S' e => by obtain ⟨e1, e2⟩ := e; rw [e1, e2]; exact kk)
theorem x_s3d {a0 a1 a2 : Value} {r : Value} {S1 : amS} (hd : decode M.2.1 pc = .ok (.invokestatic idx, 3)) (hl : Cond.methodLink M.1.cls idx N.1 ∈ lw_tbl) (hN : am_NS N 3) (hok : am_ok M N [a0, a1, a2] rest = true) (hX : X h N 0 (am_ent N.2.2.1 [a0, a1, a2]) [] S (fun v S' => v = some r ∧ S' = S1)) (kk : X h M (pc + 3) loc (r :: rest) S1 Q) : X h M pc loc (a2 :: a1 :: a0 :: rest) S Q := x_s3 hd hl hN hok hX (fun v S' e => by obtain ⟨e1, e2⟩ := e; rw [e1, e2]; exact kk)
theorem x_s3n {a0 a1 a2 : Value} {S1 : amS} (hd : decode M.2.1 pc = .ok (.invokestatic idx, 3)) (hl : Cond.methodLink M.1.cls idx N.1 ∈ lw_tbl) (hN : am_NS N 3) (hok : am_ok M N [a0, a1, a2] rest = true) (hX : X h N 0 (am_ent N.2.2.1 [a0, a1, a2]) [] S (fun v S' => v = none ∧ S' = S1)) (kk : X h M (pc + 3) loc rest S1 Q) : X h M pc loc (a2 :: a1 :: a0 :: rest) S Q := x_s3 hd hl hN hok hX (fun v S' e => by obtain ⟨e1, e2⟩ := e; rw [e1, e2]; exact kk)
theorem x_s4d {a0 a1 a2 a3 : Value} {r : Value} {S1 : amS} (hd : decode M.2.1 pc = .ok (.invokestatic idx, 3)) (hl : Cond.methodLink M.1.cls idx N.1 ∈ lw_tbl) (hN : am_NS N 4) (hok : am_ok M N [a0, a1, a2, a3] rest = true) (hX : X h N 0 (am_ent N.2.2.1 [a0, a1, a2, a3]) [] S (fun v S' => v = some r ∧ S' = S1)) (kk : X h M (pc + 3) loc (r :: rest) S1 Q) : X h M pc loc (a3 :: a2 :: a1 :: a0 :: rest) S Q := x_s4 hd hl hN hok hX (fun v S' e => by obtain ⟨e1, e2⟩ := e; rw [e1, e2]; exact kk)
theorem x_s4n {a0 a1 a2 a3 : Value} {S1 : amS} (hd : decode M.2.1 pc = .ok (.invokestatic idx, 3)) (hl : Cond.methodLink M.1.cls idx N.1 ∈ lw_tbl) (hN : am_NS N 4) (hok : am_ok M N [a0, a1, a2, a3] rest = true) (hX : X h N 0 (am_ent N.2.2.1 [a0, a1, a2, a3]) [] S (fun v S' => v = none ∧ S' = S1)) (kk : X h M (pc + 3) loc rest S1 Q) : X h M pc loc (a3 :: a2 :: a1 :: a0 :: rest) S Q := x_s4 hd hl hN hok hX (fun v S' e => by obtain ⟨e1, e2⟩ := e; rw [e1, e2]; exact kk)
end XC
end
section
theorem am_in_p {big ws : List Cond} (ps : List Nat) (hp : ws = ps.filterMap (fun i => big[i]?)) : ∀ w ∈ ws, w ∈ big := by
  intro w hw
  rw [hp] at hw
  obtain ⟨i, -, hi⟩ := List.mem_filterMap.mp hw
  exact List.mem_of_getElem? hi
theorem lm_t1 : ∀ w ∈ tables_1_1, w ∈ lw_tbl := fun _ h => List.mem_append_right _ (List.mem_append_left _ h)
theorem lm_t2 : ∀ w ∈ tables_1_2, w ∈ lw_tbl := fun _ h => List.mem_append_right _ (List.mem_append_right _ (List.mem_append_left _ h))
theorem lm_t3 : ∀ w ∈ tables_1_3, w ∈ lw_tbl := fun _ h => List.mem_append_right _ (List.mem_append_right _ (List.mem_append_right _ (List.mem_append_left _ h)))
theorem lm_t4 : ∀ w ∈ tables_1_4, w ∈ lw_tbl := fun _ h => List.mem_append_right _ (List.mem_append_right _ (List.mem_append_right _ (List.mem_append_right _ (List.mem_append_left _ h))))
theorem lm_t5 : ∀ w ∈ tables_1_5, w ∈ lw_tbl := fun _ h => List.mem_append_right _ (List.mem_append_right _ (List.mem_append_right _ (List.mem_append_right _ (List.mem_append_right _ (List.mem_append_left _ h)))))
theorem lm_t6 : ∀ w ∈ tables_1_6, w ∈ lw_tbl := fun _ h => List.mem_append_right _ (List.mem_append_right _ (List.mem_append_right _ (List.mem_append_right _ (List.mem_append_right _ (List.mem_append_right _ (h))))))
theorem lm_s1 : ∀ w ∈ k2_sels lw_privs_1, w ∈ lw_tbl := fun w hw => List.mem_append_left _ (by
  obtain ⟨q, h, e⟩ := List.mem_map.mp hw
  exact List.mem_map.mpr ⟨q, List.mem_append_left _ h, e⟩)
theorem lm_s2 : ∀ w ∈ k2_sels lw_privs_2, w ∈ lw_tbl := fun w hw => List.mem_append_left _ (by
  obtain ⟨q, h, e⟩ := List.mem_map.mp hw
  exact List.mem_map.mpr ⟨q, List.mem_append_right _ (List.mem_append_left _ h), e⟩)
theorem lm_s3 : ∀ w ∈ k2_sels lw_privs_3, w ∈ lw_tbl := fun w hw => List.mem_append_left _ (by
  obtain ⟨q, h, e⟩ := List.mem_map.mp hw
  exact List.mem_map.mpr ⟨q, List.mem_append_right _ (List.mem_append_right _ (List.mem_append_left _ h)), e⟩)
theorem lm_s4 : ∀ w ∈ k2_sels lw_privs_4, w ∈ lw_tbl := fun w hw => List.mem_append_left _ (by
  obtain ⟨q, h, e⟩ := List.mem_map.mp hw
  exact List.mem_map.mpr ⟨q, List.mem_append_right _ (List.mem_append_right _ (List.mem_append_right _ (List.mem_append_left _ h))), e⟩)
theorem lm_s5 : ∀ w ∈ k2_sels lw_privs_5, w ∈ lw_tbl := fun w hw => List.mem_append_left _ (by
  obtain ⟨q, h, e⟩ := List.mem_map.mp hw
  exact List.mem_map.mpr ⟨q, List.mem_append_right _ (List.mem_append_right _ (List.mem_append_right _ (List.mem_append_right _ (h)))), e⟩)
theorem in_X0 : ∀ w ∈ u_ws RX0 TX0 6, w ∈ lw_tbl := List.forall_mem_cons.mpr ⟨lm_t2 _ (List.mem_of_getElem? (i := 5) rfl), List.forall_mem_cons.mpr ⟨lm_t2 _ (List.mem_of_getElem? (i := 7) rfl), List.forall_mem_cons.mpr ⟨lm_t2 _ (List.mem_of_getElem? (i := 9) rfl), List.forall_mem_cons.mpr ⟨lm_t2 _ (List.mem_of_getElem? (i := 11) rfl), List.forall_mem_cons.mpr ⟨lm_t2 _ (List.mem_of_getElem? (i := 13) rfl), List.forall_mem_cons.mpr ⟨lm_t2 _ (List.mem_of_getElem? (i := 15) rfl), fun _ h => absurd h List.not_mem_nil⟩⟩⟩⟩⟩⟩
theorem in_X1 : ∀ w ∈ u_ws RX1 TX1 4, w ∈ lw_tbl := List.forall_mem_cons.mpr ⟨lm_t1 _ (List.mem_of_getElem? (i := 49) rfl), List.forall_mem_cons.mpr ⟨lm_t1 _ (List.mem_of_getElem? (i := 51) rfl), List.forall_mem_cons.mpr ⟨lm_t1 _ (List.mem_of_getElem? (i := 53) rfl), List.forall_mem_cons.mpr ⟨lm_t1 _ (List.mem_of_getElem? (i := 55) rfl), fun _ h => absurd h List.not_mem_nil⟩⟩⟩⟩
theorem in_X2 : ∀ w ∈ u_ws RX2 TX2 4, w ∈ lw_tbl := List.forall_mem_cons.mpr ⟨lm_t1 _ (List.mem_of_getElem? (i := 222) rfl), List.forall_mem_cons.mpr ⟨lm_t1 _ (List.mem_of_getElem? (i := 224) rfl), List.forall_mem_cons.mpr ⟨lm_t1 _ (List.mem_of_getElem? (i := 226) rfl), List.forall_mem_cons.mpr ⟨lm_t1 _ (List.mem_of_getElem? (i := 228) rfl), fun _ h => absurd h List.not_mem_nil⟩⟩⟩⟩
theorem in_X3 : ∀ w ∈ u_ws RX3 TX3 3, w ∈ lw_tbl := List.forall_mem_cons.mpr ⟨lm_t1 _ (List.mem_of_getElem? (i := 151) rfl), List.forall_mem_cons.mpr ⟨lm_t1 _ (List.mem_of_getElem? (i := 153) rfl), List.forall_mem_cons.mpr ⟨lm_t1 _ (List.mem_of_getElem? (i := 155) rfl), fun _ h => absurd h List.not_mem_nil⟩⟩⟩
theorem in_X4 : ∀ w ∈ u_ws RX4 TX4 2, w ∈ lw_tbl := List.forall_mem_cons.mpr ⟨lm_t1 _ (List.mem_of_getElem? (i := 103) rfl), List.forall_mem_cons.mpr ⟨lm_t1 _ (List.mem_of_getElem? (i := 105) rfl), fun _ h => absurd h List.not_mem_nil⟩⟩
theorem in_X5 : ∀ w ∈ u_ws RX5 TX5 4, w ∈ lw_tbl := List.forall_mem_cons.mpr ⟨lm_t1 _ (List.mem_of_getElem? (i := 75) rfl), List.forall_mem_cons.mpr ⟨lm_t1 _ (List.mem_of_getElem? (i := 77) rfl), List.forall_mem_cons.mpr ⟨lm_t1 _ (List.mem_of_getElem? (i := 79) rfl), List.forall_mem_cons.mpr ⟨lm_t1 _ (List.mem_of_getElem? (i := 81) rfl), fun _ h => absurd h List.not_mem_nil⟩⟩⟩⟩
theorem in_X6 : ∀ w ∈ u_ws RX6 TX6 8, w ∈ lw_tbl := List.forall_mem_cons.mpr ⟨lm_t1 _ (List.mem_of_getElem? (i := 121) rfl), List.forall_mem_cons.mpr ⟨lm_t1 _ (List.mem_of_getElem? (i := 123) rfl), List.forall_mem_cons.mpr ⟨lm_t1 _ (List.mem_of_getElem? (i := 125) rfl), List.forall_mem_cons.mpr ⟨lm_t1 _ (List.mem_of_getElem? (i := 127) rfl), List.forall_mem_cons.mpr ⟨lm_t1 _ (List.mem_of_getElem? (i := 129) rfl), List.forall_mem_cons.mpr ⟨lm_t1 _ (List.mem_of_getElem? (i := 131) rfl), List.forall_mem_cons.mpr ⟨lm_t1 _ (List.mem_of_getElem? (i := 133) rfl), List.forall_mem_cons.mpr ⟨lm_t1 _ (List.mem_of_getElem? (i := 135) rfl), fun _ h => absurd h List.not_mem_nil⟩⟩⟩⟩⟩⟩⟩⟩
theorem in_X7 : ∀ w ∈ u_ws RX7 TX7 6, w ∈ lw_tbl := List.forall_mem_cons.mpr ⟨lm_t1 _ (List.mem_of_getElem? (i := 197) rfl), List.forall_mem_cons.mpr ⟨lm_t1 _ (List.mem_of_getElem? (i := 199) rfl), List.forall_mem_cons.mpr ⟨lm_t1 _ (List.mem_of_getElem? (i := 201) rfl), List.forall_mem_cons.mpr ⟨lm_t1 _ (List.mem_of_getElem? (i := 203) rfl), List.forall_mem_cons.mpr ⟨lm_t1 _ (List.mem_of_getElem? (i := 205) rfl), List.forall_mem_cons.mpr ⟨lm_t1 _ (List.mem_of_getElem? (i := 207) rfl), fun _ h => absurd h List.not_mem_nil⟩⟩⟩⟩⟩⟩
theorem in_X8 : ∀ w ∈ u_ws RX8 TX8 6, w ∈ lw_tbl := List.forall_mem_cons.mpr ⟨lm_t1 _ (List.mem_of_getElem? (i := 172) rfl), List.forall_mem_cons.mpr ⟨lm_t1 _ (List.mem_of_getElem? (i := 174) rfl), List.forall_mem_cons.mpr ⟨lm_t1 _ (List.mem_of_getElem? (i := 176) rfl), List.forall_mem_cons.mpr ⟨lm_t1 _ (List.mem_of_getElem? (i := 178) rfl), List.forall_mem_cons.mpr ⟨lm_t1 _ (List.mem_of_getElem? (i := 180) rfl), List.forall_mem_cons.mpr ⟨lm_t1 _ (List.mem_of_getElem? (i := 182) rfl), fun _ h => absurd h List.not_mem_nil⟩⟩⟩⟩⟩⟩
theorem in_X9 : ∀ w ∈ u_ws RX9 TX9 6, w ∈ lw_tbl := List.forall_mem_cons.mpr ⟨lm_t2 _ (List.mem_of_getElem? (i := 32) rfl), List.forall_mem_cons.mpr ⟨lm_t2 _ (List.mem_of_getElem? (i := 34) rfl), List.forall_mem_cons.mpr ⟨lm_t2 _ (List.mem_of_getElem? (i := 36) rfl), List.forall_mem_cons.mpr ⟨lm_t2 _ (List.mem_of_getElem? (i := 38) rfl), List.forall_mem_cons.mpr ⟨lm_t2 _ (List.mem_of_getElem? (i := 40) rfl), List.forall_mem_cons.mpr ⟨lm_t2 _ (List.mem_of_getElem? (i := 42) rfl), fun _ h => absurd h List.not_mem_nil⟩⟩⟩⟩⟩⟩
theorem in_X10 : ∀ w ∈ u_ws RX10 TX10 14, w ∈ lw_tbl := List.forall_mem_cons.mpr ⟨lm_t2 _ (List.mem_of_getElem? (i := 60) rfl), List.forall_mem_cons.mpr ⟨lm_t2 _ (List.mem_of_getElem? (i := 62) rfl), List.forall_mem_cons.mpr ⟨lm_t2 _ (List.mem_of_getElem? (i := 64) rfl), List.forall_mem_cons.mpr ⟨lm_t2 _ (List.mem_of_getElem? (i := 66) rfl), List.forall_mem_cons.mpr ⟨lm_t2 _ (List.mem_of_getElem? (i := 68) rfl), List.forall_mem_cons.mpr ⟨lm_t2 _ (List.mem_of_getElem? (i := 70) rfl), List.forall_mem_cons.mpr ⟨lm_t2 _ (List.mem_of_getElem? (i := 72) rfl), List.forall_mem_cons.mpr ⟨lm_t2 _ (List.mem_of_getElem? (i := 74) rfl), List.forall_mem_cons.mpr ⟨lm_t2 _ (List.mem_of_getElem? (i := 76) rfl), List.forall_mem_cons.mpr ⟨lm_t2 _ (List.mem_of_getElem? (i := 78) rfl), List.forall_mem_cons.mpr ⟨lm_t2 _ (List.mem_of_getElem? (i := 80) rfl), List.forall_mem_cons.mpr ⟨lm_t2 _ (List.mem_of_getElem? (i := 82) rfl), List.forall_mem_cons.mpr ⟨lm_t2 _ (List.mem_of_getElem? (i := 84) rfl), List.forall_mem_cons.mpr ⟨lm_t2 _ (List.mem_of_getElem? (i := 86) rfl), fun _ h => absurd h List.not_mem_nil⟩⟩⟩⟩⟩⟩⟩⟩⟩⟩⟩⟩⟩⟩
theorem in_X11 : ∀ w ∈ u_ws RX11 TX11 33, w ∈ lw_tbl := List.forall_mem_cons.mpr ⟨lm_t4 _ (List.mem_of_getElem? (i := 149) rfl), List.forall_mem_cons.mpr ⟨lm_t4 _ (List.mem_of_getElem? (i := 151) rfl), List.forall_mem_cons.mpr ⟨lm_t4 _ (List.mem_of_getElem? (i := 153) rfl), List.forall_mem_cons.mpr ⟨lm_t4 _ (List.mem_of_getElem? (i := 155) rfl), List.forall_mem_cons.mpr ⟨lm_t4 _ (List.mem_of_getElem? (i := 157) rfl), List.forall_mem_cons.mpr ⟨lm_t4 _ (List.mem_of_getElem? (i := 159) rfl), List.forall_mem_cons.mpr ⟨lm_t4 _ (List.mem_of_getElem? (i := 161) rfl), List.forall_mem_cons.mpr ⟨lm_t4 _ (List.mem_of_getElem? (i := 163) rfl), List.forall_mem_cons.mpr ⟨lm_t4 _ (List.mem_of_getElem? (i := 165) rfl), List.forall_mem_cons.mpr ⟨lm_t4 _ (List.mem_of_getElem? (i := 167) rfl), List.forall_mem_cons.mpr ⟨lm_t4 _ (List.mem_of_getElem? (i := 169) rfl), List.forall_mem_cons.mpr ⟨lm_t4 _ (List.mem_of_getElem? (i := 171) rfl), List.forall_mem_cons.mpr ⟨lm_t4 _ (List.mem_of_getElem? (i := 173) rfl), List.forall_mem_cons.mpr ⟨lm_t4 _ (List.mem_of_getElem? (i := 175) rfl), List.forall_mem_cons.mpr ⟨lm_t4 _ (List.mem_of_getElem? (i := 177) rfl), List.forall_mem_cons.mpr ⟨lm_t4 _ (List.mem_of_getElem? (i := 179) rfl), List.forall_mem_cons.mpr ⟨lm_t4 _ (List.mem_of_getElem? (i := 181) rfl), List.forall_mem_cons.mpr ⟨lm_t4 _ (List.mem_of_getElem? (i := 183) rfl), List.forall_mem_cons.mpr ⟨lm_t4 _ (List.mem_of_getElem? (i := 185) rfl), List.forall_mem_cons.mpr ⟨lm_t4 _ (List.mem_of_getElem? (i := 187) rfl), List.forall_mem_cons.mpr ⟨lm_t4 _ (List.mem_of_getElem? (i := 189) rfl), List.forall_mem_cons.mpr ⟨lm_t4 _ (List.mem_of_getElem? (i := 191) rfl), List.forall_mem_cons.mpr ⟨lm_t4 _ (List.mem_of_getElem? (i := 193) rfl), List.forall_mem_cons.mpr ⟨lm_t4 _ (List.mem_of_getElem? (i := 195) rfl), List.forall_mem_cons.mpr ⟨lm_t4 _ (List.mem_of_getElem? (i := 197) rfl), List.forall_mem_cons.mpr ⟨lm_t4 _ (List.mem_of_getElem? (i := 199) rfl), List.forall_mem_cons.mpr ⟨lm_t4 _ (List.mem_of_getElem? (i := 201) rfl), List.forall_mem_cons.mpr ⟨lm_t4 _ (List.mem_of_getElem? (i := 203) rfl), List.forall_mem_cons.mpr ⟨lm_t4 _ (List.mem_of_getElem? (i := 205) rfl), List.forall_mem_cons.mpr ⟨lm_t4 _ (List.mem_of_getElem? (i := 207) rfl), List.forall_mem_cons.mpr ⟨lm_t4 _ (List.mem_of_getElem? (i := 209) rfl), List.forall_mem_cons.mpr ⟨lm_t4 _ (List.mem_of_getElem? (i := 211) rfl), List.forall_mem_cons.mpr ⟨lm_t4 _ (List.mem_of_getElem? (i := 213) rfl), fun _ h => absurd h List.not_mem_nil⟩⟩⟩⟩⟩⟩⟩⟩⟩⟩⟩⟩⟩⟩⟩⟩⟩⟩⟩⟩⟩⟩⟩⟩⟩⟩⟩⟩⟩⟩⟩⟩⟩
theorem pn_X0 : plainName RX0 = true ∧ RX0 ≠ "java/lang/invoke/MethodHandle" ∧ RX0 ≠ "java/lang/invoke/VarHandle" := ⟨by decide +kernel, by decide +kernel, by decide +kernel⟩
theorem pn_X1 : plainName RX1 = true ∧ RX1 ≠ "java/lang/invoke/MethodHandle" ∧ RX1 ≠ "java/lang/invoke/VarHandle" := ⟨by decide +kernel, by decide +kernel, by decide +kernel⟩
theorem pn_X2 : plainName RX2 = true ∧ RX2 ≠ "java/lang/invoke/MethodHandle" ∧ RX2 ≠ "java/lang/invoke/VarHandle" := ⟨by decide +kernel, by decide +kernel, by decide +kernel⟩
theorem pn_X3 : plainName RX3 = true ∧ RX3 ≠ "java/lang/invoke/MethodHandle" ∧ RX3 ≠ "java/lang/invoke/VarHandle" := ⟨by decide +kernel, by decide +kernel, by decide +kernel⟩
theorem pn_X4 : plainName RX4 = true ∧ RX4 ≠ "java/lang/invoke/MethodHandle" ∧ RX4 ≠ "java/lang/invoke/VarHandle" := ⟨by decide +kernel, by decide +kernel, by decide +kernel⟩
theorem pn_X5 : plainName RX5 = true ∧ RX5 ≠ "java/lang/invoke/MethodHandle" ∧ RX5 ≠ "java/lang/invoke/VarHandle" := ⟨by decide +kernel, by decide +kernel, by decide +kernel⟩
theorem pn_X6 : plainName RX6 = true ∧ RX6 ≠ "java/lang/invoke/MethodHandle" ∧ RX6 ≠ "java/lang/invoke/VarHandle" := ⟨by decide +kernel, by decide +kernel, by decide +kernel⟩
theorem pn_X7 : plainName RX7 = true ∧ RX7 ≠ "java/lang/invoke/MethodHandle" ∧ RX7 ≠ "java/lang/invoke/VarHandle" := ⟨by decide +kernel, by decide +kernel, by decide +kernel⟩
theorem pn_X8 : plainName RX8 = true ∧ RX8 ≠ "java/lang/invoke/MethodHandle" ∧ RX8 ≠ "java/lang/invoke/VarHandle" := ⟨by decide +kernel, by decide +kernel, by decide +kernel⟩
theorem pn_X9 : plainName RX9 = true ∧ RX9 ≠ "java/lang/invoke/MethodHandle" ∧ RX9 ≠ "java/lang/invoke/VarHandle" := ⟨by decide +kernel, by decide +kernel, by decide +kernel⟩
theorem pn_X10 : plainName RX10 = true ∧ RX10 ≠ "java/lang/invoke/MethodHandle" ∧ RX10 ≠ "java/lang/invoke/VarHandle" := ⟨by decide +kernel, by decide +kernel, by decide +kernel⟩
theorem pn_X11 : plainName RX11 = true ∧ RX11 ≠ "java/lang/invoke/MethodHandle" ∧ RX11 ≠ "java/lang/invoke/VarHandle" := ⟨by decide +kernel, by decide +kernel, by decide +kernel⟩
theorem pn_J6 : plainName RJ6 = true ∧ RJ6 ≠ "java/lang/invoke/MethodHandle" ∧ RJ6 ≠ "java/lang/invoke/VarHandle" := ⟨by decide +kernel, by decide +kernel, by decide +kernel⟩
theorem pn_J9 : plainName RJ9 = false ∧ RJ9 ≠ "java/lang/invoke/MethodHandle" ∧ RJ9 ≠ "java/lang/invoke/VarHandle" := ⟨by decide +kernel, by decide +kernel, by decide +kernel⟩
theorem pn_J7 : plainName RJ7 = true ∧ RJ7 ≠ "java/lang/invoke/MethodHandle" ∧ RJ7 ≠ "java/lang/invoke/VarHandle" := ⟨by decide +kernel, by decide +kernel, by decide +kernel⟩
/-- the class: 0 PlaneCuts, 1 now, 2 its row, 3 before, 4 its row, 5 history, 6 ring, 7 .. 18 its six arrangements and their rows, 19 matroid, 20 matrix, 21 cells, 22 ranks, 23 flat, 24 circuits, 25 their sets, 26 picked, 27 its sets, 28 factors, 29 regions, 30 real, 31 galleries, 32 listing, 33 its sets, 34 modularFlats, 35 modular, 36 leads, 37 links, 38 fields, 39 matrix, 40 cells, 41 point, 42 algebra, 43 broken, 44 sum, 45 picked, 46 its sets, 47 script, 48 bytes, 49 verbs, 50 numbers -/
def shX : List amSh := [.inr (10, [.ref 1, .ref 3, .ref 5, .ref 19, .ref 29, .ref 34, .ref 38, .ref 42, .ref 47, .int 0, .int 0, .int 0, .int 0, .int 0]),
  .inr (1, [.ref 2, .int 0, .int 0, .int 0]),
  .inl (36, .int, []),
  .inr (1, [.ref 4, .int 0, .int 0, .int 0]),
  .inl (36, .int, []),
  .inr (3, [.ref 6, .int 0, .int 0]),
  .inl (6, .object "PlaneCuts$Arrangement", [7, 9, 11, 13, 15, 17]),
  .inr (1, [.ref 8, .int 0, .int 0, .int 0]),
  .inl (36, .int, []),
  .inr (1, [.ref 10, .int 0, .int 0, .int 0]),
  .inl (36, .int, []),
  .inr (1, [.ref 12, .int 0, .int 0, .int 0]),
  .inl (36, .int, []),
  .inr (1, [.ref 14, .int 0, .int 0, .int 0]),
  .inl (36, .int, []),
  .inr (1, [.ref 16, .int 0, .int 0, .int 0]),
  .inl (36, .int, []),
  .inr (1, [.ref 18, .int 0, .int 0, .int 0]),
  .inl (36, .int, []),
  .inr (6, [.ref 1, .ref 20, .ref 22, .ref 23, .ref 24, .ref 26, .ref 28, .int 0]),
  .inr (5, [.ref 21, .int 0, .int 0, .int 0]),
  .inl (45, .long, []),
  .inl (512, .int, []),
  .inl (512, .boolean, []),
  .inr (4, [.ref 25, .int 0]),
  .inl (126, .int, []),
  .inr (4, [.ref 27, .int 0]),
  .inl (126, .int, []),
  .inl (9, .int, []),
  .inr (8, [.ref 1, .ref 19, .ref 30, .ref 31, .ref 32, .int 0]),
  .inl (512, .boolean, []),
  .inl (512, .int, []),
  .inr (4, [.ref 33, .int 0]),
  .inl (186, .int, []),
  .inr (7, [.ref 1, .ref 19, .ref 35, .ref 36, .ref 37, .int 0]),
  .inl (512, .boolean, []),
  .inl (512, .boolean, []),
  .inl (5, .int, []),
  .inr (2, [.ref 1, .ref 19, .ref 39, .ref 41]),
  .inr (5, [.ref 40, .int 0, .int 0, .int 0]),
  .inl (45, .long, []),
  .inl (4, .int, []),
  .inr (0, [.ref 1, .ref 19, .ref 43, .ref 44, .ref 45, .int 0]),
  .inl (512, .int, []),
  .inl (512, .int, []),
  .inr (4, [.ref 46, .int 0]),
  .inl (126, .int, []),
  .inr (9, [.ref 48, .ref 49, .ref 50, .int 0, .int 0, .int 0]),
  .inl (100, .byte, []),
  .inl (34, .int, []),
  .inl (136, .int, [])]
/-- the reference: 0 the object; its rows: 1 now, 2 held, 3 past, 4 refused, 5 text, 6 ranks, 7 work, 8 ring, 9 above, 10 factors, 11 column, 12 grid, 13 told, 14 signs, 15 steps, 16 ways, 17 row, 18 goesOn, 19 links, 20 times, 21 letters, 22 numbers -/
def shM : List amSh := [.inr (11, [.ref 1, .ref 2, .ref 3, .int 0, .ref 4, .ref 5, .int 0, .int 0, .int 0, .int 0, .ref 6, .ref 7, .int 0, .ref 8, .ref 9, .ref 10, .ref 11, .ref 12, .int 0, .ref 13, .ref 14, .ref 15, .ref 16, .ref 17, .ref 18, .ref 19, .ref 20, .int 0, .int 0, .int 0, .ref 21, .ref 22, .long 0]),
  .inl (38, .int, []),
  .inl (38, .int, []),
  .inl (228, .int, []),
  .inl (3, .int, []),
  .inl (100, .int, []),
  .inl (512, .int, []),
  .inl (36, .long, []),
  .inl (400, .int, []),
  .inl (400, .int, []),
  .inl (9, .long, []),
  .inl (9, .int, []),
  .inl (20, .long, []),
  .inl (4, .int, []),
  .inl (512, .int, []),
  .inl (512, .int, []),
  .inl (512, .int, []),
  .inl (512, .int, []),
  .inl (512, .boolean, []),
  .inl (5, .int, []),
  .inl (512, .int, []),
  .inl (50, .int, []),
  .inl (200, .int, [])]
def mX0_refresh : amM := (yX0_refresh, cX0_refresh, 4, none, 4, 104)
theorem nv_X0_refresh : am_NV mX0_refresh 0 0 := ⟨pn_X0.1, lm_t4 _ (List.mem_of_getElem? (i := 8) rfl), lm_t1 _ (List.mem_of_getElem? (i := 11) rfl), ⟨pn_X0.2.1, pn_X0.2.2, by decide +kernel⟩, lm_t4 _ (List.mem_of_getElem? (i := 7) rfl), lm_s2 _ (List.mem_of_getElem? (i := 6) rfl), TX0, 6, rfl⟩
def mX0_baseSetsOfSize : amM := (yX0_baseSetsOfSize, cX0_baseSetsOfSize, 3, (some (.object "PlaneCuts$Listing")), 5, 127)
theorem nv_X0_baseSetsOfSize : am_NV mX0_baseSetsOfSize 0 1 := ⟨pn_X0.1, lm_t4 _ (List.mem_of_getElem? (i := 4) rfl), lm_t1 _ (List.mem_of_getElem? (i := 11) rfl), ⟨pn_X0.2.1, pn_X0.2.2, by decide +kernel⟩, lm_t4 _ (List.mem_of_getElem? (i := 2) rfl), lm_t4 _ (List.mem_of_getElem? (i := 3) rfl), TX0, 6, rfl⟩
def mX0_partOf : amM := (yX0_partOf, cX0_partOf, 4, (some .int), 5, 127)
theorem nv_X0_partOf : am_NV mX0_partOf 0 2 := ⟨pn_X0.1, lm_t4 _ (List.mem_of_getElem? (i := 22) rfl), lm_t1 _ (List.mem_of_getElem? (i := 11) rfl), ⟨pn_X0.2.1, pn_X0.2.2, by decide +kernel⟩, lm_t4 _ (List.mem_of_getElem? (i := 20) rfl), lm_t4 _ (List.mem_of_getElem? (i := 21) rfl), TX0, 6, rfl⟩
def mX0_replace : amM := (yX0_replace, cX0_replace, 9, none, 1, 20)
theorem nv_X0_replace : am_NV mX0_replace 0 2 := ⟨pn_X0.1, lm_t4 _ (List.mem_of_getElem? (i := 26) rfl), lm_t1 _ (List.mem_of_getElem? (i := 11) rfl), ⟨pn_X0.2.1, pn_X0.2.2, by decide +kernel⟩, lm_t4 _ (List.mem_of_getElem? (i := 25) rfl), lm_s2 _ (List.mem_of_getElem? (i := 7) rfl), TX0, 6, rfl⟩
def mX1_all : amM := (yX1_all, cX1_all, 1, (some .int), 0, 0)
theorem nv_X1_all : am_NV mX1_all 1 0 := ⟨pn_X1.1, lm_t2 _ (List.mem_of_getElem? (i := 170) rfl), lm_t1 _ (List.mem_of_getElem? (i := 2) rfl), ⟨pn_X1.2.1, pn_X1.2.2, by decide +kernel⟩, lm_t2 _ (List.mem_of_getElem? (i := 168) rfl), lm_t2 _ (List.mem_of_getElem? (i := 169) rfl), TX1, 4, rfl⟩
def mX1_has : amM := (yX1_has, cX1_has, 2, (some .boolean), 0, 0)
theorem nv_X1_has : am_NV mX1_has 1 1 := ⟨pn_X1.1, lm_t2 _ (List.mem_of_getElem? (i := 154) rfl), lm_t1 _ (List.mem_of_getElem? (i := 2) rfl), ⟨pn_X1.2.1, pn_X1.2.2, by decide +kernel⟩, lm_t2 _ (List.mem_of_getElem? (i := 152) rfl), lm_t2 _ (List.mem_of_getElem? (i := 153) rfl), TX1, 4, rfl⟩
def mX1_hasAll : amM := (yX1_hasAll, cX1_hasAll, 2, (some .boolean), 1, 20)
theorem nv_X1_hasAll : am_NV mX1_hasAll 1 1 := ⟨pn_X1.1, lm_t3 _ (List.mem_of_getElem? (i := 32) rfl), lm_t1 _ (List.mem_of_getElem? (i := 2) rfl), ⟨pn_X1.2.1, pn_X1.2.2, by decide +kernel⟩, lm_t3 _ (List.mem_of_getElem? (i := 30) rfl), lm_t3 _ (List.mem_of_getElem? (i := 31) rfl), TX1, 4, rfl⟩
def mX1_at : amM := (yX1_at, cX1_at, 3, (some .int), 0, 0)
theorem nv_X1_at : am_NV mX1_at 1 2 := ⟨pn_X1.1, lm_t2 _ (List.mem_of_getElem? (i := 138) rfl), lm_t1 _ (List.mem_of_getElem? (i := 2) rfl), ⟨pn_X1.2.1, pn_X1.2.2, by decide +kernel⟩, lm_t2 _ (List.mem_of_getElem? (i := 136) rfl), lm_t2 _ (List.mem_of_getElem? (i := 137) rfl), TX1, 4, rfl⟩
def mX1_copyFrom : amM := (yX1_copyFrom, cX1_copyFrom, 2, none, 1, 30)
theorem nv_X1_copyFrom : am_NV mX1_copyFrom 1 1 := ⟨pn_X1.1, lm_t2 _ (List.mem_of_getElem? (i := 96) rfl), lm_t1 _ (List.mem_of_getElem? (i := 2) rfl), ⟨pn_X1.2.1, pn_X1.2.2, by decide +kernel⟩, lm_t2 _ (List.mem_of_getElem? (i := 94) rfl), lm_t2 _ (List.mem_of_getElem? (i := 95) rfl), TX1, 4, rfl⟩
def mX1_restart : amM := (yX1_restart, cX1_restart, 3, (some .int), 0, 0)
theorem nv_X1_restart : am_NV mX1_restart 1 1 := ⟨pn_X1.1, lm_t2 _ (List.mem_of_getElem? (i := 103) rfl), lm_t1 _ (List.mem_of_getElem? (i := 2) rfl), ⟨pn_X1.2.1, pn_X1.2.2, by decide +kernel⟩, lm_t2 _ (List.mem_of_getElem? (i := 101) rfl), lm_t2 _ (List.mem_of_getElem? (i := 102) rfl), TX1, 4, rfl⟩
def mX1_add : amM := (yX1_add, cX1_add, 6, (some .int), 2, 51)
theorem nv_X1_add : am_NV mX1_add 1 4 := ⟨pn_X1.1, lm_t2 _ (List.mem_of_getElem? (i := 127) rfl), lm_t1 _ (List.mem_of_getElem? (i := 2) rfl), ⟨pn_X1.2.1, pn_X1.2.2, by decide +kernel⟩, lm_t2 _ (List.mem_of_getElem? (i := 125) rfl), lm_t2 _ (List.mem_of_getElem? (i := 126) rfl), TX1, 4, rfl⟩
def mX1_isCoefficient : amM := (yX1_isCoefficient, cX1_isCoefficient, 1, (some .boolean), 0, 0)
theorem ns_X1_isCoefficient : am_NS mX1_isCoefficient 1 := ⟨pn_X1.1, lm_t2 _ (List.mem_of_getElem? (i := 130) rfl), lm_t1 _ (List.mem_of_getElem? (i := 2) rfl), ⟨pn_X1.2.1, pn_X1.2.2, by decide +kernel⟩, lm_t2 _ (List.mem_of_getElem? (i := 129) rfl)⟩
def mX1_isSame : amM := (yX1_isSame, cX1_isSame, 10, (some .boolean), 1, 22)
theorem nv_X1_isSame : am_NV mX1_isSame 1 5 := ⟨pn_X1.1, lm_t2 _ (List.mem_of_getElem? (i := 134) rfl), lm_t1 _ (List.mem_of_getElem? (i := 2) rfl), ⟨pn_X1.2.1, pn_X1.2.2, by decide +kernel⟩, lm_t2 _ (List.mem_of_getElem? (i := 133) rfl), lm_s1 _ (List.mem_of_getElem? (i := 2) rfl), TX1, 4, rfl⟩
def mX1_put : amM := (yX1_put, cX1_put, 6, (some .int), 0, 0)
theorem nv_X1_put : am_NV mX1_put 1 4 := ⟨pn_X1.1, lm_t2 _ (List.mem_of_getElem? (i := 142) rfl), lm_t1 _ (List.mem_of_getElem? (i := 2) rfl), ⟨pn_X1.2.1, pn_X1.2.2, by decide +kernel⟩, lm_t2 _ (List.mem_of_getElem? (i := 141) rfl), lm_s1 _ (List.mem_of_getElem? (i := 3) rfl), TX1, 4, rfl⟩
def mX1_negate : amM := (yX1_negate, cX1_negate, 3, (some .int), 1, 22)
theorem nv_X1_negate : am_NV mX1_negate 1 1 := ⟨pn_X1.1, lm_t2 _ (List.mem_of_getElem? (i := 150) rfl), lm_t1 _ (List.mem_of_getElem? (i := 2) rfl), ⟨pn_X1.2.1, pn_X1.2.2, by decide +kernel⟩, lm_t2 _ (List.mem_of_getElem? (i := 148) rfl), lm_t2 _ (List.mem_of_getElem? (i := 149) rfl), TX1, 4, rfl⟩
def mX1_remove : amM := (yX1_remove, cX1_remove, 4, (some .int), 1, 30)
theorem nv_X1_remove : am_NV mX1_remove 1 1 := ⟨pn_X1.1, lm_t2 _ (List.mem_of_getElem? (i := 229) rfl), lm_t1 _ (List.mem_of_getElem? (i := 2) rfl), ⟨pn_X1.2.1, pn_X1.2.2, by decide +kernel⟩, lm_t2 _ (List.mem_of_getElem? (i := 227) rfl), lm_t2 _ (List.mem_of_getElem? (i := 228) rfl), TX1, 4, rfl⟩
def mX1_exchange : amM := (yX1_exchange, cX1_exchange, 5, (some .int), 1, 22)
theorem nv_X1_exchange : am_NV mX1_exchange 1 2 := ⟨pn_X1.1, lm_t2 _ (List.mem_of_getElem? (i := 237) rfl), lm_t1 _ (List.mem_of_getElem? (i := 2) rfl), ⟨pn_X1.2.1, pn_X1.2.2, by decide +kernel⟩, lm_t2 _ (List.mem_of_getElem? (i := 235) rfl), lm_t2 _ (List.mem_of_getElem? (i := 236) rfl), TX1, 4, rfl⟩
def mX1_fill : amM := (yX1_fill, cX1_fill, 3, (some .int), 3, 73)
theorem nv_X1_fill : am_NV mX1_fill 1 1 := ⟨pn_X1.1, lm_t3 _ (List.mem_of_getElem? (i := 10) rfl), lm_t1 _ (List.mem_of_getElem? (i := 2) rfl), ⟨pn_X1.2.1, pn_X1.2.2, by decide +kernel⟩, lm_t3 _ (List.mem_of_getElem? (i := 8) rfl), lm_t3 _ (List.mem_of_getElem? (i := 9) rfl), TX1, 4, rfl⟩
def mX1_putPairs : amM := (yX1_putPairs, cX1_putPairs, 4, none, 2, 50)
theorem nv_X1_putPairs : am_NV mX1_putPairs 1 1 := ⟨pn_X1.1, lm_t3 _ (List.mem_of_getElem? (i := 18) rfl), lm_t1 _ (List.mem_of_getElem? (i := 2) rfl), ⟨pn_X1.2.1, pn_X1.2.2, by decide +kernel⟩, lm_t3 _ (List.mem_of_getElem? (i := 17) rfl), lm_s1 _ (List.mem_of_getElem? (i := 12) rfl), TX1, 4, rfl⟩
def mX1_putPair : amM := (yX1_putPair, cX1_putPair, 6, none, 1, 25)
theorem nv_X1_putPair : am_NV mX1_putPair 1 4 := ⟨pn_X1.1, lm_t3 _ (List.mem_of_getElem? (i := 14) rfl), lm_t1 _ (List.mem_of_getElem? (i := 2) rfl), ⟨pn_X1.2.1, pn_X1.2.2, by decide +kernel⟩, lm_t3 _ (List.mem_of_getElem? (i := 13) rfl), lm_s1 _ (List.mem_of_getElem? (i := 11) rfl), TX1, 4, rfl⟩
def mX2_countFreePoints : amM := (yX2_countFreePoints, cX2_countFreePoints, 6, (some .int), 2, 46)
theorem nv_X2_countFreePoints : am_NV mX2_countFreePoints 2 1 := ⟨pn_X2.1, lm_t3 _ (List.mem_of_getElem? (i := 214) rfl), lm_t1 _ (List.mem_of_getElem? (i := 10) rfl), ⟨pn_X2.2.1, pn_X2.2.2, by decide +kernel⟩, lm_t3 _ (List.mem_of_getElem? (i := 212) rfl), lm_t3 _ (List.mem_of_getElem? (i := 213) rfl), TX2, 4, rfl⟩
def mX2_setPoint : amM := (yX2_setPoint, cX2_setPoint, 5, none, 0, 0)
theorem nv_X2_setPoint : am_NV mX2_setPoint 2 2 := ⟨pn_X2.1, lm_t3 _ (List.mem_of_getElem? (i := 218) rfl), lm_t1 _ (List.mem_of_getElem? (i := 10) rfl), ⟨pn_X2.2.1, pn_X2.2.2, by decide +kernel⟩, lm_t3 _ (List.mem_of_getElem? (i := 217) rfl), lm_s2 _ (List.mem_of_getElem? (i := 4) rfl), TX2, 4, rfl⟩
def mX2_isFree : amM := (yX2_isFree, cX2_isFree, 5, (some .boolean), 1, 22)
theorem nv_X2_isFree : am_NV mX2_isFree 2 1 := ⟨pn_X2.1, lm_t3 _ (List.mem_of_getElem? (i := 222) rfl), lm_t1 _ (List.mem_of_getElem? (i := 10) rfl), ⟨pn_X2.2.1, pn_X2.2.2, by decide +kernel⟩, lm_t3 _ (List.mem_of_getElem? (i := 221) rfl), lm_s2 _ (List.mem_of_getElem? (i := 5) rfl), TX2, 4, rfl⟩
def mX2_isGood : amM := (yX2_isGood, cX2_isGood, 5, (some .boolean), 5, 125)
theorem nv_X2_isGood : am_NV mX2_isGood 2 1 := ⟨pn_X2.1, lm_t3 _ (List.mem_of_getElem? (i := 227) rfl), lm_t1 _ (List.mem_of_getElem? (i := 10) rfl), ⟨pn_X2.2.1, pn_X2.2.2, by decide +kernel⟩, lm_t3 _ (List.mem_of_getElem? (i := 225) rfl), lm_t3 _ (List.mem_of_getElem? (i := 226) rfl), TX2, 4, rfl⟩
def mX3_keep : amM := (yX3_keep, cX3_keep, 2, none, 2, 51)
theorem nv_X3_keep : am_NV mX3_keep 3 1 := ⟨pn_X3.1, lm_t2 _ (List.mem_of_getElem? (i := 115) rfl), lm_t1 _ (List.mem_of_getElem? (i := 7) rfl), ⟨pn_X3.2.1, pn_X3.2.2, by decide +kernel⟩, lm_t2 _ (List.mem_of_getElem? (i := 113) rfl), lm_t2 _ (List.mem_of_getElem? (i := 114) rfl), TX3, 3, rfl⟩
def mX3_restore : amM := (yX3_restore, cX3_restore, 2, (some .boolean), 2, 51)
theorem nv_X3_restore : am_NV mX3_restore 3 1 := ⟨pn_X3.1, lm_t4 _ (List.mem_of_getElem? (i := 90) rfl), lm_t1 _ (List.mem_of_getElem? (i := 7) rfl), ⟨pn_X3.2.1, pn_X3.2.2, by decide +kernel⟩, lm_t4 _ (List.mem_of_getElem? (i := 88) rfl), lm_t4 _ (List.mem_of_getElem? (i := 89) rfl), TX3, 3, rfl⟩
def mX4_append : amM := (yX4_append, cX4_append, 2, none, 0, 0)
theorem nv_X4_append : am_NV mX4_append 4 1 := ⟨pn_X4.1, lm_t2 _ (List.mem_of_getElem? (i := 214) rfl), lm_t1 _ (List.mem_of_getElem? (i := 5) rfl), ⟨pn_X4.2.1, pn_X4.2.2, by decide +kernel⟩, lm_t2 _ (List.mem_of_getElem? (i := 212) rfl), lm_t2 _ (List.mem_of_getElem? (i := 213) rfl), TX4, 2, rfl⟩
def mX4_answer : amM := (yX4_answer, cX4_answer, 2, (some .int), 0, 0)
theorem nv_X4_answer : am_NV mX4_answer 4 1 := ⟨pn_X4.1, lm_t3 _ (List.mem_of_getElem? (i := 53) rfl), lm_t1 _ (List.mem_of_getElem? (i := 5) rfl), ⟨pn_X4.2.1, pn_X4.2.2, by decide +kernel⟩, lm_t3 _ (List.mem_of_getElem? (i := 51) rfl), lm_t3 _ (List.mem_of_getElem? (i := 52) rfl), TX4, 2, rfl⟩
def mX5_load : amM := (yX5_load, cX5_load, 5, none, 1, 22)
theorem nv_X5_load : am_NV mX5_load 5 2 := ⟨pn_X5.1, lm_t2 _ (List.mem_of_getElem? (i := 185) rfl), lm_t1 _ (List.mem_of_getElem? (i := 4) rfl), ⟨pn_X5.2.1, pn_X5.2.2, by decide +kernel⟩, lm_t2 _ (List.mem_of_getElem? (i := 183) rfl), lm_t2 _ (List.mem_of_getElem? (i := 184) rfl), TX5, 4, rfl⟩
def mX5_trace : amM := (yX5_trace, cX5_trace, 3, none, 0, 0)
theorem nv_X5_trace : am_NV mX5_trace 5 0 := ⟨pn_X5.1, lm_t3 _ (List.mem_of_getElem? (i := 85) rfl), lm_t1 _ (List.mem_of_getElem? (i := 4) rfl), ⟨pn_X5.2.1, pn_X5.2.2, by decide +kernel⟩, lm_t3 _ (List.mem_of_getElem? (i := 83) rfl), lm_t3 _ (List.mem_of_getElem? (i := 84) rfl), TX5, 4, rfl⟩
def mX5_traceInLast : amM := (yX5_traceInLast, cX5_traceInLast, 2, (some .long), 0, 0)
theorem nv_X5_traceInLast : am_NV mX5_traceInLast 5 1 := ⟨pn_X5.1, lm_t3 _ (List.mem_of_getElem? (i := 89) rfl), lm_t1 _ (List.mem_of_getElem? (i := 4) rfl), ⟨pn_X5.2.1, pn_X5.2.2, by decide +kernel⟩, lm_t3 _ (List.mem_of_getElem? (i := 87) rfl), lm_t3 _ (List.mem_of_getElem? (i := 88) rfl), TX5, 4, rfl⟩
def mX5_reduce : amM := (yX5_reduce, cX5_reduce, 5, (some .int), 1, 31)
theorem nv_X5_reduce : am_NV mX5_reduce 5 1 := ⟨pn_X5.1, lm_t2 _ (List.mem_of_getElem? (i := 190) rfl), lm_t1 _ (List.mem_of_getElem? (i := 4) rfl), ⟨pn_X5.2.1, pn_X5.2.2, by decide +kernel⟩, lm_t2 _ (List.mem_of_getElem? (i := 188) rfl), lm_t2 _ (List.mem_of_getElem? (i := 189) rfl), TX5, 4, rfl⟩
def mX5_takeRemainders : amM := (yX5_takeRemainders, cX5_takeRemainders, 3, none, 0, 0)
theorem nv_X5_takeRemainders : am_NV mX5_takeRemainders 5 1 := ⟨pn_X5.1, lm_t2 _ (List.mem_of_getElem? (i := 194) rfl), lm_t1 _ (List.mem_of_getElem? (i := 4) rfl), ⟨pn_X5.2.1, pn_X5.2.2, by decide +kernel⟩, lm_t2 _ (List.mem_of_getElem? (i := 193) rfl), lm_s1 _ (List.mem_of_getElem? (i := 5) rfl), TX5, 4, rfl⟩
def mX5_bringUp : amM := (yX5_bringUp, cX5_bringUp, 7, (some .boolean), 0, 0)
theorem nv_X5_bringUp : am_NV mX5_bringUp 5 2 := ⟨pn_X5.1, lm_t2 _ (List.mem_of_getElem? (i := 198) rfl), lm_t1 _ (List.mem_of_getElem? (i := 4) rfl), ⟨pn_X5.2.1, pn_X5.2.2, by decide +kernel⟩, lm_t2 _ (List.mem_of_getElem? (i := 197) rfl), lm_s1 _ (List.mem_of_getElem? (i := 6) rfl), TX5, 4, rfl⟩
def mX5_strike : amM := (yX5_strike, cX5_strike, 12, none, 0, 0)
theorem nv_X5_strike : am_NV mX5_strike 5 4 := ⟨pn_X5.1, lm_t2 _ (List.mem_of_getElem? (i := 202) rfl), lm_t1 _ (List.mem_of_getElem? (i := 4) rfl), ⟨pn_X5.2.1, pn_X5.2.2, by decide +kernel⟩, lm_t2 _ (List.mem_of_getElem? (i := 201) rfl), lm_s1 _ (List.mem_of_getElem? (i := 7) rfl), TX5, 4, rfl⟩
def mX6_refresh : amM := (yX6_refresh, cX6_refresh, 4, none, 3, 81)
theorem nv_X6_refresh : am_NV mX6_refresh 6 0 := ⟨pn_X6.1, lm_t2 _ (List.mem_of_getElem? (i := 166) rfl), lm_t1 _ (List.mem_of_getElem? (i := 3) rfl), ⟨pn_X6.2.1, pn_X6.2.2, by decide +kernel⟩, lm_t2 _ (List.mem_of_getElem? (i := 164) rfl), lm_t2 _ (List.mem_of_getElem? (i := 165) rfl), TX6, 8, rfl⟩
def mX6_rankFromSubsets : amM := (yX6_rankFromSubsets, cX6_rankFromSubsets, 7, (some .int), 2, 55)
theorem nv_X6_rankFromSubsets : am_NV mX6_rankFromSubsets 6 1 := ⟨pn_X6.1, lm_t2 _ (List.mem_of_getElem? (i := 174) rfl), lm_t1 _ (List.mem_of_getElem? (i := 3) rfl), ⟨pn_X6.2.1, pn_X6.2.2, by decide +kernel⟩, lm_t2 _ (List.mem_of_getElem? (i := 173) rfl), lm_s1 _ (List.mem_of_getElem? (i := 4) rfl), TX6, 8, rfl⟩
def mX6_closureFromRanks : amM := (yX6_closureFromRanks, cX6_closureFromRanks, 4, (some .int), 0, 0)
theorem nv_X6_closureFromRanks : am_NV mX6_closureFromRanks 6 1 := ⟨pn_X6.1, lm_t2 _ (List.mem_of_getElem? (i := 206) rfl), lm_t1 _ (List.mem_of_getElem? (i := 3) rfl), ⟨pn_X6.2.1, pn_X6.2.2, by decide +kernel⟩, lm_t2 _ (List.mem_of_getElem? (i := 205) rfl), lm_s1 _ (List.mem_of_getElem? (i := 8) rfl), TX6, 8, rfl⟩
def mX6_isCircuit : amM := (yX6_isCircuit, cX6_isCircuit, 4, (some .boolean), 0, 0)
theorem nv_X6_isCircuit : am_NV mX6_isCircuit 6 2 := ⟨pn_X6.1, lm_t2 _ (List.mem_of_getElem? (i := 210) rfl), lm_t1 _ (List.mem_of_getElem? (i := 3) rfl), ⟨pn_X6.2.1, pn_X6.2.2, by decide +kernel⟩, lm_t2 _ (List.mem_of_getElem? (i := 209) rfl), lm_s1 _ (List.mem_of_getElem? (i := 9) rfl), TX6, 8, rfl⟩
def mX6_rankOf : amM := (yX6_rankOf, cX6_rankOf, 2, (some .int), 4, 104)
theorem nv_X6_rankOf : am_NV mX6_rankOf 6 1 := ⟨pn_X6.1, lm_t3 _ (List.mem_of_getElem? (i := 2) rfl), lm_t1 _ (List.mem_of_getElem? (i := 3) rfl), ⟨pn_X6.2.1, pn_X6.2.2, by decide +kernel⟩, lm_t3 _ (List.mem_of_getElem? (i := 0) rfl), lm_t3 _ (List.mem_of_getElem? (i := 1) rfl), TX6, 8, rfl⟩
def mX6_closureOf : amM := (yX6_closureOf, cX6_closureOf, 2, (some .int), 4, 104)
theorem nv_X6_closureOf : am_NV mX6_closureOf 6 1 := ⟨pn_X6.1, lm_t3 _ (List.mem_of_getElem? (i := 41) rfl), lm_t1 _ (List.mem_of_getElem? (i := 3) rfl), ⟨pn_X6.2.1, pn_X6.2.2, by decide +kernel⟩, lm_t3 _ (List.mem_of_getElem? (i := 39) rfl), lm_t3 _ (List.mem_of_getElem? (i := 40) rfl), TX6, 8, rfl⟩
def mX6_isFlat : amM := (yX6_isFlat, cX6_isFlat, 2, (some .boolean), 4, 104)
theorem nv_X6_isFlat : am_NV mX6_isFlat 6 1 := ⟨pn_X6.1, lm_t3 _ (List.mem_of_getElem? (i := 61) rfl), lm_t1 _ (List.mem_of_getElem? (i := 3) rfl), ⟨pn_X6.2.1, pn_X6.2.2, by decide +kernel⟩, lm_t3 _ (List.mem_of_getElem? (i := 59) rfl), lm_t3 _ (List.mem_of_getElem? (i := 60) rfl), TX6, 8, rfl⟩
def mX6_isIndependent : amM := (yX6_isIndependent, cX6_isIndependent, 2, (some .boolean), 4, 104)
theorem nv_X6_isIndependent : am_NV mX6_isIndependent 6 1 := ⟨pn_X6.1, lm_t3 _ (List.mem_of_getElem? (i := 234) rfl), lm_t1 _ (List.mem_of_getElem? (i := 3) rfl), ⟨pn_X6.2.1, pn_X6.2.2, by decide +kernel⟩, lm_t3 _ (List.mem_of_getElem? (i := 232) rfl), lm_t3 _ (List.mem_of_getElem? (i := 233) rfl), TX6, 8, rfl⟩
def mX6_flatsOfRank : amM := (yX6_flatsOfRank, cX6_flatsOfRank, 3, (some (.object "PlaneCuts$Listing")), 4, 104)
theorem nv_X6_flatsOfRank : am_NV mX6_flatsOfRank 6 1 := ⟨pn_X6.1, lm_t3 _ (List.mem_of_getElem? (i := 49) rfl), lm_t1 _ (List.mem_of_getElem? (i := 3) rfl), ⟨pn_X6.2.1, pn_X6.2.2, by decide +kernel⟩, lm_t3 _ (List.mem_of_getElem? (i := 47) rfl), lm_t3 _ (List.mem_of_getElem? (i := 48) rfl), TX6, 8, rfl⟩
def mX6_circuits : amM := (yX6_circuits, cX6_circuits, 1, (some (.object "PlaneCuts$Listing")), 4, 104)
theorem nv_X6_circuits : am_NV mX6_circuits 6 0 := ⟨pn_X6.1, lm_t3 _ (List.mem_of_getElem? (i := 73) rfl), lm_t1 _ (List.mem_of_getElem? (i := 3) rfl), ⟨pn_X6.2.1, pn_X6.2.2, by decide +kernel⟩, lm_t3 _ (List.mem_of_getElem? (i := 71) rfl), lm_t3 _ (List.mem_of_getElem? (i := 72) rfl), TX6, 8, rfl⟩
def mX6_factorsOf : amM := (yX6_factorsOf, cX6_factorsOf, 6, (some (.array .int)), 2, 55)
theorem nv_X6_factorsOf : am_NV mX6_factorsOf 6 1 := ⟨pn_X6.1, lm_t3 _ (List.mem_of_getElem? (i := 81) rfl), lm_t1 _ (List.mem_of_getElem? (i := 3) rfl), ⟨pn_X6.2.1, pn_X6.2.2, by decide +kernel⟩, lm_t3 _ (List.mem_of_getElem? (i := 79) rfl), lm_t3 _ (List.mem_of_getElem? (i := 80) rfl), TX6, 8, rfl⟩
def mX6_commonDivisor : amM := (yX6_commonDivisor, cX6_commonDivisor, 11, (some .long), 1, 21)
theorem ns_X6_commonDivisor : am_NS mX6_commonDivisor 2 := ⟨pn_X6.1, lm_t3 _ (List.mem_of_getElem? (i := 92) rfl), lm_t1 _ (List.mem_of_getElem? (i := 3) rfl), ⟨pn_X6.2.1, pn_X6.2.2, by decide +kernel⟩, lm_t3 _ (List.mem_of_getElem? (i := 91) rfl)⟩
def mX6_coefficient : amM := (yX6_coefficient, cX6_coefficient, 3, (some .int), 4, 104)
theorem nv_X6_coefficient : am_NV mX6_coefficient 6 2 := ⟨pn_X6.1, lm_t3 _ (List.mem_of_getElem? (i := 106) rfl), lm_t1 _ (List.mem_of_getElem? (i := 3) rfl), ⟨pn_X6.2.1, pn_X6.2.2, by decide +kernel⟩, lm_t3 _ (List.mem_of_getElem? (i := 104) rfl), lm_t3 _ (List.mem_of_getElem? (i := 105) rfl), TX6, 8, rfl⟩
def mX6_coefficientFromRanks : amM := (yX6_coefficientFromRanks, cX6_coefficientFromRanks, 6, (some .int), 1, 20)
theorem nv_X6_coefficientFromRanks : am_NV mX6_coefficientFromRanks 6 2 := ⟨pn_X6.1, lm_t2 _ (List.mem_of_getElem? (i := 218) rfl), lm_t1 _ (List.mem_of_getElem? (i := 3) rfl), ⟨pn_X6.2.1, pn_X6.2.2, by decide +kernel⟩, lm_t2 _ (List.mem_of_getElem? (i := 217) rfl), lm_s1 _ (List.mem_of_getElem? (i := 10) rfl), TX6, 8, rfl⟩
def mX6_moebius : amM := (yX6_moebius, cX6_moebius, 2, (some .int), 4, 104)
theorem nv_X6_moebius : am_NV mX6_moebius 6 1 := ⟨pn_X6.1, lm_t3 _ (List.mem_of_getElem? (i := 65) rfl), lm_t1 _ (List.mem_of_getElem? (i := 3) rfl), ⟨pn_X6.2.1, pn_X6.2.2, by decide +kernel⟩, lm_t3 _ (List.mem_of_getElem? (i := 63) rfl), lm_t3 _ (List.mem_of_getElem? (i := 64) rfl), TX6, 8, rfl⟩
def mX6_valueAt : amM := (yX6_valueAt, cX6_valueAt, 4, (some .int), 4, 104)
theorem nv_X6_valueAt : am_NV mX6_valueAt 6 1 := ⟨pn_X6.1, lm_t2 _ (List.mem_of_getElem? (i := 162) rfl), lm_t1 _ (List.mem_of_getElem? (i := 3) rfl), ⟨pn_X6.2.1, pn_X6.2.2, by decide +kernel⟩, lm_t2 _ (List.mem_of_getElem? (i := 160) rfl), lm_t2 _ (List.mem_of_getElem? (i := 161) rfl), TX6, 8, rfl⟩
def mX6_countRegions : amM := (yX6_countRegions, cX6_countRegions, 1, (some .int), 5, 127)
theorem nv_X6_countRegions : am_NV mX6_countRegions 6 0 := ⟨pn_X6.1, lm_t2 _ (List.mem_of_getElem? (i := 158) rfl), lm_t1 _ (List.mem_of_getElem? (i := 3) rfl), ⟨pn_X6.2.1, pn_X6.2.2, by decide +kernel⟩, lm_t2 _ (List.mem_of_getElem? (i := 156) rfl), lm_t2 _ (List.mem_of_getElem? (i := 157) rfl), TX6, 8, rfl⟩
def mX7_refresh : amM := (yX7_refresh, cX7_refresh, 3, none, 4, 104)
theorem nv_X7_refresh : am_NV mX7_refresh 7 0 := ⟨pn_X7.1, lm_t3 _ (List.mem_of_getElem? (i := 178) rfl), lm_t1 _ (List.mem_of_getElem? (i := 9) rfl), ⟨pn_X7.2.1, pn_X7.2.2, by decide +kernel⟩, lm_t3 _ (List.mem_of_getElem? (i := 177) rfl), lm_s2 _ (List.mem_of_getElem? (i := 1) rfl), TX7, 6, rfl⟩
def mX7_isModular : amM := (yX7_isModular, cX7_isModular, 4, (some .boolean), 1, 20)
theorem nv_X7_isModular : am_NV mX7_isModular 7 1 := ⟨pn_X7.1, lm_t3 _ (List.mem_of_getElem? (i := 184) rfl), lm_t1 _ (List.mem_of_getElem? (i := 9) rfl), ⟨pn_X7.2.1, pn_X7.2.2, by decide +kernel⟩, lm_t3 _ (List.mem_of_getElem? (i := 183) rfl), lm_s2 _ (List.mem_of_getElem? (i := 2) rfl), TX7, 6, rfl⟩
def mX7_nextAbove : amM := (yX7_nextAbove, cX7_nextAbove, 3, (some .int), 1, 20)
theorem nv_X7_nextAbove : am_NV mX7_nextAbove 7 1 := ⟨pn_X7.1, lm_t3 _ (List.mem_of_getElem? (i := 188) rfl), lm_t1 _ (List.mem_of_getElem? (i := 9) rfl), ⟨pn_X7.2.1, pn_X7.2.2, by decide +kernel⟩, lm_t3 _ (List.mem_of_getElem? (i := 187) rfl), lm_s2 _ (List.mem_of_getElem? (i := 3) rfl), TX7, 6, rfl⟩
def mX7_hasChain : amM := (yX7_hasChain, cX7_hasChain, 1, (some .boolean), 5, 126)
theorem nv_X7_hasChain : am_NV mX7_hasChain 7 0 := ⟨pn_X7.1, lm_t3 _ (List.mem_of_getElem? (i := 174) rfl), lm_t1 _ (List.mem_of_getElem? (i := 9) rfl), ⟨pn_X7.2.1, pn_X7.2.2, by decide +kernel⟩, lm_t3 _ (List.mem_of_getElem? (i := 172) rfl), lm_t3 _ (List.mem_of_getElem? (i := 173) rfl), TX7, 6, rfl⟩
def mX7_linkAt : amM := (yX7_linkAt, cX7_linkAt, 2, (some .int), 5, 126)
theorem nv_X7_linkAt : am_NV mX7_linkAt 7 1 := ⟨pn_X7.1, lm_t3 _ (List.mem_of_getElem? (i := 193) rfl), lm_t1 _ (List.mem_of_getElem? (i := 9) rfl), ⟨pn_X7.2.1, pn_X7.2.2, by decide +kernel⟩, lm_t3 _ (List.mem_of_getElem? (i := 191) rfl), lm_t3 _ (List.mem_of_getElem? (i := 192) rfl), TX7, 6, rfl⟩
def mX7_stepAt : amM := (yX7_stepAt, cX7_stepAt, 2, (some .int), 5, 126)
theorem nv_X7_stepAt : am_NV mX7_stepAt 7 1 := ⟨pn_X7.1, lm_t3 _ (List.mem_of_getElem? (i := 197) rfl), lm_t1 _ (List.mem_of_getElem? (i := 9) rfl), ⟨pn_X7.2.1, pn_X7.2.2, by decide +kernel⟩, lm_t3 _ (List.mem_of_getElem? (i := 195) rfl), lm_t3 _ (List.mem_of_getElem? (i := 196) rfl), TX7, 6, rfl⟩
def mX7_countOfRank : amM := (yX7_countOfRank, cX7_countOfRank, 4, (some .int), 5, 126)
theorem nv_X7_countOfRank : am_NV mX7_countOfRank 7 1 := ⟨pn_X7.1, lm_t3 _ (List.mem_of_getElem? (i := 206) rfl), lm_t1 _ (List.mem_of_getElem? (i := 9) rfl), ⟨pn_X7.2.1, pn_X7.2.2, by decide +kernel⟩, lm_t3 _ (List.mem_of_getElem? (i := 204) rfl), lm_t3 _ (List.mem_of_getElem? (i := 205) rfl), TX7, 6, rfl⟩
def mX8_refresh : amM := (yX8_refresh, cX8_refresh, 5, none, 4, 104)
theorem nv_X8_refresh : am_NV mX8_refresh 8 0 := ⟨pn_X8.1, lm_t3 _ (List.mem_of_getElem? (i := 128) rfl), lm_t1 _ (List.mem_of_getElem? (i := 8) rfl), ⟨pn_X8.2.1, pn_X8.2.2, by decide +kernel⟩, lm_t3 _ (List.mem_of_getElem? (i := 127) rfl), lm_s1 _ (List.mem_of_getElem? (i := 13) rfl), TX8, 6, rfl⟩
def mX8_positivePart : amM := (yX8_positivePart, cX8_positivePart, 5, (some .int), 3, 80)
theorem nv_X8_positivePart : am_NV mX8_positivePart 8 1 := ⟨pn_X8.1, lm_t3 _ (List.mem_of_getElem? (i := 134) rfl), lm_t1 _ (List.mem_of_getElem? (i := 8) rfl), ⟨pn_X8.2.1, pn_X8.2.2, by decide +kernel⟩, lm_t3 _ (List.mem_of_getElem? (i := 133) rfl), lm_s1 _ (List.mem_of_getElem? (i := 14) rfl), TX8, 6, rfl⟩
def mX8_strike : amM := (yX8_strike, cX8_strike, 7, none, 1, 20)
theorem nv_X8_strike : am_NV mX8_strike 8 2 := ⟨pn_X8.1, lm_t3 _ (List.mem_of_getElem? (i := 139) rfl), lm_t1 _ (List.mem_of_getElem? (i := 8) rfl), ⟨pn_X8.2.1, pn_X8.2.2, by decide +kernel⟩, lm_t3 _ (List.mem_of_getElem? (i := 138) rfl), lm_s1 _ (List.mem_of_getElem? (i := 15) rfl), TX8, 6, rfl⟩
def mX8_listed : amM := (yX8_listed, cX8_listed, 1, (some (.object "PlaneCuts$Listing")), 5, 128)
theorem nv_X8_listed : am_NV mX8_listed 8 0 := ⟨pn_X8.1, lm_t3 _ (List.mem_of_getElem? (i := 124) rfl), lm_t1 _ (List.mem_of_getElem? (i := 8) rfl), ⟨pn_X8.2.1, pn_X8.2.2, by decide +kernel⟩, lm_t3 _ (List.mem_of_getElem? (i := 122) rfl), lm_t3 _ (List.mem_of_getElem? (i := 123) rfl), TX8, 6, rfl⟩
def mX8_isRegion : amM := (yX8_isRegion, cX8_isRegion, 2, (some .boolean), 5, 128)
theorem nv_X8_isRegion : am_NV mX8_isRegion 8 1 := ⟨pn_X8.1, lm_t3 _ (List.mem_of_getElem? (i := 149) rfl), lm_t1 _ (List.mem_of_getElem? (i := 8) rfl), ⟨pn_X8.2.1, pn_X8.2.2, by decide +kernel⟩, lm_t3 _ (List.mem_of_getElem? (i := 147) rfl), lm_t3 _ (List.mem_of_getElem? (i := 148) rfl), TX8, 6, rfl⟩
def mX8_wallsOf : amM := (yX8_wallsOf, cX8_wallsOf, 4, (some .int), 5, 128)
theorem nv_X8_wallsOf : am_NV mX8_wallsOf 8 1 := ⟨pn_X8.1, lm_t3 _ (List.mem_of_getElem? (i := 153) rfl), lm_t1 _ (List.mem_of_getElem? (i := 8) rfl), ⟨pn_X8.2.1, pn_X8.2.2, by decide +kernel⟩, lm_t3 _ (List.mem_of_getElem? (i := 151) rfl), lm_t3 _ (List.mem_of_getElem? (i := 152) rfl), TX8, 6, rfl⟩
def mX8_countGalleries : amM := (yX8_countGalleries, cX8_countGalleries, 5, (some .int), 5, 128)
theorem nv_X8_countGalleries : am_NV mX8_countGalleries 8 2 := ⟨pn_X8.1, lm_t3 _ (List.mem_of_getElem? (i := 162) rfl), lm_t1 _ (List.mem_of_getElem? (i := 8) rfl), ⟨pn_X8.2.1, pn_X8.2.2, by decide +kernel⟩, lm_t3 _ (List.mem_of_getElem? (i := 160) rfl), lm_t3 _ (List.mem_of_getElem? (i := 161) rfl), TX8, 6, rfl⟩
def mX8_sumOfEarlier : amM := (yX8_sumOfEarlier, cX8_sumOfEarlier, 4, (some .int), 0, 0)
theorem nv_X8_sumOfEarlier : am_NV mX8_sumOfEarlier 8 1 := ⟨pn_X8.1, lm_t3 _ (List.mem_of_getElem? (i := 166) rfl), lm_t1 _ (List.mem_of_getElem? (i := 8) rfl), ⟨pn_X8.2.1, pn_X8.2.2, by decide +kernel⟩, lm_t3 _ (List.mem_of_getElem? (i := 165) rfl), lm_s2 _ (List.mem_of_getElem? (i := 0) rfl), TX8, 6, rfl⟩
def mX9_append : amM := (yX9_append, cX9_append, 2, (some .boolean), 0, 0)
theorem nv_X9_append : am_NV mX9_append 9 1 := ⟨pn_X9.1, lm_t4 _ (List.mem_of_getElem? (i := 34) rfl), lm_t1 _ (List.mem_of_getElem? (i := 12) rfl), ⟨pn_X9.2.1, pn_X9.2.2, by decide +kernel⟩, lm_t4 _ (List.mem_of_getElem? (i := 32) rfl), lm_t4 _ (List.mem_of_getElem? (i := 33) rfl), TX9, 6, rfl⟩
def mX9_verb : amM := (yX9_verb, cX9_verb, 2, (some .int), 0, 0)
theorem nv_X9_verb : am_NV mX9_verb 9 1 := ⟨pn_X9.1, lm_t4 _ (List.mem_of_getElem? (i := 78) rfl), lm_t1 _ (List.mem_of_getElem? (i := 12) rfl), ⟨pn_X9.2.1, pn_X9.2.2, by decide +kernel⟩, lm_t4 _ (List.mem_of_getElem? (i := 76) rfl), lm_t4 _ (List.mem_of_getElem? (i := 77) rfl), TX9, 6, rfl⟩
def mX9_number : amM := (yX9_number, cX9_number, 3, (some .int), 0, 0)
theorem nv_X9_number : am_NV mX9_number 9 2 := ⟨pn_X9.1, lm_t4 _ (List.mem_of_getElem? (i := 69) rfl), lm_t1 _ (List.mem_of_getElem? (i := 12) rfl), ⟨pn_X9.2.1, pn_X9.2.2, by decide +kernel⟩, lm_t4 _ (List.mem_of_getElem? (i := 67) rfl), lm_t4 _ (List.mem_of_getElem? (i := 68) rfl), TX9, 6, rfl⟩
def mX9_parse : amM := (yX9_parse, cX9_parse, 4, (some .int), 4, 93)
theorem nv_X9_parse : am_NV mX9_parse 9 1 := ⟨pn_X9.1, lm_t4 _ (List.mem_of_getElem? (i := 46) rfl), lm_t1 _ (List.mem_of_getElem? (i := 12) rfl), ⟨pn_X9.2.1, pn_X9.2.2, by decide +kernel⟩, lm_t4 _ (List.mem_of_getElem? (i := 44) rfl), lm_t4 _ (List.mem_of_getElem? (i := 45) rfl), TX9, 6, rfl⟩
def mX9_readCommand : amM := (yX9_readCommand, cX9_readCommand, 5, (some .boolean), 3, 69)
theorem nv_X9_readCommand : am_NV mX9_readCommand 9 1 := ⟨pn_X9.1, lm_t4 _ (List.mem_of_getElem? (i := 58) rfl), lm_t1 _ (List.mem_of_getElem? (i := 12) rfl), ⟨pn_X9.2.1, pn_X9.2.2, by decide +kernel⟩, lm_t4 _ (List.mem_of_getElem? (i := 57) rfl), lm_s2 _ (List.mem_of_getElem? (i := 10) rfl), TX9, 6, rfl⟩
def mX9_countNumbers : amM := (yX9_countNumbers, cX9_countNumbers, 2, (some .int), 0, 0)
theorem ns_X9_countNumbers : am_NS mX9_countNumbers 2 := ⟨pn_X9.1, lm_t4 _ (List.mem_of_getElem? (i := 61) rfl), lm_t1 _ (List.mem_of_getElem? (i := 12) rfl), ⟨pn_X9.2.1, pn_X9.2.2, by decide +kernel⟩, lm_t4 _ (List.mem_of_getElem? (i := 60) rfl)⟩
def mX9_readNumber : amM := (yX9_readNumber, cX9_readNumber, 7, (some .boolean), 2, 43)
theorem nv_X9_readNumber : am_NV mX9_readNumber 9 2 := ⟨pn_X9.1, lm_t4 _ (List.mem_of_getElem? (i := 65) rfl), lm_t1 _ (List.mem_of_getElem? (i := 12) rfl), ⟨pn_X9.2.1, pn_X9.2.2, by decide +kernel⟩, lm_t4 _ (List.mem_of_getElem? (i := 64) rfl), lm_s2 _ (List.mem_of_getElem? (i := 11) rfl), TX9, 6, rfl⟩
def mX9_isBetween : amM := (yX9_isBetween, cX9_isBetween, 3, (some .boolean), 0, 0)
theorem nv_X9_isBetween : am_NV mX9_isBetween 9 2 := ⟨pn_X9.1, lm_t4 _ (List.mem_of_getElem? (i := 54) rfl), lm_t1 _ (List.mem_of_getElem? (i := 12) rfl), ⟨pn_X9.2.1, pn_X9.2.2, by decide +kernel⟩, lm_t4 _ (List.mem_of_getElem? (i := 53) rfl), lm_s2 _ (List.mem_of_getElem? (i := 9) rfl), TX9, 6, rfl⟩
def mX9_skipSpaces : amM := (yX9_skipSpaces, cX9_skipSpaces, 2, none, 1, 22)
theorem nv_X9_skipSpaces : am_NV mX9_skipSpaces 9 0 := ⟨pn_X9.1, lm_t4 _ (List.mem_of_getElem? (i := 50) rfl), lm_t1 _ (List.mem_of_getElem? (i := 12) rfl), ⟨pn_X9.2.1, pn_X9.2.2, by decide +kernel⟩, lm_t4 _ (List.mem_of_getElem? (i := 49) rfl), lm_s2 _ (List.mem_of_getElem? (i := 8) rfl), TX9, 6, rfl⟩
def mX10_space : amM := (yX10_space, cX10_space, 2, (some .int), 4, 93)
theorem nv_X10_space : am_NV mX10_space 10 1 := ⟨pn_X10.1, lm_t2 _ (List.mem_of_getElem? (i := 92) rfl), lm_t1 _ (List.mem_of_getElem? (i := 1) rfl), ⟨pn_X10.2.1, pn_X10.2.2, by decide +kernel⟩, lm_t2 _ (List.mem_of_getElem? (i := 90) rfl), lm_t2 _ (List.mem_of_getElem? (i := 91) rfl), TX10, 14, rfl⟩
def mX10_plane : amM := (yX10_plane, cX10_plane, 5, (some .int), 4, 93)
theorem nv_X10_plane : am_NV mX10_plane 10 4 := ⟨pn_X10.1, lm_t2 _ (List.mem_of_getElem? (i := 123) rfl), lm_t1 _ (List.mem_of_getElem? (i := 1) rfl), ⟨pn_X10.2.1, pn_X10.2.2, by decide +kernel⟩, lm_t2 _ (List.mem_of_getElem? (i := 121) rfl), lm_t2 _ (List.mem_of_getElem? (i := 122) rfl), TX10, 14, rfl⟩
def mX10_turns : amM := (yX10_turns, cX10_turns, 3, (some .int), 6, 147)
theorem nv_X10_turns : am_NV mX10_turns 10 1 := ⟨pn_X10.1, lm_t2 _ (List.mem_of_getElem? (i := 146) rfl), lm_t1 _ (List.mem_of_getElem? (i := 1) rfl), ⟨pn_X10.2.1, pn_X10.2.2, by decide +kernel⟩, lm_t2 _ (List.mem_of_getElem? (i := 144) rfl), lm_t2 _ (List.mem_of_getElem? (i := 145) rfl), TX10, 14, rfl⟩
def mX10_drops : amM := (yX10_drops, cX10_drops, 2, (some .int), 4, 93)
theorem nv_X10_drops : am_NV mX10_drops 10 1 := ⟨pn_X10.1, lm_t2 _ (List.mem_of_getElem? (i := 225) rfl), lm_t1 _ (List.mem_of_getElem? (i := 1) rfl), ⟨pn_X10.2.1, pn_X10.2.2, by decide +kernel⟩, lm_t2 _ (List.mem_of_getElem? (i := 223) rfl), lm_t2 _ (List.mem_of_getElem? (i := 224) rfl), TX10, 14, rfl⟩
def mX10_swaps : amM := (yX10_swaps, cX10_swaps, 4, (some .int), 5, 125)
theorem nv_X10_swaps : am_NV mX10_swaps 10 2 := ⟨pn_X10.1, lm_t2 _ (List.mem_of_getElem? (i := 233) rfl), lm_t1 _ (List.mem_of_getElem? (i := 1) rfl), ⟨pn_X10.2.1, pn_X10.2.2, by decide +kernel⟩, lm_t2 _ (List.mem_of_getElem? (i := 231) rfl), lm_t2 _ (List.mem_of_getElem? (i := 232) rfl), TX10, 14, rfl⟩
def mX10_makes : amM := (yX10_makes, cX10_makes, 2, (some .int), 4, 95)
theorem nv_X10_makes : am_NV mX10_makes 10 1 := ⟨pn_X10.1, lm_t3 _ (List.mem_of_getElem? (i := 6) rfl), lm_t1 _ (List.mem_of_getElem? (i := 1) rfl), ⟨pn_X10.2.1, pn_X10.2.2, by decide +kernel⟩, lm_t3 _ (List.mem_of_getElem? (i := 4) rfl), lm_t3 _ (List.mem_of_getElem? (i := 5) rfl), TX10, 14, rfl⟩
def mX10_of : amM := (yX10_of, cX10_of, 3, (some .int), 1, 22)
theorem nv_X10_of : am_NV mX10_of 10 2 := ⟨pn_X10.1, lm_t3 _ (List.mem_of_getElem? (i := 22) rfl), lm_t1 _ (List.mem_of_getElem? (i := 1) rfl), ⟨pn_X10.2.1, pn_X10.2.2, by decide +kernel⟩, lm_t3 _ (List.mem_of_getElem? (i := 20) rfl), lm_t3 _ (List.mem_of_getElem? (i := 21) rfl), TX10, 14, rfl⟩
def mX10_rank : amM := (yX10_rank, cX10_rank, 2, (some .int), 5, 125)
theorem nv_X10_rank : am_NV mX10_rank 10 1 := ⟨pn_X10.1, lm_t3 _ (List.mem_of_getElem? (i := 28) rfl), lm_t1 _ (List.mem_of_getElem? (i := 1) rfl), ⟨pn_X10.2.1, pn_X10.2.2, by decide +kernel⟩, lm_t3 _ (List.mem_of_getElem? (i := 26) rfl), lm_t3 _ (List.mem_of_getElem? (i := 27) rfl), TX10, 14, rfl⟩
def mX10_closed : amM := (yX10_closed, cX10_closed, 2, (some .int), 5, 125)
theorem nv_X10_closed : am_NV mX10_closed 10 1 := ⟨pn_X10.1, lm_t3 _ (List.mem_of_getElem? (i := 37) rfl), lm_t1 _ (List.mem_of_getElem? (i := 1) rfl), ⟨pn_X10.2.1, pn_X10.2.2, by decide +kernel⟩, lm_t3 _ (List.mem_of_getElem? (i := 35) rfl), lm_t3 _ (List.mem_of_getElem? (i := 36) rfl), TX10, 14, rfl⟩
def mX10_flats : amM := (yX10_flats, cX10_flats, 3, (some .int), 5, 126)
theorem nv_X10_flats : am_NV mX10_flats 10 2 := ⟨pn_X10.1, lm_t3 _ (List.mem_of_getElem? (i := 45) rfl), lm_t1 _ (List.mem_of_getElem? (i := 1) rfl), ⟨pn_X10.2.1, pn_X10.2.2, by decide +kernel⟩, lm_t3 _ (List.mem_of_getElem? (i := 43) rfl), lm_t3 _ (List.mem_of_getElem? (i := 44) rfl), TX10, 14, rfl⟩
def mX10_sign : amM := (yX10_sign, cX10_sign, 2, (some .int), 5, 125)
theorem nv_X10_sign : am_NV mX10_sign 10 1 := ⟨pn_X10.1, lm_t3 _ (List.mem_of_getElem? (i := 57) rfl), lm_t1 _ (List.mem_of_getElem? (i := 1) rfl), ⟨pn_X10.2.1, pn_X10.2.2, by decide +kernel⟩, lm_t3 _ (List.mem_of_getElem? (i := 55) rfl), lm_t3 _ (List.mem_of_getElem? (i := 56) rfl), TX10, 14, rfl⟩
def mX10_rings : amM := (yX10_rings, cX10_rings, 2, (some .int), 5, 124)
theorem nv_X10_rings : am_NV mX10_rings 10 1 := ⟨pn_X10.1, lm_t3 _ (List.mem_of_getElem? (i := 69) rfl), lm_t1 _ (List.mem_of_getElem? (i := 1) rfl), ⟨pn_X10.2.1, pn_X10.2.2, by decide +kernel⟩, lm_t3 _ (List.mem_of_getElem? (i := 67) rfl), lm_t3 _ (List.mem_of_getElem? (i := 68) rfl), TX10, 14, rfl⟩
def mX10_factor : amM := (yX10_factor, cX10_factor, 4, (some .int), 5, 124)
theorem nv_X10_factor : am_NV mX10_factor 10 2 := ⟨pn_X10.1, lm_t3 _ (List.mem_of_getElem? (i := 77) rfl), lm_t1 _ (List.mem_of_getElem? (i := 1) rfl), ⟨pn_X10.2.1, pn_X10.2.2, by decide +kernel⟩, lm_t3 _ (List.mem_of_getElem? (i := 75) rfl), lm_t3 _ (List.mem_of_getElem? (i := 76) rfl), TX10, 14, rfl⟩
def mX10_polynomial : amM := (yX10_polynomial, cX10_polynomial, 3, (some .int), 5, 126)
theorem nv_X10_polynomial : am_NV mX10_polynomial 10 2 := ⟨pn_X10.1, lm_t3 _ (List.mem_of_getElem? (i := 102) rfl), lm_t1 _ (List.mem_of_getElem? (i := 1) rfl), ⟨pn_X10.2.1, pn_X10.2.2, by decide +kernel⟩, lm_t3 _ (List.mem_of_getElem? (i := 100) rfl), lm_t3 _ (List.mem_of_getElem? (i := 101) rfl), TX10, 14, rfl⟩
def mX10_value : amM := (yX10_value, cX10_value, 2, (some .int), 5, 127)
theorem nv_X10_value : am_NV mX10_value 10 1 := ⟨pn_X10.1, lm_t3 _ (List.mem_of_getElem? (i := 110) rfl), lm_t1 _ (List.mem_of_getElem? (i := 1) rfl), ⟨pn_X10.2.1, pn_X10.2.2, by decide +kernel⟩, lm_t3 _ (List.mem_of_getElem? (i := 108) rfl), lm_t3 _ (List.mem_of_getElem? (i := 109) rfl), TX10, 14, rfl⟩
def mX10_within : amM := (yX10_within, cX10_within, 4, (some .int), 5, 126)
theorem nv_X10_within : am_NV mX10_within 10 2 := ⟨pn_X10.1, lm_t3 _ (List.mem_of_getElem? (i := 116) rfl), lm_t1 _ (List.mem_of_getElem? (i := 1) rfl), ⟨pn_X10.2.1, pn_X10.2.2, by decide +kernel⟩, lm_t3 _ (List.mem_of_getElem? (i := 114) rfl), lm_t3 _ (List.mem_of_getElem? (i := 115) rfl), TX10, 14, rfl⟩
def mX10_parts : amM := (yX10_parts, cX10_parts, 2, (some .int), 6, 148)
theorem nv_X10_parts : am_NV mX10_parts 10 1 := ⟨pn_X10.1, lm_t3 _ (List.mem_of_getElem? (i := 120) rfl), lm_t1 _ (List.mem_of_getElem? (i := 1) rfl), ⟨pn_X10.2.1, pn_X10.2.2, by decide +kernel⟩, lm_t3 _ (List.mem_of_getElem? (i := 118) rfl), lm_t3 _ (List.mem_of_getElem? (i := 119) rfl), TX10, 14, rfl⟩
def mX10_walls : amM := (yX10_walls, cX10_walls, 2, (some .int), 6, 151)
theorem nv_X10_walls : am_NV mX10_walls 10 1 := ⟨pn_X10.1, lm_t3 _ (List.mem_of_getElem? (i := 145) rfl), lm_t1 _ (List.mem_of_getElem? (i := 1) rfl), ⟨pn_X10.2.1, pn_X10.2.2, by decide +kernel⟩, lm_t3 _ (List.mem_of_getElem? (i := 143) rfl), lm_t3 _ (List.mem_of_getElem? (i := 144) rfl), TX10, 14, rfl⟩
def mX10_way : amM := (yX10_way, cX10_way, 4, (some .int), 6, 152)
theorem nv_X10_way : am_NV mX10_way 10 3 := ⟨pn_X10.1, lm_t3 _ (List.mem_of_getElem? (i := 157) rfl), lm_t1 _ (List.mem_of_getElem? (i := 1) rfl), ⟨pn_X10.2.1, pn_X10.2.2, by decide +kernel⟩, lm_t3 _ (List.mem_of_getElem? (i := 155) rfl), lm_t3 _ (List.mem_of_getElem? (i := 156) rfl), TX10, 14, rfl⟩
def mX10_chain : amM := (yX10_chain, cX10_chain, 4, (some .int), 6, 147)
theorem nv_X10_chain : am_NV mX10_chain 10 2 := ⟨pn_X10.1, lm_t3 _ (List.mem_of_getElem? (i := 170) rfl), lm_t1 _ (List.mem_of_getElem? (i := 1) rfl), ⟨pn_X10.2.1, pn_X10.2.2, by decide +kernel⟩, lm_t3 _ (List.mem_of_getElem? (i := 168) rfl), lm_t3 _ (List.mem_of_getElem? (i := 169) rfl), TX10, 14, rfl⟩
def mX10_even : amM := (yX10_even, cX10_even, 2, (some .int), 6, 149)
theorem nv_X10_even : am_NV mX10_even 10 1 := ⟨pn_X10.1, lm_t3 _ (List.mem_of_getElem? (i := 202) rfl), lm_t1 _ (List.mem_of_getElem? (i := 1) rfl), ⟨pn_X10.2.1, pn_X10.2.2, by decide +kernel⟩, lm_t3 _ (List.mem_of_getElem? (i := 200) rfl), lm_t3 _ (List.mem_of_getElem? (i := 201) rfl), TX10, 14, rfl⟩
def mX10_places : amM := (yX10_places, cX10_places, 4, (some .int), 6, 149)
theorem nv_X10_places : am_NV mX10_places 10 2 := ⟨pn_X10.1, lm_t3 _ (List.mem_of_getElem? (i := 210) rfl), lm_t1 _ (List.mem_of_getElem? (i := 1) rfl), ⟨pn_X10.2.1, pn_X10.2.2, by decide +kernel⟩, lm_t3 _ (List.mem_of_getElem? (i := 208) rfl), lm_t3 _ (List.mem_of_getElem? (i := 209) rfl), TX10, 14, rfl⟩
def mX10_base : amM := (yX10_base, cX10_base, 3, (some .int), 6, 149)
theorem nv_X10_base : am_NV mX10_base 10 2 := ⟨pn_X10.1, lm_t4 _ (List.mem_of_getElem? (i := 0) rfl), lm_t1 _ (List.mem_of_getElem? (i := 1) rfl), ⟨pn_X10.2.1, pn_X10.2.2, by decide +kernel⟩, lm_t3 _ (List.mem_of_getElem? (i := 238) rfl), lm_t3 _ (List.mem_of_getElem? (i := 239) rfl), TX10, 14, rfl⟩
def mX10_form : amM := (yX10_form, cX10_form, 4, (some .int), 6, 150)
theorem nv_X10_form : am_NV mX10_form 10 2 := ⟨pn_X10.1, lm_t4 _ (List.mem_of_getElem? (i := 18) rfl), lm_t1 _ (List.mem_of_getElem? (i := 1) rfl), ⟨pn_X10.2.1, pn_X10.2.2, by decide +kernel⟩, lm_t4 _ (List.mem_of_getElem? (i := 16) rfl), lm_t4 _ (List.mem_of_getElem? (i := 17) rfl), TX10, 14, rfl⟩
def mX10_type : amM := (yX10_type, cX10_type, 2, (some .int), 1, 21)
theorem nv_X10_type : am_NV mX10_type 10 1 := ⟨pn_X10.1, lm_t4 _ (List.mem_of_getElem? (i := 30) rfl), lm_t1 _ (List.mem_of_getElem? (i := 1) rfl), ⟨pn_X10.2.1, pn_X10.2.2, by decide +kernel⟩, lm_t4 _ (List.mem_of_getElem? (i := 28) rfl), lm_t4 _ (List.mem_of_getElem? (i := 29) rfl), TX10, 14, rfl⟩
def mX10_clear : amM := (yX10_clear, cX10_clear, 2, (some .int), 0, 0)
theorem nv_X10_clear : am_NV mX10_clear 10 0 := ⟨pn_X10.1, lm_t4 _ (List.mem_of_getElem? (i := 38) rfl), lm_t1 _ (List.mem_of_getElem? (i := 1) rfl), ⟨pn_X10.2.1, pn_X10.2.2, by decide +kernel⟩, lm_t4 _ (List.mem_of_getElem? (i := 36) rfl), lm_t4 _ (List.mem_of_getElem? (i := 37) rfl), TX10, 14, rfl⟩
def mX10_reads : amM := (yX10_reads, cX10_reads, 4, (some .int), 5, 118)
theorem nv_X10_reads : am_NV mX10_reads 10 0 := ⟨pn_X10.1, lm_t4 _ (List.mem_of_getElem? (i := 42) rfl), lm_t1 _ (List.mem_of_getElem? (i := 1) rfl), ⟨pn_X10.2.1, pn_X10.2.2, by decide +kernel⟩, lm_t4 _ (List.mem_of_getElem? (i := 40) rfl), lm_t4 _ (List.mem_of_getElem? (i := 41) rfl), TX10, 14, rfl⟩
def mX10_why : amM := (yX10_why, cX10_why, 2, (some .int), 1, 21)
theorem nv_X10_why : am_NV mX10_why 10 1 := ⟨pn_X10.1, lm_t4 _ (List.mem_of_getElem? (i := 82) rfl), lm_t1 _ (List.mem_of_getElem? (i := 1) rfl), ⟨pn_X10.2.1, pn_X10.2.2, by decide +kernel⟩, lm_t4 _ (List.mem_of_getElem? (i := 80) rfl), lm_t4 _ (List.mem_of_getElem? (i := 81) rfl), TX10, 14, rfl⟩
def mX10_back : amM := (yX10_back, cX10_back, 1, (some .int), 3, 72)
theorem nv_X10_back : am_NV mX10_back 10 0 := ⟨pn_X10.1, lm_t4 _ (List.mem_of_getElem? (i := 86) rfl), lm_t1 _ (List.mem_of_getElem? (i := 1) rfl), ⟨pn_X10.2.1, pn_X10.2.2, by decide +kernel⟩, lm_t4 _ (List.mem_of_getElem? (i := 84) rfl), lm_t4 _ (List.mem_of_getElem? (i := 85) rfl), TX10, 14, rfl⟩
def mX10_told : amM := (yX10_told, cX10_told, 2, (some .int), 5, 125)
theorem nv_X10_told : am_NV mX10_told 10 1 := ⟨pn_X10.1, lm_t4 _ (List.mem_of_getElem? (i := 94) rfl), lm_t1 _ (List.mem_of_getElem? (i := 1) rfl), ⟨pn_X10.2.1, pn_X10.2.2, by decide +kernel⟩, lm_t4 _ (List.mem_of_getElem? (i := 92) rfl), lm_t4 _ (List.mem_of_getElem? (i := 93) rfl), TX10, 14, rfl⟩
def mX10_digest : amM := (yX10_digest, cX10_digest, 5, (some .long), 6, 149)
theorem nv_X10_digest : am_NV mX10_digest 10 0 := ⟨pn_X10.1, lm_t4 _ (List.mem_of_getElem? (i := 98) rfl), lm_t1 _ (List.mem_of_getElem? (i := 1) rfl), ⟨pn_X10.2.1, pn_X10.2.2, by decide +kernel⟩, lm_t4 _ (List.mem_of_getElem? (i := 96) rfl), lm_t4 _ (List.mem_of_getElem? (i := 97) rfl), TX10, 14, rfl⟩
def mX10_mixed : amM := (yX10_mixed, cX10_mixed, 4, (some .long), 0, 0)
theorem ns_X10_mixed : am_NS mX10_mixed 2 := ⟨pn_X10.1, lm_t4 _ (List.mem_of_getElem? (i := 103) rfl), lm_t1 _ (List.mem_of_getElem? (i := 1) rfl), ⟨pn_X10.2.1, pn_X10.2.2, by decide +kernel⟩, lm_t4 _ (List.mem_of_getElem? (i := 102) rfl)⟩
def mX10_refused : amM := (yX10_refused, cX10_refused, 2, (some .int), 0, 0)
theorem nv_X10_refused : am_NV mX10_refused 10 1 := ⟨pn_X10.1, lm_t2 _ (List.mem_of_getElem? (i := 111) rfl), lm_t1 _ (List.mem_of_getElem? (i := 1) rfl), ⟨pn_X10.2.1, pn_X10.2.2, by decide +kernel⟩, lm_t2 _ (List.mem_of_getElem? (i := 110) rfl), lm_s1 _ (List.mem_of_getElem? (i := 1) rfl), TX10, 14, rfl⟩
def mX10_settled : amM := (yX10_settled, cX10_settled, 2, (some .int), 3, 72)
theorem nv_X10_settled : am_NV mX10_settled 10 1 := ⟨pn_X10.1, lm_t2 _ (List.mem_of_getElem? (i := 107) rfl), lm_t1 _ (List.mem_of_getElem? (i := 1) rfl), ⟨pn_X10.2.1, pn_X10.2.2, by decide +kernel⟩, lm_t2 _ (List.mem_of_getElem? (i := 106) rfl), lm_s1 _ (List.mem_of_getElem? (i := 0) rfl), TX10, 14, rfl⟩
def mX10_executed : amM := (yX10_executed, cX10_executed, 4, (some .int), 4, 95)
theorem nv_X10_executed : am_NV mX10_executed 10 1 := ⟨pn_X10.1, lm_t4 _ (List.mem_of_getElem? (i := 73) rfl), lm_t1 _ (List.mem_of_getElem? (i := 1) rfl), ⟨pn_X10.2.1, pn_X10.2.2, by decide +kernel⟩, lm_t4 _ (List.mem_of_getElem? (i := 72) rfl), lm_s2 _ (List.mem_of_getElem? (i := 12) rfl), TX10, 14, rfl⟩
def mX11_in : amM := (yX11_in, cX11_in, 3, (some .boolean), 0, 0)
theorem ns_X11_in : am_NS mX11_in 3 := ⟨pn_X11.1, lm_t4 _ (List.mem_of_getElem? (i := 238) rfl), lm_t1 _ (List.mem_of_getElem? (i := 13) rfl), ⟨pn_X11.2.1, pn_X11.2.2, by decide +kernel⟩, lm_t4 _ (List.mem_of_getElem? (i := 237) rfl)⟩
def mX11_has : amM := (yX11_has, cX11_has, 2, (some .boolean), 0, 0)
theorem ns_X11_has : am_NS mX11_has 2 := ⟨pn_X11.1, lm_t5 _ (List.mem_of_getElem? (i := 57) rfl), lm_t1 _ (List.mem_of_getElem? (i := 13) rfl), ⟨pn_X11.2.1, pn_X11.2.2, by decide +kernel⟩, lm_t5 _ (List.mem_of_getElem? (i := 56) rfl)⟩
def mX11_bits : amM := (yX11_bits, cX11_bits, 3, (some .int), 0, 0)
theorem ns_X11_bits : am_NS mX11_bits 1 := ⟨pn_X11.1, lm_t5 _ (List.mem_of_getElem? (i := 71) rfl), lm_t1 _ (List.mem_of_getElem? (i := 13) rfl), ⟨pn_X11.2.1, pn_X11.2.2, by decide +kernel⟩, lm_t5 _ (List.mem_of_getElem? (i := 70) rfl)⟩
def mX11_refuses : amM := (yX11_refuses, cX11_refuses, 2, (some .int), 0, 0)
theorem nv_X11_refuses : am_NV mX11_refuses 11 1 := ⟨pn_X11.1, lm_t4 _ (List.mem_of_getElem? (i := 223) rfl), lm_t1 _ (List.mem_of_getElem? (i := 13) rfl), ⟨pn_X11.2.1, pn_X11.2.2, by decide +kernel⟩, lm_t4 _ (List.mem_of_getElem? (i := 222) rfl), lm_s2 _ (List.mem_of_getElem? (i := 13) rfl), TX11, 33, rfl⟩
def mX11_hold : amM := (yX11_hold, cX11_hold, 2, none, 0, 0)
theorem nv_X11_hold : am_NV mX11_hold 11 0 := ⟨pn_X11.1, lm_t4 _ (List.mem_of_getElem? (i := 231) rfl), lm_t1 _ (List.mem_of_getElem? (i := 13) rfl), ⟨pn_X11.2.1, pn_X11.2.2, by decide +kernel⟩, lm_t4 _ (List.mem_of_getElem? (i := 230) rfl), lm_s2 _ (List.mem_of_getElem? (i := 14) rfl), TX11, 33, rfl⟩
def mX11_push : amM := (yX11_push, cX11_push, 2, none, 0, 0)
theorem nv_X11_push : am_NV mX11_push 11 0 := ⟨pn_X11.1, lm_t5 _ (List.mem_of_getElem? (i := 6) rfl), lm_t1 _ (List.mem_of_getElem? (i := 13) rfl), ⟨pn_X11.2.1, pn_X11.2.2, by decide +kernel⟩, lm_t5 _ (List.mem_of_getElem? (i := 5) rfl), lm_s3 _ (List.mem_of_getElem? (i := 1) rfl), TX11, 33, rfl⟩
def mX11_back : amM := (yX11_back, cX11_back, 2, (some .int), 1, 21)
theorem nv_X11_back : am_NV mX11_back 11 0 := ⟨pn_X11.1, lm_t4 _ (List.mem_of_getElem? (i := 219) rfl), lm_t1 _ (List.mem_of_getElem? (i := 13) rfl), ⟨pn_X11.2.1, pn_X11.2.2, by decide +kernel⟩, lm_t4 _ (List.mem_of_getElem? (i := 217) rfl), lm_t4 _ (List.mem_of_getElem? (i := 218) rfl), TX11, 33, rfl⟩
def mX11_common : amM := (yX11_common, cX11_common, 10, (some .long), 0, 0)
theorem ns_X11_common : am_NS mX11_common 2 := ⟨pn_X11.1, lm_t5 _ (List.mem_of_getElem? (i := 68) rfl), lm_t1 _ (List.mem_of_getElem? (i := 13) rfl), ⟨pn_X11.2.1, pn_X11.2.2, by decide +kernel⟩, lm_t5 _ (List.mem_of_getElem? (i := 67) rfl)⟩
def mX11_shrink : amM := (yX11_shrink, cX11_shrink, 5, none, 1, 29)
theorem nv_X11_shrink : am_NV mX11_shrink 11 1 := ⟨pn_X11.1, lm_t5 _ (List.mem_of_getElem? (i := 65) rfl), lm_t1 _ (List.mem_of_getElem? (i := 13) rfl), ⟨pn_X11.2.1, pn_X11.2.2, by decide +kernel⟩, lm_t5 _ (List.mem_of_getElem? (i := 64) rfl), lm_s3 _ (List.mem_of_getElem? (i := 13) rfl), TX11, 33, rfl⟩
def mX11_swapRows : amM := (yX11_swapRows, cX11_swapRows, 6, none, 0, 0)
theorem nv_X11_swapRows : am_NV mX11_swapRows 11 2 := ⟨pn_X11.1, lm_t5 _ (List.mem_of_getElem? (i := 61) rfl), lm_t1 _ (List.mem_of_getElem? (i := 13) rfl), ⟨pn_X11.2.1, pn_X11.2.2, by decide +kernel⟩, lm_t5 _ (List.mem_of_getElem? (i := 60) rfl), lm_s3 _ (List.mem_of_getElem? (i := 12) rfl), TX11, 33, rfl⟩
def mX11_rankBy : amM := (yX11_rankBy, cX11_rankBy, 12, (some .int), 2, 53)
theorem nv_X11_rankBy : am_NV mX11_rankBy 11 1 := ⟨pn_X11.1, lm_t5 _ (List.mem_of_getElem? (i := 54) rfl), lm_t1 _ (List.mem_of_getElem? (i := 13) rfl), ⟨pn_X11.2.1, pn_X11.2.2, by decide +kernel⟩, lm_t5 _ (List.mem_of_getElem? (i := 53) rfl), lm_s3 _ (List.mem_of_getElem? (i := 11) rfl), TX11, 33, rfl⟩
def mX11_all : amM := (yX11_all, cX11_all, 1, (some .int), 0, 0)
theorem nv_X11_all : am_NV mX11_all 11 0 := ⟨pn_X11.1, lm_t5 _ (List.mem_of_getElem? (i := 42) rfl), lm_t1 _ (List.mem_of_getElem? (i := 13) rfl), ⟨pn_X11.2.1, pn_X11.2.2, by decide +kernel⟩, lm_t5 _ (List.mem_of_getElem? (i := 41) rfl), lm_s3 _ (List.mem_of_getElem? (i := 8) rfl), TX11, 33, rfl⟩
def mX11_isSet : amM := (yX11_isSet, cX11_isSet, 2, (some .boolean), 1, 22)
theorem nv_X11_isSet : am_NV mX11_isSet 11 1 := ⟨pn_X11.1, lm_t5 _ (List.mem_of_getElem? (i := 131) rfl), lm_t1 _ (List.mem_of_getElem? (i := 13) rfl), ⟨pn_X11.2.1, pn_X11.2.2, by decide +kernel⟩, lm_t5 _ (List.mem_of_getElem? (i := 130) rfl), lm_s4 _ (List.mem_of_getElem? (i := 7) rfl), TX11, 33, rfl⟩
def mX11_lay : amM := (yX11_lay, cX11_lay, 3, none, 4, 109)
theorem nv_X11_lay : am_NV mX11_lay 11 0 := ⟨pn_X11.1, lm_t5 _ (List.mem_of_getElem? (i := 50) rfl), lm_t1 _ (List.mem_of_getElem? (i := 13) rfl), ⟨pn_X11.2.1, pn_X11.2.2, by decide +kernel⟩, lm_t5 _ (List.mem_of_getElem? (i := 49) rfl), lm_s3 _ (List.mem_of_getElem? (i := 10) rfl), TX11, 33, rfl⟩
def mX11_isBound : amM := (yX11_isBound, cX11_isBound, 2, (some .boolean), 1, 22)
theorem nv_X11_isBound : am_NV mX11_isBound 11 1 := ⟨pn_X11.1, lm_t5 _ (List.mem_of_getElem? (i := 79) rfl), lm_t1 _ (List.mem_of_getElem? (i := 13) rfl), ⟨pn_X11.2.1, pn_X11.2.2, by decide +kernel⟩, lm_t5 _ (List.mem_of_getElem? (i := 78) rfl), lm_s3 _ (List.mem_of_getElem? (i := 15) rfl), TX11, 33, rfl⟩
def mX11_isRing : amM := (yX11_isRing, cX11_isRing, 4, (some .boolean), 2, 43)
theorem nv_X11_isRing : am_NV mX11_isRing 11 1 := ⟨pn_X11.1, lm_t5 _ (List.mem_of_getElem? (i := 75) rfl), lm_t1 _ (List.mem_of_getElem? (i := 13) rfl), ⟨pn_X11.2.1, pn_X11.2.2, by decide +kernel⟩, lm_t5 _ (List.mem_of_getElem? (i := 74) rfl), lm_s3 _ (List.mem_of_getElem? (i := 14) rfl), TX11, 33, rfl⟩
def mX11_clearColumn : amM := (yX11_clearColumn, cX11_clearColumn, 11, none, 1, 29)
theorem nv_X11_clearColumn : am_NV mX11_clearColumn 11 1 := ⟨pn_X11.1, lm_t5 _ (List.mem_of_getElem? (i := 91) rfl), lm_t1 _ (List.mem_of_getElem? (i := 13) rfl), ⟨pn_X11.2.1, pn_X11.2.2, by decide +kernel⟩, lm_t5 _ (List.mem_of_getElem? (i := 90) rfl), lm_s4 _ (List.mem_of_getElem? (i := 2) rfl), TX11, 33, rfl⟩
def mX11_findFactors : amM := (yX11_findFactors, cX11_findFactors, 8, none, 2, 59)
theorem nv_X11_findFactors : am_NV mX11_findFactors 11 1 := ⟨pn_X11.1, lm_t5 _ (List.mem_of_getElem? (i := 87) rfl), lm_t1 _ (List.mem_of_getElem? (i := 13) rfl), ⟨pn_X11.2.1, pn_X11.2.2, by decide +kernel⟩, lm_t5 _ (List.mem_of_getElem? (i := 86) rfl), lm_s4 _ (List.mem_of_getElem? (i := 1) rfl), TX11, 33, rfl⟩
def mX11_aboveOf : amM := (yX11_aboveOf, cX11_aboveOf, 4, (some .int), 3, 86)
theorem nv_X11_aboveOf : am_NV mX11_aboveOf 11 1 := ⟨pn_X11.1, lm_t5 _ (List.mem_of_getElem? (i := 83) rfl), lm_t1 _ (List.mem_of_getElem? (i := 13) rfl), ⟨pn_X11.2.1, pn_X11.2.2, by decide +kernel⟩, lm_t5 _ (List.mem_of_getElem? (i := 82) rfl), lm_s4 _ (List.mem_of_getElem? (i := 0) rfl), TX11, 33, rfl⟩
def mX11_doSpace : amM := (yX11_doSpace, cX11_doSpace, 2, (some .int), 1, 22)
theorem nv_X11_doSpace : am_NV mX11_doSpace 11 1 := ⟨pn_X11.1, lm_t4 _ (List.mem_of_getElem? (i := 235) rfl), lm_t1 _ (List.mem_of_getElem? (i := 13) rfl), ⟨pn_X11.2.1, pn_X11.2.2, by decide +kernel⟩, lm_t4 _ (List.mem_of_getElem? (i := 234) rfl), lm_s2 _ (List.mem_of_getElem? (i := 15) rfl), TX11, 33, rfl⟩
def mX11_isThere : amM := (yX11_isThere, cX11_isThere, 5, (some .boolean), 0, 0)
theorem nv_X11_isThere : am_NV mX11_isThere 11 1 := ⟨pn_X11.1, lm_t5 _ (List.mem_of_getElem? (i := 18) rfl), lm_t1 _ (List.mem_of_getElem? (i := 13) rfl), ⟨pn_X11.2.1, pn_X11.2.2, by decide +kernel⟩, lm_t5 _ (List.mem_of_getElem? (i := 17) rfl), lm_s3 _ (List.mem_of_getElem? (i := 3) rfl), TX11, 33, rfl⟩
def mX11_doPlane : amM := (yX11_doPlane, cX11_doPlane, 8, (some .int), 1, 24)
theorem nv_X11_doPlane : am_NV mX11_doPlane 11 4 := ⟨pn_X11.1, lm_t5 _ (List.mem_of_getElem? (i := 14) rfl), lm_t1 _ (List.mem_of_getElem? (i := 13) rfl), ⟨pn_X11.2.1, pn_X11.2.2, by decide +kernel⟩, lm_t5 _ (List.mem_of_getElem? (i := 13) rfl), lm_s3 _ (List.mem_of_getElem? (i := 2) rfl), TX11, 33, rfl⟩
def mX11_addsTold : amM := (yX11_addsTold, cX11_addsTold, 2, none, 0, 0)
theorem nv_X11_addsTold : am_NV mX11_addsTold 11 0 := ⟨pn_X11.1, lm_t5 _ (List.mem_of_getElem? (i := 22) rfl), lm_t1 _ (List.mem_of_getElem? (i := 13) rfl), ⟨pn_X11.2.1, pn_X11.2.2, by decide +kernel⟩, lm_t5 _ (List.mem_of_getElem? (i := 21) rfl), lm_s3 _ (List.mem_of_getElem? (i := 4) rfl), TX11, 33, rfl⟩
def mX11_isPlane : amM := (yX11_isPlane, cX11_isPlane, 2, (some .boolean), 1, 22)
theorem nv_X11_isPlane : am_NV mX11_isPlane 11 1 := ⟨pn_X11.1, lm_t5 _ (List.mem_of_getElem? (i := 34) rfl), lm_t1 _ (List.mem_of_getElem? (i := 13) rfl), ⟨pn_X11.2.1, pn_X11.2.2, by decide +kernel⟩, lm_t5 _ (List.mem_of_getElem? (i := 33) rfl), lm_s3 _ (List.mem_of_getElem? (i := 6) rfl), TX11, 33, rfl⟩
def mX11_doTurns : amM := (yX11_doTurns, cX11_doTurns, 3, (some .int), 2, 43)
theorem nv_X11_doTurns : am_NV mX11_doTurns 11 1 := ⟨pn_X11.1, lm_t5 _ (List.mem_of_getElem? (i := 30) rfl), lm_t1 _ (List.mem_of_getElem? (i := 13) rfl), ⟨pn_X11.2.1, pn_X11.2.2, by decide +kernel⟩, lm_t5 _ (List.mem_of_getElem? (i := 29) rfl), lm_s3 _ (List.mem_of_getElem? (i := 5) rfl), TX11, 33, rfl⟩
def mX11_doDrops : amM := (yX11_doDrops, cX11_doDrops, 3, (some .int), 2, 43)
theorem nv_X11_doDrops : am_NV mX11_doDrops 11 1 := ⟨pn_X11.1, lm_t5 _ (List.mem_of_getElem? (i := 99) rfl), lm_t1 _ (List.mem_of_getElem? (i := 13) rfl), ⟨pn_X11.2.1, pn_X11.2.2, by decide +kernel⟩, lm_t5 _ (List.mem_of_getElem? (i := 98) rfl), lm_s4 _ (List.mem_of_getElem? (i := 3) rfl), TX11, 33, rfl⟩
def mX11_doSwaps : amM := (yX11_doSwaps, cX11_doSwaps, 5, (some .int), 2, 43)
theorem nv_X11_doSwaps : am_NV mX11_doSwaps 11 2 := ⟨pn_X11.1, lm_t5 _ (List.mem_of_getElem? (i := 107) rfl), lm_t1 _ (List.mem_of_getElem? (i := 13) rfl), ⟨pn_X11.2.1, pn_X11.2.2, by decide +kernel⟩, lm_t5 _ (List.mem_of_getElem? (i := 106) rfl), lm_s4 _ (List.mem_of_getElem? (i := 4) rfl), TX11, 33, rfl⟩
def mX11_makesOne : amM := (yX11_makesOne, cX11_makesOne, 6, none, 1, 21)
theorem nv_X11_makesOne : am_NV mX11_makesOne 11 4 := ⟨pn_X11.1, lm_t5 _ (List.mem_of_getElem? (i := 119) rfl), lm_t1 _ (List.mem_of_getElem? (i := 13) rfl), ⟨pn_X11.2.1, pn_X11.2.2, by decide +kernel⟩, lm_t5 _ (List.mem_of_getElem? (i := 118) rfl), lm_s4 _ (List.mem_of_getElem? (i := 6) rfl), TX11, 33, rfl⟩
def mX11_doMakes : amM := (yX11_doMakes, cX11_doMakes, 4, (some .int), 2, 46)
theorem nv_X11_doMakes : am_NV mX11_doMakes 11 1 := ⟨pn_X11.1, lm_t5 _ (List.mem_of_getElem? (i := 115) rfl), lm_t1 _ (List.mem_of_getElem? (i := 13) rfl), ⟨pn_X11.2.1, pn_X11.2.2, by decide +kernel⟩, lm_t5 _ (List.mem_of_getElem? (i := 114) rfl), lm_s4 _ (List.mem_of_getElem? (i := 5) rfl), TX11, 33, rfl⟩
def mX11_ends : amM := (yX11_ends, cX11_ends, 2, (some .int), 1, 21)
theorem nv_X11_ends : am_NV mX11_ends 11 1 := ⟨pn_X11.1, lm_t5 _ (List.mem_of_getElem? (i := 2) rfl), lm_t1 _ (List.mem_of_getElem? (i := 13) rfl), ⟨pn_X11.2.1, pn_X11.2.2, by decide +kernel⟩, lm_t5 _ (List.mem_of_getElem? (i := 1) rfl), lm_s3 _ (List.mem_of_getElem? (i := 0) rfl), TX11, 33, rfl⟩
def mX11_space : amM := (yX11_space, cX11_space, 2, (some .int), 2, 43)
theorem nv_X11_space : am_NV mX11_space 11 1 := ⟨pn_X11.1, lm_t4 _ (List.mem_of_getElem? (i := 227) rfl), lm_t1 _ (List.mem_of_getElem? (i := 13) rfl), ⟨pn_X11.2.1, pn_X11.2.2, by decide +kernel⟩, lm_t4 _ (List.mem_of_getElem? (i := 225) rfl), lm_t4 _ (List.mem_of_getElem? (i := 226) rfl), TX11, 33, rfl⟩
def mX11_plane : amM := (yX11_plane, cX11_plane, 5, (some .int), 2, 51)
theorem nv_X11_plane : am_NV mX11_plane 11 4 := ⟨pn_X11.1, lm_t5 _ (List.mem_of_getElem? (i := 10) rfl), lm_t1 _ (List.mem_of_getElem? (i := 13) rfl), ⟨pn_X11.2.1, pn_X11.2.2, by decide +kernel⟩, lm_t5 _ (List.mem_of_getElem? (i := 8) rfl), lm_t5 _ (List.mem_of_getElem? (i := 9) rfl), TX11, 33, rfl⟩
def mX11_turns : amM := (yX11_turns, cX11_turns, 2, (some .int), 7, 176)
theorem nv_X11_turns : am_NV mX11_turns 11 1 := ⟨pn_X11.1, lm_t5 _ (List.mem_of_getElem? (i := 26) rfl), lm_t1 _ (List.mem_of_getElem? (i := 13) rfl), ⟨pn_X11.2.1, pn_X11.2.2, by decide +kernel⟩, lm_t5 _ (List.mem_of_getElem? (i := 24) rfl), lm_t5 _ (List.mem_of_getElem? (i := 25) rfl), TX11, 33, rfl⟩
def mX11_drops : amM := (yX11_drops, cX11_drops, 2, (some .int), 3, 65)
theorem nv_X11_drops : am_NV mX11_drops 11 1 := ⟨pn_X11.1, lm_t5 _ (List.mem_of_getElem? (i := 95) rfl), lm_t1 _ (List.mem_of_getElem? (i := 13) rfl), ⟨pn_X11.2.1, pn_X11.2.2, by decide +kernel⟩, lm_t5 _ (List.mem_of_getElem? (i := 93) rfl), lm_t5 _ (List.mem_of_getElem? (i := 94) rfl), TX11, 33, rfl⟩
def mX11_swaps : amM := (yX11_swaps, cX11_swaps, 3, (some .int), 5, 131)
theorem nv_X11_swaps : am_NV mX11_swaps 11 2 := ⟨pn_X11.1, lm_t5 _ (List.mem_of_getElem? (i := 103) rfl), lm_t1 _ (List.mem_of_getElem? (i := 13) rfl), ⟨pn_X11.2.1, pn_X11.2.2, by decide +kernel⟩, lm_t5 _ (List.mem_of_getElem? (i := 101) rfl), lm_t5 _ (List.mem_of_getElem? (i := 102) rfl), TX11, 33, rfl⟩
def mX11_makes : amM := (yX11_makes, cX11_makes, 2, (some .int), 3, 69)
theorem nv_X11_makes : am_NV mX11_makes 11 1 := ⟨pn_X11.1, lm_t5 _ (List.mem_of_getElem? (i := 111) rfl), lm_t1 _ (List.mem_of_getElem? (i := 13) rfl), ⟨pn_X11.2.1, pn_X11.2.2, by decide +kernel⟩, lm_t5 _ (List.mem_of_getElem? (i := 109) rfl), lm_t5 _ (List.mem_of_getElem? (i := 110) rfl), TX11, 33, rfl⟩
def mX11_of : amM := (yX11_of, cX11_of, 3, (some .int), 2, 43)
theorem nv_X11_of : am_NV mX11_of 11 2 := ⟨pn_X11.1, lm_t5 _ (List.mem_of_getElem? (i := 123) rfl), lm_t1 _ (List.mem_of_getElem? (i := 13) rfl), ⟨pn_X11.2.1, pn_X11.2.2, by decide +kernel⟩, lm_t5 _ (List.mem_of_getElem? (i := 121) rfl), lm_t5 _ (List.mem_of_getElem? (i := 122) rfl), TX11, 33, rfl⟩
def mX11_rank : amM := (yX11_rank, cX11_rank, 2, (some .int), 5, 131)
theorem nv_X11_rank : am_NV mX11_rank 11 1 := ⟨pn_X11.1, lm_t5 _ (List.mem_of_getElem? (i := 127) rfl), lm_t1 _ (List.mem_of_getElem? (i := 13) rfl), ⟨pn_X11.2.1, pn_X11.2.2, by decide +kernel⟩, lm_t5 _ (List.mem_of_getElem? (i := 125) rfl), lm_t5 _ (List.mem_of_getElem? (i := 126) rfl), TX11, 33, rfl⟩
def mX11_closedOf : amM := (yX11_closedOf, cX11_closedOf, 4, (some .int), 0, 0)
theorem nv_X11_closedOf : am_NV mX11_closedOf 11 1 := ⟨pn_X11.1, lm_t5 _ (List.mem_of_getElem? (i := 139) rfl), lm_t1 _ (List.mem_of_getElem? (i := 13) rfl), ⟨pn_X11.2.1, pn_X11.2.2, by decide +kernel⟩, lm_t5 _ (List.mem_of_getElem? (i := 138) rfl), lm_s4 _ (List.mem_of_getElem? (i := 8) rfl), TX11, 33, rfl⟩
def mX11_closed : amM := (yX11_closed, cX11_closed, 2, (some .int), 5, 131)
theorem nv_X11_closed : am_NV mX11_closed 11 1 := ⟨pn_X11.1, lm_t5 _ (List.mem_of_getElem? (i := 135) rfl), lm_t1 _ (List.mem_of_getElem? (i := 13) rfl), ⟨pn_X11.2.1, pn_X11.2.2, by decide +kernel⟩, lm_t5 _ (List.mem_of_getElem? (i := 133) rfl), lm_t5 _ (List.mem_of_getElem? (i := 134) rfl), TX11, 33, rfl⟩
def mX11_isFlat : amM := (yX11_isFlat, cX11_isFlat, 2, (some .boolean), 1, 23)
theorem nv_X11_isFlat : am_NV mX11_isFlat 11 1 := ⟨pn_X11.1, lm_t5 _ (List.mem_of_getElem? (i := 151) rfl), lm_t1 _ (List.mem_of_getElem? (i := 13) rfl), ⟨pn_X11.2.1, pn_X11.2.2, by decide +kernel⟩, lm_t5 _ (List.mem_of_getElem? (i := 150) rfl), lm_s4 _ (List.mem_of_getElem? (i := 10) rfl), TX11, 33, rfl⟩
def mX11_flatOf : amM := (yX11_flatOf, cX11_flatOf, 5, (some .int), 5, 131)
theorem nv_X11_flatOf : am_NV mX11_flatOf 11 2 := ⟨pn_X11.1, lm_t5 _ (List.mem_of_getElem? (i := 147) rfl), lm_t1 _ (List.mem_of_getElem? (i := 13) rfl), ⟨pn_X11.2.1, pn_X11.2.2, by decide +kernel⟩, lm_t5 _ (List.mem_of_getElem? (i := 146) rfl), lm_s4 _ (List.mem_of_getElem? (i := 9) rfl), TX11, 33, rfl⟩
def mX11_flats : amM := (yX11_flats, cX11_flats, 3, (some .int), 6, 155)
theorem nv_X11_flats : am_NV mX11_flats 11 2 := ⟨pn_X11.1, lm_t5 _ (List.mem_of_getElem? (i := 143) rfl), lm_t1 _ (List.mem_of_getElem? (i := 13) rfl), ⟨pn_X11.2.1, pn_X11.2.2, by decide +kernel⟩, lm_t5 _ (List.mem_of_getElem? (i := 141) rfl), lm_t5 _ (List.mem_of_getElem? (i := 142) rfl), TX11, 33, rfl⟩
def mX11_sign : amM := (yX11_sign, cX11_sign, 4, (some .int), 5, 131)
theorem nv_X11_sign : am_NV mX11_sign 11 1 := ⟨pn_X11.1, lm_t5 _ (List.mem_of_getElem? (i := 155) rfl), lm_t1 _ (List.mem_of_getElem? (i := 13) rfl), ⟨pn_X11.2.1, pn_X11.2.2, by decide +kernel⟩, lm_t5 _ (List.mem_of_getElem? (i := 153) rfl), lm_t5 _ (List.mem_of_getElem? (i := 154) rfl), TX11, 33, rfl⟩
def mX11_rings : amM := (yX11_rings, cX11_rings, 2, (some .int), 5, 131)
theorem nv_X11_rings : am_NV mX11_rings 11 1 := ⟨pn_X11.1, lm_t5 _ (List.mem_of_getElem? (i := 159) rfl), lm_t1 _ (List.mem_of_getElem? (i := 13) rfl), ⟨pn_X11.2.1, pn_X11.2.2, by decide +kernel⟩, lm_t5 _ (List.mem_of_getElem? (i := 157) rfl), lm_t5 _ (List.mem_of_getElem? (i := 158) rfl), TX11, 33, rfl⟩
def mX11_factor : amM := (yX11_factor, cX11_factor, 3, (some .int), 5, 131)
theorem nv_X11_factor : am_NV mX11_factor 11 2 := ⟨pn_X11.1, lm_t5 _ (List.mem_of_getElem? (i := 163) rfl), lm_t1 _ (List.mem_of_getElem? (i := 13) rfl), ⟨pn_X11.2.1, pn_X11.2.2, by decide +kernel⟩, lm_t5 _ (List.mem_of_getElem? (i := 161) rfl), lm_t5 _ (List.mem_of_getElem? (i := 162) rfl), TX11, 33, rfl⟩
def mX11_polynomialOf : amM := (yX11_polynomialOf, cX11_polynomialOf, 5, (some .int), 5, 131)
theorem nv_X11_polynomialOf : am_NV mX11_polynomialOf 11 2 := ⟨pn_X11.1, lm_t5 _ (List.mem_of_getElem? (i := 171) rfl), lm_t1 _ (List.mem_of_getElem? (i := 13) rfl), ⟨pn_X11.2.1, pn_X11.2.2, by decide +kernel⟩, lm_t5 _ (List.mem_of_getElem? (i := 170) rfl), lm_s4 _ (List.mem_of_getElem? (i := 11) rfl), TX11, 33, rfl⟩
def mX11_polynomial : amM := (yX11_polynomial, cX11_polynomial, 3, (some .int), 6, 155)
theorem nv_X11_polynomial : am_NV mX11_polynomial 11 2 := ⟨pn_X11.1, lm_t5 _ (List.mem_of_getElem? (i := 167) rfl), lm_t1 _ (List.mem_of_getElem? (i := 13) rfl), ⟨pn_X11.2.1, pn_X11.2.2, by decide +kernel⟩, lm_t5 _ (List.mem_of_getElem? (i := 165) rfl), lm_t5 _ (List.mem_of_getElem? (i := 166) rfl), TX11, 33, rfl⟩
def mX11_value : amM := (yX11_value, cX11_value, 4, (some .int), 6, 155)
theorem nv_X11_value : am_NV mX11_value 11 1 := ⟨pn_X11.1, lm_t5 _ (List.mem_of_getElem? (i := 175) rfl), lm_t1 _ (List.mem_of_getElem? (i := 13) rfl), ⟨pn_X11.2.1, pn_X11.2.2, by decide +kernel⟩, lm_t5 _ (List.mem_of_getElem? (i := 173) rfl), lm_t5 _ (List.mem_of_getElem? (i := 174) rfl), TX11, 33, rfl⟩
def mX11_within : amM := (yX11_within, cX11_within, 3, (some .int), 6, 155)
theorem nv_X11_within : am_NV mX11_within 11 2 := ⟨pn_X11.1, lm_t5 _ (List.mem_of_getElem? (i := 180) rfl), lm_t1 _ (List.mem_of_getElem? (i := 13) rfl), ⟨pn_X11.2.1, pn_X11.2.2, by decide +kernel⟩, lm_t5 _ (List.mem_of_getElem? (i := 178) rfl), lm_t5 _ (List.mem_of_getElem? (i := 179) rfl), TX11, 33, rfl⟩
def mX11_isPart : amM := (yX11_isPart, cX11_isPart, 4, (some .boolean), 5, 131)
theorem nv_X11_isPart : am_NV mX11_isPart 11 1 := ⟨pn_X11.1, lm_t5 _ (List.mem_of_getElem? (i := 46) rfl), lm_t1 _ (List.mem_of_getElem? (i := 13) rfl), ⟨pn_X11.2.1, pn_X11.2.2, by decide +kernel⟩, lm_t5 _ (List.mem_of_getElem? (i := 45) rfl), lm_s3 _ (List.mem_of_getElem? (i := 9) rfl), TX11, 33, rfl⟩
def mX11_partMany : amM := (yX11_partMany, cX11_partMany, 3, (some .int), 6, 154)
theorem nv_X11_partMany : am_NV mX11_partMany 11 0 := ⟨pn_X11.1, lm_t5 _ (List.mem_of_getElem? (i := 38) rfl), lm_t1 _ (List.mem_of_getElem? (i := 13) rfl), ⟨pn_X11.2.1, pn_X11.2.2, by decide +kernel⟩, lm_t5 _ (List.mem_of_getElem? (i := 37) rfl), lm_s3 _ (List.mem_of_getElem? (i := 7) rfl), TX11, 33, rfl⟩
def mX11_parts : amM := (yX11_parts, cX11_parts, 4, (some .int), 7, 176)
theorem nv_X11_parts : am_NV mX11_parts 11 1 := ⟨pn_X11.1, lm_t5 _ (List.mem_of_getElem? (i := 184) rfl), lm_t1 _ (List.mem_of_getElem? (i := 13) rfl), ⟨pn_X11.2.1, pn_X11.2.2, by decide +kernel⟩, lm_t5 _ (List.mem_of_getElem? (i := 182) rfl), lm_t5 _ (List.mem_of_getElem? (i := 183) rfl), TX11, 33, rfl⟩
def mX11_wallsOf : amM := (yX11_wallsOf, cX11_wallsOf, 4, (some .int), 6, 154)
theorem nv_X11_wallsOf : am_NV mX11_wallsOf 11 1 := ⟨pn_X11.1, lm_t5 _ (List.mem_of_getElem? (i := 192) rfl), lm_t1 _ (List.mem_of_getElem? (i := 13) rfl), ⟨pn_X11.2.1, pn_X11.2.2, by decide +kernel⟩, lm_t5 _ (List.mem_of_getElem? (i := 191) rfl), lm_s4 _ (List.mem_of_getElem? (i := 12) rfl), TX11, 33, rfl⟩
def mX11_walls : amM := (yX11_walls, cX11_walls, 2, (some .int), 7, 177)
theorem nv_X11_walls : am_NV mX11_walls 11 1 := ⟨pn_X11.1, lm_t5 _ (List.mem_of_getElem? (i := 188) rfl), lm_t1 _ (List.mem_of_getElem? (i := 13) rfl), ⟨pn_X11.2.1, pn_X11.2.2, by decide +kernel⟩, lm_t5 _ (List.mem_of_getElem? (i := 186) rfl), lm_t5 _ (List.mem_of_getElem? (i := 187) rfl), TX11, 33, rfl⟩
def mX11_way : amM := (yX11_way, cX11_way, 10, (some .int), 7, 177)
theorem nv_X11_way : am_NV mX11_way 11 3 := ⟨pn_X11.1, lm_t5 _ (List.mem_of_getElem? (i := 196) rfl), lm_t1 _ (List.mem_of_getElem? (i := 13) rfl), ⟨pn_X11.2.1, pn_X11.2.2, by decide +kernel⟩, lm_t5 _ (List.mem_of_getElem? (i := 194) rfl), lm_t5 _ (List.mem_of_getElem? (i := 195) rfl), TX11, 33, rfl⟩
def mX11_isEven : amM := (yX11_isEven, cX11_isEven, 3, (some .boolean), 2, 44)
theorem nv_X11_isEven : am_NV mX11_isEven 11 1 := ⟨pn_X11.1, lm_t5 _ (List.mem_of_getElem? (i := 208) rfl), lm_t1 _ (List.mem_of_getElem? (i := 13) rfl), ⟨pn_X11.2.1, pn_X11.2.2, by decide +kernel⟩, lm_t5 _ (List.mem_of_getElem? (i := 207) rfl), lm_s4 _ (List.mem_of_getElem? (i := 14) rfl), TX11, 33, rfl⟩
def mX11_isChain : amM := (yX11_isChain, cX11_isChain, 6, (some .boolean), 5, 131)
theorem nv_X11_isChain : am_NV mX11_isChain 11 0 := ⟨pn_X11.1, lm_t5 _ (List.mem_of_getElem? (i := 204) rfl), lm_t1 _ (List.mem_of_getElem? (i := 13) rfl), ⟨pn_X11.2.1, pn_X11.2.2, by decide +kernel⟩, lm_t5 _ (List.mem_of_getElem? (i := 203) rfl), lm_s4 _ (List.mem_of_getElem? (i := 13) rfl), TX11, 33, rfl⟩
def mX11_chain : amM := (yX11_chain, cX11_chain, 4, (some .int), 6, 156)
theorem nv_X11_chain : am_NV mX11_chain 11 2 := ⟨pn_X11.1, lm_t5 _ (List.mem_of_getElem? (i := 200) rfl), lm_t1 _ (List.mem_of_getElem? (i := 13) rfl), ⟨pn_X11.2.1, pn_X11.2.2, by decide +kernel⟩, lm_t5 _ (List.mem_of_getElem? (i := 198) rfl), lm_t5 _ (List.mem_of_getElem? (i := 199) rfl), TX11, 33, rfl⟩
def mX11_even : amM := (yX11_even, cX11_even, 4, (some .int), 5, 131)
theorem nv_X11_even : am_NV mX11_even 11 1 := ⟨pn_X11.1, lm_t5 _ (List.mem_of_getElem? (i := 212) rfl), lm_t1 _ (List.mem_of_getElem? (i := 13) rfl), ⟨pn_X11.2.1, pn_X11.2.2, by decide +kernel⟩, lm_t5 _ (List.mem_of_getElem? (i := 210) rfl), lm_t5 _ (List.mem_of_getElem? (i := 211) rfl), TX11, 33, rfl⟩
def mX11_placesOver : amM := (yX11_placesOver, cX11_placesOver, 10, (some .int), 0, 0)
theorem nv_X11_placesOver : am_NV mX11_placesOver 11 1 := ⟨pn_X11.1, lm_t5 _ (List.mem_of_getElem? (i := 220) rfl), lm_t1 _ (List.mem_of_getElem? (i := 13) rfl), ⟨pn_X11.2.1, pn_X11.2.2, by decide +kernel⟩, lm_t5 _ (List.mem_of_getElem? (i := 219) rfl), lm_s4 _ (List.mem_of_getElem? (i := 15) rfl), TX11, 33, rfl⟩
def mX11_isFreeOver : amM := (yX11_isFreeOver, cX11_isFreeOver, 11, (some .boolean), 1, 21)
theorem nv_X11_isFreeOver : am_NV mX11_isFreeOver 11 2 := ⟨pn_X11.1, lm_t5 _ (List.mem_of_getElem? (i := 228) rfl), lm_t1 _ (List.mem_of_getElem? (i := 13) rfl), ⟨pn_X11.2.1, pn_X11.2.2, by decide +kernel⟩, lm_t5 _ (List.mem_of_getElem? (i := 227) rfl), lm_s5 _ (List.mem_of_getElem? (i := 1) rfl), TX11, 33, rfl⟩
def mX11_isGood : amM := (yX11_isGood, cX11_isGood, 4, (some .boolean), 5, 131)
theorem nv_X11_isGood : am_NV mX11_isGood 11 1 := ⟨pn_X11.1, lm_t5 _ (List.mem_of_getElem? (i := 224) rfl), lm_t1 _ (List.mem_of_getElem? (i := 13) rfl), ⟨pn_X11.2.1, pn_X11.2.2, by decide +kernel⟩, lm_t5 _ (List.mem_of_getElem? (i := 223) rfl), lm_s5 _ (List.mem_of_getElem? (i := 0) rfl), TX11, 33, rfl⟩
def mX11_places : amM := (yX11_places, cX11_places, 3, (some .int), 6, 154)
theorem nv_X11_places : am_NV mX11_places 11 2 := ⟨pn_X11.1, lm_t5 _ (List.mem_of_getElem? (i := 216) rfl), lm_t1 _ (List.mem_of_getElem? (i := 13) rfl), ⟨pn_X11.2.1, pn_X11.2.2, by decide +kernel⟩, lm_t5 _ (List.mem_of_getElem? (i := 214) rfl), lm_t5 _ (List.mem_of_getElem? (i := 215) rfl), TX11, 33, rfl⟩
def mX11_broken : amM := (yX11_broken, cX11_broken, 4, (some .int), 0, 0)
theorem nv_X11_broken : am_NV mX11_broken 11 1 := ⟨pn_X11.1, lm_t6 _ (List.mem_of_getElem? (i := 4) rfl), lm_t1 _ (List.mem_of_getElem? (i := 13) rfl), ⟨pn_X11.2.1, pn_X11.2.2, by decide +kernel⟩, lm_t6 _ (List.mem_of_getElem? (i := 3) rfl), lm_s5 _ (List.mem_of_getElem? (i := 4) rfl), TX11, 33, rfl⟩
def mX11_isBase : amM := (yX11_isBase, cX11_isBase, 2, (some .boolean), 2, 43)
theorem nv_X11_isBase : am_NV mX11_isBase 11 1 := ⟨pn_X11.1, lm_t6 _ (List.mem_of_getElem? (i := 0) rfl), lm_t1 _ (List.mem_of_getElem? (i := 13) rfl), ⟨pn_X11.2.1, pn_X11.2.2, by decide +kernel⟩, lm_t5 _ (List.mem_of_getElem? (i := 239) rfl), lm_s5 _ (List.mem_of_getElem? (i := 3) rfl), TX11, 33, rfl⟩
def mX11_baseOf : amM := (yX11_baseOf, cX11_baseOf, 5, (some .int), 5, 131)
theorem nv_X11_baseOf : am_NV mX11_baseOf 11 2 := ⟨pn_X11.1, lm_t5 _ (List.mem_of_getElem? (i := 236) rfl), lm_t1 _ (List.mem_of_getElem? (i := 13) rfl), ⟨pn_X11.2.1, pn_X11.2.2, by decide +kernel⟩, lm_t5 _ (List.mem_of_getElem? (i := 235) rfl), lm_s5 _ (List.mem_of_getElem? (i := 2) rfl), TX11, 33, rfl⟩
def mX11_base : amM := (yX11_base, cX11_base, 3, (some .int), 6, 155)
theorem nv_X11_base : am_NV mX11_base 11 2 := ⟨pn_X11.1, lm_t5 _ (List.mem_of_getElem? (i := 232) rfl), lm_t1 _ (List.mem_of_getElem? (i := 13) rfl), ⟨pn_X11.2.1, pn_X11.2.2, by decide +kernel⟩, lm_t5 _ (List.mem_of_getElem? (i := 230) rfl), lm_t5 _ (List.mem_of_getElem? (i := 231) rfl), TX11, 33, rfl⟩
def mX11_turned : amM := (yX11_turned, cX11_turned, 4, (some .int), 1, 22)
theorem ns_X11_turned : am_NS mX11_turned 2 := ⟨pn_X11.1, lm_t6 _ (List.mem_of_getElem? (i := 15) rfl), lm_t1 _ (List.mem_of_getElem? (i := 13) rfl), ⟨pn_X11.2.1, pn_X11.2.2, by decide +kernel⟩, lm_t6 _ (List.mem_of_getElem? (i := 14) rfl)⟩
def mX11_form : amM := (yX11_form, cX11_form, 6, (some .int), 6, 155)
theorem nv_X11_form : am_NV mX11_form 11 2 := ⟨pn_X11.1, lm_t6 _ (List.mem_of_getElem? (i := 8) rfl), lm_t1 _ (List.mem_of_getElem? (i := 13) rfl), ⟨pn_X11.2.1, pn_X11.2.2, by decide +kernel⟩, lm_t6 _ (List.mem_of_getElem? (i := 6) rfl), lm_t6 _ (List.mem_of_getElem? (i := 7) rfl), TX11, 33, rfl⟩
def mX11_spread : amM := (yX11_spread, cX11_spread, 10, none, 2, 45)
theorem nv_X11_spread : am_NV mX11_spread 11 2 := ⟨pn_X11.1, lm_t6 _ (List.mem_of_getElem? (i := 12) rfl), lm_t1 _ (List.mem_of_getElem? (i := 13) rfl), ⟨pn_X11.2.1, pn_X11.2.2, by decide +kernel⟩, lm_t6 _ (List.mem_of_getElem? (i := 11) rfl), lm_s5 _ (List.mem_of_getElem? (i := 5) rfl), TX11, 33, rfl⟩
def mX11_type : amM := (yX11_type, cX11_type, 2, (some .int), 1, 22)
theorem nv_X11_type : am_NV mX11_type 11 1 := ⟨pn_X11.1, lm_t6 _ (List.mem_of_getElem? (i := 19) rfl), lm_t1 _ (List.mem_of_getElem? (i := 13) rfl), ⟨pn_X11.2.1, pn_X11.2.2, by decide +kernel⟩, lm_t6 _ (List.mem_of_getElem? (i := 17) rfl), lm_t6 _ (List.mem_of_getElem? (i := 18) rfl), TX11, 33, rfl⟩
def mX11_clear : amM := (yX11_clear, cX11_clear, 2, (some .int), 0, 0)
theorem nv_X11_clear : am_NV mX11_clear 11 0 := ⟨pn_X11.1, lm_t6 _ (List.mem_of_getElem? (i := 23) rfl), lm_t1 _ (List.mem_of_getElem? (i := 13) rfl), ⟨pn_X11.2.1, pn_X11.2.2, by decide +kernel⟩, lm_t6 _ (List.mem_of_getElem? (i := 21) rfl), lm_t6 _ (List.mem_of_getElem? (i := 22) rfl), TX11, 33, rfl⟩
def mX11_here : amM := (yX11_here, cX11_here, 1, (some .int), 0, 0)
theorem nv_X11_here : am_NV mX11_here 11 0 := ⟨pn_X11.1, lm_t6 _ (List.mem_of_getElem? (i := 31) rfl), lm_t1 _ (List.mem_of_getElem? (i := 13) rfl), ⟨pn_X11.2.1, pn_X11.2.2, by decide +kernel⟩, lm_t6 _ (List.mem_of_getElem? (i := 30) rfl), lm_s5 _ (List.mem_of_getElem? (i := 6) rfl), TX11, 33, rfl⟩
def mX11_must : amM := (yX11_must, cX11_must, 2, none, 0, 0)
theorem nv_X11_must : am_NV mX11_must 11 1 := ⟨pn_X11.1, lm_t6 _ (List.mem_of_getElem? (i := 35) rfl), lm_t1 _ (List.mem_of_getElem? (i := 13) rfl), ⟨pn_X11.2.1, pn_X11.2.2, by decide +kernel⟩, lm_t6 _ (List.mem_of_getElem? (i := 34) rfl), lm_s5 _ (List.mem_of_getElem? (i := 7) rfl), TX11, 33, rfl⟩
def mX11_figure : amM := (yX11_figure, cX11_figure, 4, (some .int), 1, 22)
theorem nv_X11_figure : am_NV mX11_figure 11 2 := ⟨pn_X11.1, lm_t6 _ (List.mem_of_getElem? (i := 50) rfl), lm_t1 _ (List.mem_of_getElem? (i := 13) rfl), ⟨pn_X11.2.1, pn_X11.2.2, by decide +kernel⟩, lm_t6 _ (List.mem_of_getElem? (i := 49) rfl), lm_s5 _ (List.mem_of_getElem? (i := 10) rfl), TX11, 33, rfl⟩
def mX11_signed : amM := (yX11_signed, cX11_signed, 1, (some .int), 2, 45)
theorem nv_X11_signed : am_NV mX11_signed 11 0 := ⟨pn_X11.1, lm_t6 _ (List.mem_of_getElem? (i := 46) rfl), lm_t1 _ (List.mem_of_getElem? (i := 13) rfl), ⟨pn_X11.2.1, pn_X11.2.2, by decide +kernel⟩, lm_t6 _ (List.mem_of_getElem? (i := 45) rfl), lm_s5 _ (List.mem_of_getElem? (i := 9) rfl), TX11, 33, rfl⟩
def mX11_plain : amM := (yX11_plain, cX11_plain, 3, (some .int), 2, 45)
theorem nv_X11_plain : am_NV mX11_plain 11 1 := ⟨pn_X11.1, lm_t6 _ (List.mem_of_getElem? (i := 54) rfl), lm_t1 _ (List.mem_of_getElem? (i := 13) rfl), ⟨pn_X11.2.1, pn_X11.2.2, by decide +kernel⟩, lm_t6 _ (List.mem_of_getElem? (i := 53) rfl), lm_s5 _ (List.mem_of_getElem? (i := 11) rfl), TX11, 33, rfl⟩
def mX11_numbersOf : amM := (yX11_numbersOf, cX11_numbersOf, 2, (some .int), 0, 0)
theorem ns_X11_numbersOf : am_NS mX11_numbersOf 2 := ⟨pn_X11.1, lm_t6 _ (List.mem_of_getElem? (i := 42) rfl), lm_t1 _ (List.mem_of_getElem? (i := 13) rfl), ⟨pn_X11.2.1, pn_X11.2.2, by decide +kernel⟩, lm_t6 _ (List.mem_of_getElem? (i := 41) rfl)⟩
def mX11_readOrder : amM := (yX11_readOrder, cX11_readOrder, 5, (some .int), 3, 67)
theorem nv_X11_readOrder : am_NV mX11_readOrder 11 1 := ⟨pn_X11.1, lm_t6 _ (List.mem_of_getElem? (i := 39) rfl), lm_t1 _ (List.mem_of_getElem? (i := 13) rfl), ⟨pn_X11.2.1, pn_X11.2.2, by decide +kernel⟩, lm_t6 _ (List.mem_of_getElem? (i := 38) rfl), lm_s5 _ (List.mem_of_getElem? (i := 8) rfl), TX11, 33, rfl⟩
def mX11_doOrder : amM := (yX11_doOrder, cX11_doOrder, 4, (some .int), 3, 69)
theorem nv_X11_doOrder : am_NV mX11_doOrder 11 1 := ⟨pn_X11.1, lm_t6 _ (List.mem_of_getElem? (i := 58) rfl), lm_t1 _ (List.mem_of_getElem? (i := 13) rfl), ⟨pn_X11.2.1, pn_X11.2.2, by decide +kernel⟩, lm_t6 _ (List.mem_of_getElem? (i := 57) rfl), lm_s5 _ (List.mem_of_getElem? (i := 12) rfl), TX11, 33, rfl⟩
def mX11_reads : amM := (yX11_reads, cX11_reads, 5, (some .int), 4, 92)
theorem nv_X11_reads : am_NV mX11_reads 11 0 := ⟨pn_X11.1, lm_t6 _ (List.mem_of_getElem? (i := 27) rfl), lm_t1 _ (List.mem_of_getElem? (i := 13) rfl), ⟨pn_X11.2.1, pn_X11.2.2, by decide +kernel⟩, lm_t6 _ (List.mem_of_getElem? (i := 25) rfl), lm_t6 _ (List.mem_of_getElem? (i := 26) rfl), TX11, 33, rfl⟩
def mX11_cause : amM := (yX11_cause, cX11_cause, 2, (some .int), 0, 0)
theorem nv_X11_cause : am_NV mX11_cause 11 1 := ⟨pn_X11.1, lm_t6 _ (List.mem_of_getElem? (i := 66) rfl), lm_t1 _ (List.mem_of_getElem? (i := 13) rfl), ⟨pn_X11.2.1, pn_X11.2.2, by decide +kernel⟩, lm_t6 _ (List.mem_of_getElem? (i := 65) rfl), lm_s5 _ (List.mem_of_getElem? (i := 13) rfl), TX11, 33, rfl⟩
def mX11_why : amM := (yX11_why, cX11_why, 2, (some .int), 1, 22)
theorem nv_X11_why : am_NV mX11_why 11 1 := ⟨pn_X11.1, lm_t6 _ (List.mem_of_getElem? (i := 62) rfl), lm_t1 _ (List.mem_of_getElem? (i := 13) rfl), ⟨pn_X11.2.1, pn_X11.2.2, by decide +kernel⟩, lm_t6 _ (List.mem_of_getElem? (i := 60) rfl), lm_t6 _ (List.mem_of_getElem? (i := 61) rfl), TX11, 33, rfl⟩
def mX11_toldOf : amM := (yX11_toldOf, cX11_toldOf, 2, (some .int), 5, 131)
theorem nv_X11_toldOf : am_NV mX11_toldOf 11 1 := ⟨pn_X11.1, lm_t6 _ (List.mem_of_getElem? (i := 74) rfl), lm_t1 _ (List.mem_of_getElem? (i := 13) rfl), ⟨pn_X11.2.1, pn_X11.2.2, by decide +kernel⟩, lm_t6 _ (List.mem_of_getElem? (i := 73) rfl), lm_s5 _ (List.mem_of_getElem? (i := 14) rfl), TX11, 33, rfl⟩
def mX11_told : amM := (yX11_told, cX11_told, 2, (some .int), 6, 152)
theorem nv_X11_told : am_NV mX11_told 11 1 := ⟨pn_X11.1, lm_t6 _ (List.mem_of_getElem? (i := 70) rfl), lm_t1 _ (List.mem_of_getElem? (i := 13) rfl), ⟨pn_X11.2.1, pn_X11.2.2, by decide +kernel⟩, lm_t6 _ (List.mem_of_getElem? (i := 68) rfl), lm_t6 _ (List.mem_of_getElem? (i := 69) rfl), TX11, 33, rfl⟩
def mX11_mix : amM := (yX11_mix, cX11_mix, 2, none, 0, 0)
theorem nv_X11_mix : am_NV mX11_mix 11 1 := ⟨pn_X11.1, lm_t6 _ (List.mem_of_getElem? (i := 83) rfl), lm_t1 _ (List.mem_of_getElem? (i := 13) rfl), ⟨pn_X11.2.1, pn_X11.2.2, by decide +kernel⟩, lm_t6 _ (List.mem_of_getElem? (i := 82) rfl), lm_s5 _ (List.mem_of_getElem? (i := 15) rfl), TX11, 33, rfl⟩
def mX11_digest : amM := (yX11_digest, cX11_digest, 3, (some .long), 7, 176)
theorem nv_X11_digest : am_NV mX11_digest 11 0 := ⟨pn_X11.1, lm_t6 _ (List.mem_of_getElem? (i := 78) rfl), lm_t1 _ (List.mem_of_getElem? (i := 13) rfl), ⟨pn_X11.2.1, pn_X11.2.2, by decide +kernel⟩, lm_t6 _ (List.mem_of_getElem? (i := 76) rfl), lm_t6 _ (List.mem_of_getElem? (i := 77) rfl), TX11, 33, rfl⟩
def mJ6_bitCount_0f7a4 : amM := (yJ6_bitCount_0f7a4, cJ6_bitCount_0f7a4, 1, (some .int), 0, 0)
theorem ns_J6_bitCount_0f7a4 : am_NS mJ6_bitCount_0f7a4 1 := ⟨pn_J6.1, lm_t2 _ (List.mem_of_getElem? (i := 177) rfl), lm_t1 _ (List.mem_of_getElem? (i := 15) rfl), ⟨pn_J6.2.1, pn_J6.2.2, by decide +kernel⟩, lm_t2 _ (List.mem_of_getElem? (i := 176) rfl)⟩
def mJ9_abs_0f7a4 : amM := (yJ9_abs_0f7a4, cJ9_abs_0f7a4, 1, (some .int), 0, 0)
def mJ9_abs_067f4 : amM := (yJ9_abs_067f4, cJ9_abs_067f4, 2, (some .long), 0, 0)
def mJ9_max_7cf53 : amM := (yJ9_max_7cf53, cJ9_max_7cf53, 2, (some .int), 0, 0)
def mJ9_min_7cf53 : amM := (yJ9_min_7cf53, cJ9_min_7cf53, 2, (some .int), 0, 0)
def mJ7_fill_53178 : amM := (yJ7_fill_53178, cJ7_fill_53178, 4, none, 0, 0)
theorem ns_J7_fill_53178 : am_NS mJ7_fill_53178 2 := ⟨pn_J7.1, lm_t3 _ (List.mem_of_getElem? (i := 98) rfl), lm_t1 _ (List.mem_of_getElem? (i := 16) rfl), ⟨pn_J7.2.1, pn_J7.2.2, by decide +kernel⟩, lm_t3 _ (List.mem_of_getElem? (i := 97) rfl)⟩
theorem ml_L_9 : Cond.methodLink RL 9 yX10_init ∈ lw_tbl := lm_t1 _ (List.mem_of_getElem? (i := 19) rfl)
theorem fl_X1_9 : am_FL RX1 9 1 0 := ⟨RX1, TX1, 4, rfl, by decide, in_X1, Or.inl (lm_t1 _ (List.mem_of_getElem? (i := 31) rfl))⟩
theorem fl_X1_15 : am_FL RX1 15 1 1 := ⟨RX1, TX1, 4, rfl, by decide, in_X1, Or.inl (lm_t1 _ (List.mem_of_getElem? (i := 32) rfl))⟩
theorem fp_X1_15 : am_FP RX1 15 1 1 .int := ⟨RX1, TX1, 4, tyX1, rfl, by decide, in_X1, Or.inl (lm_t1 _ (List.mem_of_getElem? (i := 32) rfl)), tyX1_ok, nmX1, rfl, rfl⟩
theorem fl_X5_19 : am_FL RX5 19 1 1 := ⟨RX1, TX1, 4, rfl, by decide, in_X1, Or.inr ⟨"PlaneCuts", lm_t1 _ (List.mem_of_getElem? (i := 33) rfl)⟩⟩
theorem fp_X5_19 : am_FP RX5 19 1 1 .int := ⟨RX1, TX1, 4, tyX1, rfl, by decide, in_X1, Or.inr ⟨"PlaneCuts", lm_t1 _ (List.mem_of_getElem? (i := 33) rfl)⟩, tyX1_ok, nmX1, rfl, rfl⟩
theorem fl_X2_36 : am_FL RX2 36 1 1 := ⟨RX1, TX1, 4, rfl, by decide, in_X1, Or.inr ⟨"PlaneCuts", lm_t1 _ (List.mem_of_getElem? (i := 34) rfl)⟩⟩
theorem fp_X2_36 : am_FP RX2 36 1 1 .int := ⟨RX1, TX1, 4, tyX1, rfl, by decide, in_X1, Or.inr ⟨"PlaneCuts", lm_t1 _ (List.mem_of_getElem? (i := 34) rfl)⟩, tyX1_ok, nmX1, rfl, rfl⟩
theorem fl_X6_68 : am_FL RX6 68 1 1 := ⟨RX1, TX1, 4, rfl, by decide, in_X1, Or.inr ⟨"PlaneCuts", lm_t1 _ (List.mem_of_getElem? (i := 35) rfl)⟩⟩
theorem fp_X6_68 : am_FP RX6 68 1 1 .int := ⟨RX1, TX1, 4, tyX1, rfl, by decide, in_X1, Or.inr ⟨"PlaneCuts", lm_t1 _ (List.mem_of_getElem? (i := 35) rfl)⟩, tyX1_ok, nmX1, rfl, rfl⟩
theorem fl_X10_117 : am_FL RX10 117 1 1 := ⟨RX1, TX1, 4, rfl, by decide, in_X1, Or.inr ⟨"PlaneCuts", lm_t1 _ (List.mem_of_getElem? (i := 36) rfl)⟩⟩
theorem fp_X10_117 : am_FP RX10 117 1 1 .int := ⟨RX1, TX1, 4, tyX1, rfl, by decide, in_X1, Or.inr ⟨"PlaneCuts", lm_t1 _ (List.mem_of_getElem? (i := 36) rfl)⟩, tyX1_ok, nmX1, rfl, rfl⟩
theorem fl_X1_19 : am_FL RX1 19 1 2 := ⟨RX1, TX1, 4, rfl, by decide, in_X1, Or.inl (lm_t1 _ (List.mem_of_getElem? (i := 37) rfl))⟩
theorem fp_X1_19 : am_FP RX1 19 1 2 .int := ⟨RX1, TX1, 4, tyX1, rfl, by decide, in_X1, Or.inl (lm_t1 _ (List.mem_of_getElem? (i := 37) rfl)), tyX1_ok, nmX1, rfl, rfl⟩
theorem fl_X2_30 : am_FL RX2 30 1 2 := ⟨RX1, TX1, 4, rfl, by decide, in_X1, Or.inr ⟨"PlaneCuts", lm_t1 _ (List.mem_of_getElem? (i := 38) rfl)⟩⟩
theorem fp_X2_30 : am_FP RX2 30 1 2 .int := ⟨RX1, TX1, 4, tyX1, rfl, by decide, in_X1, Or.inr ⟨"PlaneCuts", lm_t1 _ (List.mem_of_getElem? (i := 38) rfl)⟩, tyX1_ok, nmX1, rfl, rfl⟩
theorem fl_X5_30 : am_FL RX5 30 1 2 := ⟨RX1, TX1, 4, rfl, by decide, in_X1, Or.inr ⟨"PlaneCuts", lm_t1 _ (List.mem_of_getElem? (i := 39) rfl)⟩⟩
theorem fp_X5_30 : am_FP RX5 30 1 2 .int := ⟨RX1, TX1, 4, tyX1, rfl, by decide, in_X1, Or.inr ⟨"PlaneCuts", lm_t1 _ (List.mem_of_getElem? (i := 39) rfl)⟩, tyX1_ok, nmX1, rfl, rfl⟩
theorem fl_X0_68 : am_FL RX0 68 1 2 := ⟨RX1, TX1, 4, rfl, by decide, in_X1, Or.inr ⟨"PlaneCuts", lm_t1 _ (List.mem_of_getElem? (i := 40) rfl)⟩⟩
theorem fp_X0_68 : am_FP RX0 68 1 2 .int := ⟨RX1, TX1, 4, tyX1, rfl, by decide, in_X1, Or.inr ⟨"PlaneCuts", lm_t1 _ (List.mem_of_getElem? (i := 40) rfl)⟩, tyX1_ok, nmX1, rfl, rfl⟩
theorem fl_X8_78 : am_FL RX8 78 1 2 := ⟨RX1, TX1, 4, rfl, by decide, in_X1, Or.inr ⟨"PlaneCuts", lm_t1 _ (List.mem_of_getElem? (i := 41) rfl)⟩⟩
theorem fp_X8_78 : am_FP RX8 78 1 2 .int := ⟨RX1, TX1, 4, tyX1, rfl, by decide, in_X1, Or.inr ⟨"PlaneCuts", lm_t1 _ (List.mem_of_getElem? (i := 41) rfl)⟩, tyX1_ok, nmX1, rfl, rfl⟩
theorem fl_X6_83 : am_FL RX6 83 1 2 := ⟨RX1, TX1, 4, rfl, by decide, in_X1, Or.inr ⟨"PlaneCuts", lm_t1 _ (List.mem_of_getElem? (i := 42) rfl)⟩⟩
theorem fp_X6_83 : am_FP RX6 83 1 2 .int := ⟨RX1, TX1, 4, tyX1, rfl, by decide, in_X1, Or.inr ⟨"PlaneCuts", lm_t1 _ (List.mem_of_getElem? (i := 42) rfl)⟩, tyX1_ok, nmX1, rfl, rfl⟩
theorem fl_X10_246 : am_FL RX10 246 1 2 := ⟨RX1, TX1, 4, rfl, by decide, in_X1, Or.inr ⟨"PlaneCuts", lm_t1 _ (List.mem_of_getElem? (i := 43) rfl)⟩⟩
theorem fp_X10_246 : am_FP RX10 246 1 2 .int := ⟨RX1, TX1, 4, tyX1, rfl, by decide, in_X1, Or.inr ⟨"PlaneCuts", lm_t1 _ (List.mem_of_getElem? (i := 43) rfl)⟩, tyX1_ok, nmX1, rfl, rfl⟩
theorem fl_X6_49 : am_FL RX6 49 1 3 := ⟨RX1, TX1, 4, rfl, by decide, in_X1, Or.inr ⟨"PlaneCuts", lm_t1 _ (List.mem_of_getElem? (i := 44) rfl)⟩⟩
theorem fp_X6_49 : am_FP RX6 49 1 3 .int := ⟨RX1, TX1, 4, tyX1, rfl, by decide, in_X1, Or.inr ⟨"PlaneCuts", lm_t1 _ (List.mem_of_getElem? (i := 44) rfl)⟩, tyX1_ok, nmX1, rfl, rfl⟩
theorem fl_X8_40 : am_FL RX8 40 1 3 := ⟨RX1, TX1, 4, rfl, by decide, in_X1, Or.inr ⟨"PlaneCuts", lm_t1 _ (List.mem_of_getElem? (i := 45) rfl)⟩⟩
theorem fp_X8_40 : am_FP RX8 40 1 3 .int := ⟨RX1, TX1, 4, tyX1, rfl, by decide, in_X1, Or.inr ⟨"PlaneCuts", lm_t1 _ (List.mem_of_getElem? (i := 45) rfl)⟩, tyX1_ok, nmX1, rfl, rfl⟩
theorem fl_X7_34 : am_FL RX7 34 1 3 := ⟨RX1, TX1, 4, rfl, by decide, in_X1, Or.inr ⟨"PlaneCuts", lm_t1 _ (List.mem_of_getElem? (i := 46) rfl)⟩⟩
theorem fp_X7_34 : am_FP RX7 34 1 3 .int := ⟨RX1, TX1, 4, tyX1, rfl, by decide, in_X1, Or.inr ⟨"PlaneCuts", lm_t1 _ (List.mem_of_getElem? (i := 46) rfl)⟩, tyX1_ok, nmX1, rfl, rfl⟩
theorem fl_X0_39 : am_FL RX0 39 1 3 := ⟨RX1, TX1, 4, rfl, by decide, in_X1, Or.inr ⟨"PlaneCuts", lm_t1 _ (List.mem_of_getElem? (i := 47) rfl)⟩⟩
theorem fp_X0_39 : am_FP RX0 39 1 3 .int := ⟨RX1, TX1, 4, tyX1, rfl, by decide, in_X1, Or.inr ⟨"PlaneCuts", lm_t1 _ (List.mem_of_getElem? (i := 47) rfl)⟩, tyX1_ok, nmX1, rfl, rfl⟩
theorem fl_X1_32 : am_FL RX1 32 1 3 := ⟨RX1, TX1, 4, rfl, by decide, in_X1, Or.inl (lm_t1 _ (List.mem_of_getElem? (i := 48) rfl))⟩
theorem fp_X1_32 : am_FP RX1 32 1 3 .int := ⟨RX1, TX1, 4, tyX1, rfl, by decide, in_X1, Or.inl (lm_t1 _ (List.mem_of_getElem? (i := 48) rfl)), tyX1_ok, nmX1, rfl, rfl⟩
theorem ml_X10_14 : Cond.methodLink RX10 14 yX6_init ∈ lw_tbl := lm_t1 _ (List.mem_of_getElem? (i := 61) rfl)
theorem fl_X5_11 : am_FL RX5 11 5 0 := ⟨RX5, TX5, 4, rfl, by decide, in_X5, Or.inl (lm_t1 _ (List.mem_of_getElem? (i := 71) rfl))⟩
theorem fl_X5_15 : am_FL RX5 15 5 1 := ⟨RX5, TX5, 4, rfl, by decide, in_X5, Or.inl (lm_t1 _ (List.mem_of_getElem? (i := 72) rfl))⟩
theorem fp_X5_15 : am_FP RX5 15 5 1 .int := ⟨RX5, TX5, 4, tyX5, rfl, by decide, in_X5, Or.inl (lm_t1 _ (List.mem_of_getElem? (i := 72) rfl)), tyX5_ok, nmX5, rfl, rfl⟩
theorem fl_X5_24 : am_FL RX5 24 5 2 := ⟨RX5, TX5, 4, rfl, by decide, in_X5, Or.inl (lm_t1 _ (List.mem_of_getElem? (i := 73) rfl))⟩
theorem fp_X5_24 : am_FP RX5 24 5 2 .int := ⟨RX5, TX5, 4, tyX5, rfl, by decide, in_X5, Or.inl (lm_t1 _ (List.mem_of_getElem? (i := 73) rfl)), tyX5_ok, nmX5, rfl, rfl⟩
theorem fl_X5_27 : am_FL RX5 27 5 3 := ⟨RX5, TX5, 4, rfl, by decide, in_X5, Or.inl (lm_t1 _ (List.mem_of_getElem? (i := 74) rfl))⟩
theorem fp_X5_27 : am_FP RX5 27 5 3 .int := ⟨RX5, TX5, 4, tyX5, rfl, by decide, in_X5, Or.inl (lm_t1 _ (List.mem_of_getElem? (i := 74) rfl)), tyX5_ok, nmX5, rfl, rfl⟩
theorem ml_X6_28 : Cond.methodLink RX6 28 yX4_init ∈ lw_tbl := lm_t1 _ (List.mem_of_getElem? (i := 87) rfl)
theorem ml_X4_9 : Cond.methodLink RX4 9 yJ9_max_7cf53 ∈ lw_tbl := lm_t1 _ (List.mem_of_getElem? (i := 91) rfl)
theorem fl_X4_15 : am_FL RX4 15 4 0 := ⟨RX4, TX4, 2, rfl, by decide, in_X4, Or.inl (lm_t1 _ (List.mem_of_getElem? (i := 94) rfl))⟩
theorem fl_X0_61 : am_FL RX0 61 4 0 := ⟨RX4, TX4, 2, rfl, by decide, in_X4, Or.inr ⟨"PlaneCuts", lm_t1 _ (List.mem_of_getElem? (i := 95) rfl)⟩⟩
theorem fl_X8_60 : am_FL RX8 60 4 0 := ⟨RX4, TX4, 2, rfl, by decide, in_X4, Or.inr ⟨"PlaneCuts", lm_t1 _ (List.mem_of_getElem? (i := 96) rfl)⟩⟩
theorem fl_X10_154 : am_FL RX10 154 4 0 := ⟨RX4, TX4, 2, rfl, by decide, in_X4, Or.inr ⟨"PlaneCuts", lm_t1 _ (List.mem_of_getElem? (i := 97) rfl)⟩⟩
theorem fl_X4_21 : am_FL RX4 21 4 1 := ⟨RX4, TX4, 2, rfl, by decide, in_X4, Or.inl (lm_t1 _ (List.mem_of_getElem? (i := 98) rfl))⟩
theorem fp_X4_21 : am_FP RX4 21 4 1 .int := ⟨RX4, TX4, 2, tyX4, rfl, by decide, in_X4, Or.inl (lm_t1 _ (List.mem_of_getElem? (i := 98) rfl)), tyX4_ok, nmX4, rfl, rfl⟩
theorem fl_X0_58 : am_FL RX0 58 4 1 := ⟨RX4, TX4, 2, rfl, by decide, in_X4, Or.inr ⟨"PlaneCuts", lm_t1 _ (List.mem_of_getElem? (i := 99) rfl)⟩⟩
theorem fp_X0_58 : am_FP RX0 58 4 1 .int := ⟨RX4, TX4, 2, tyX4, rfl, by decide, in_X4, Or.inr ⟨"PlaneCuts", lm_t1 _ (List.mem_of_getElem? (i := 99) rfl)⟩, tyX4_ok, nmX4, rfl, rfl⟩
theorem fl_X8_57 : am_FL RX8 57 4 1 := ⟨RX4, TX4, 2, rfl, by decide, in_X4, Or.inr ⟨"PlaneCuts", lm_t1 _ (List.mem_of_getElem? (i := 100) rfl)⟩⟩
theorem fp_X8_57 : am_FP RX8 57 4 1 .int := ⟨RX4, TX4, 2, tyX4, rfl, by decide, in_X4, Or.inr ⟨"PlaneCuts", lm_t1 _ (List.mem_of_getElem? (i := 100) rfl)⟩, tyX4_ok, nmX4, rfl, rfl⟩
theorem fl_X6_65 : am_FL RX6 65 4 1 := ⟨RX4, TX4, 2, rfl, by decide, in_X4, Or.inr ⟨"PlaneCuts", lm_t1 _ (List.mem_of_getElem? (i := 101) rfl)⟩⟩
theorem fp_X6_65 : am_FP RX6 65 4 1 .int := ⟨RX4, TX4, 2, tyX4, rfl, by decide, in_X4, Or.inr ⟨"PlaneCuts", lm_t1 _ (List.mem_of_getElem? (i := 101) rfl)⟩, tyX4_ok, nmX4, rfl, rfl⟩
theorem fl_X10_151 : am_FL RX10 151 4 1 := ⟨RX4, TX4, 2, rfl, by decide, in_X4, Or.inr ⟨"PlaneCuts", lm_t1 _ (List.mem_of_getElem? (i := 102) rfl)⟩⟩
theorem fp_X10_151 : am_FP RX10 151 4 1 .int := ⟨RX4, TX4, 2, tyX4, rfl, by decide, in_X4, Or.inr ⟨"PlaneCuts", lm_t1 _ (List.mem_of_getElem? (i := 102) rfl)⟩, tyX4_ok, nmX4, rfl, rfl⟩
theorem fl_X6_45 : am_FL RX6 45 6 0 := ⟨RX6, TX6, 8, rfl, by decide, in_X6, Or.inl (lm_t1 _ (List.mem_of_getElem? (i := 109) rfl))⟩
theorem fl_X6_12 : am_FL RX6 12 6 1 := ⟨RX6, TX6, 8, rfl, by decide, in_X6, Or.inl (lm_t1 _ (List.mem_of_getElem? (i := 110) rfl))⟩
theorem fl_X6_18 : am_FL RX6 18 6 2 := ⟨RX6, TX6, 8, rfl, by decide, in_X6, Or.inl (lm_t1 _ (List.mem_of_getElem? (i := 111) rfl))⟩
theorem fl_X7_59 : am_FL RX7 59 6 2 := ⟨RX6, TX6, 8, rfl, by decide, in_X6, Or.inr ⟨"PlaneCuts", lm_t1 _ (List.mem_of_getElem? (i := 112) rfl)⟩⟩
theorem fl_X6_22 : am_FL RX6 22 6 3 := ⟨RX6, TX6, 8, rfl, by decide, in_X6, Or.inl (lm_t1 _ (List.mem_of_getElem? (i := 113) rfl))⟩
theorem fl_X7_48 : am_FL RX7 48 6 3 := ⟨RX6, TX6, 8, rfl, by decide, in_X6, Or.inr ⟨"PlaneCuts", lm_t1 _ (List.mem_of_getElem? (i := 114) rfl)⟩⟩
theorem fl_X6_31 : am_FL RX6 31 6 4 := ⟨RX6, TX6, 8, rfl, by decide, in_X6, Or.inl (lm_t1 _ (List.mem_of_getElem? (i := 115) rfl))⟩
theorem fl_X0_55 : am_FL RX0 55 6 4 := ⟨RX6, TX6, 8, rfl, by decide, in_X6, Or.inr ⟨"PlaneCuts", lm_t1 _ (List.mem_of_getElem? (i := 116) rfl)⟩⟩
theorem fl_X8_54 : am_FL RX8 54 6 4 := ⟨RX6, TX6, 8, rfl, by decide, in_X6, Or.inr ⟨"PlaneCuts", lm_t1 _ (List.mem_of_getElem? (i := 117) rfl)⟩⟩
theorem fl_X6_35 : am_FL RX6 35 6 5 := ⟨RX6, TX6, 8, rfl, by decide, in_X6, Or.inl (lm_t1 _ (List.mem_of_getElem? (i := 118) rfl))⟩
theorem fl_X6_38 : am_FL RX6 38 6 6 := ⟨RX6, TX6, 8, rfl, by decide, in_X6, Or.inl (lm_t1 _ (List.mem_of_getElem? (i := 119) rfl))⟩
theorem fl_X6_41 : am_FL RX6 41 6 7 := ⟨RX6, TX6, 8, rfl, by decide, in_X6, Or.inl (lm_t1 _ (List.mem_of_getElem? (i := 120) rfl))⟩
theorem fp_X6_41 : am_FP RX6 41 6 7 .int := ⟨RX6, TX6, 8, tyX6, rfl, by decide, in_X6, Or.inl (lm_t1 _ (List.mem_of_getElem? (i := 120) rfl)), tyX6_ok, nmX6, rfl, rfl⟩
theorem ml_X10_30 : Cond.methodLink RX10 30 yX3_init ∈ lw_tbl := lm_t1 _ (List.mem_of_getElem? (i := 140) rfl)
theorem fl_X3_11 : am_FL RX3 11 3 0 := ⟨RX3, TX3, 3, rfl, by decide, in_X3, Or.inl (lm_t1 _ (List.mem_of_getElem? (i := 147) rfl))⟩
theorem fl_X3_18 : am_FL RX3 18 3 1 := ⟨RX3, TX3, 3, rfl, by decide, in_X3, Or.inl (lm_t1 _ (List.mem_of_getElem? (i := 148) rfl))⟩
theorem fp_X3_18 : am_FP RX3 18 3 1 .int := ⟨RX3, TX3, 3, tyX3, rfl, by decide, in_X3, Or.inl (lm_t1 _ (List.mem_of_getElem? (i := 148) rfl)), tyX3_ok, nmX3, rfl, rfl⟩
theorem fl_X3_26 : am_FL RX3 26 3 2 := ⟨RX3, TX3, 3, rfl, by decide, in_X3, Or.inl (lm_t1 _ (List.mem_of_getElem? (i := 149) rfl))⟩
theorem fp_X3_26 : am_FP RX3 26 3 2 .int := ⟨RX3, TX3, 3, tyX3, rfl, by decide, in_X3, Or.inl (lm_t1 _ (List.mem_of_getElem? (i := 149) rfl)), tyX3_ok, nmX3, rfl, rfl⟩
theorem fl_X10_236 : am_FL RX10 236 3 2 := ⟨RX3, TX3, 3, rfl, by decide, in_X3, Or.inr ⟨"PlaneCuts", lm_t1 _ (List.mem_of_getElem? (i := 150) rfl)⟩⟩
theorem fp_X10_236 : am_FP RX10 236 3 2 .int := ⟨RX3, TX3, 3, tyX3, rfl, by decide, in_X3, Or.inr ⟨"PlaneCuts", lm_t1 _ (List.mem_of_getElem? (i := 150) rfl)⟩, tyX3_ok, nmX3, rfl, rfl⟩
theorem ml_X10_37 : Cond.methodLink RX10 37 yX8_init ∈ lw_tbl := lm_t1 _ (List.mem_of_getElem? (i := 160) rfl)
theorem ml_X8_21 : Cond.methodLink RX8 21 yX4_init ∈ lw_tbl := lm_t1 _ (List.mem_of_getElem? (i := 165) rfl)
theorem fl_X8_32 : am_FL RX8 32 8 0 := ⟨RX8, TX8, 6, rfl, by decide, in_X8, Or.inl (lm_t1 _ (List.mem_of_getElem? (i := 166) rfl))⟩
theorem fl_X8_36 : am_FL RX8 36 8 1 := ⟨RX8, TX8, 6, rfl, by decide, in_X8, Or.inl (lm_t1 _ (List.mem_of_getElem? (i := 167) rfl))⟩
theorem fl_X8_9 : am_FL RX8 9 8 2 := ⟨RX8, TX8, 6, rfl, by decide, in_X8, Or.inl (lm_t1 _ (List.mem_of_getElem? (i := 168) rfl))⟩
theorem fl_X8_15 : am_FL RX8 15 8 3 := ⟨RX8, TX8, 6, rfl, by decide, in_X8, Or.inl (lm_t1 _ (List.mem_of_getElem? (i := 169) rfl))⟩
theorem fl_X8_24 : am_FL RX8 24 8 4 := ⟨RX8, TX8, 6, rfl, by decide, in_X8, Or.inl (lm_t1 _ (List.mem_of_getElem? (i := 170) rfl))⟩
theorem fl_X8_28 : am_FL RX8 28 8 5 := ⟨RX8, TX8, 6, rfl, by decide, in_X8, Or.inl (lm_t1 _ (List.mem_of_getElem? (i := 171) rfl))⟩
theorem fp_X8_28 : am_FP RX8 28 8 5 .int := ⟨RX8, TX8, 6, tyX8, rfl, by decide, in_X8, Or.inl (lm_t1 _ (List.mem_of_getElem? (i := 171) rfl)), tyX8_ok, nmX8, rfl, rfl⟩
theorem ml_X10_46 : Cond.methodLink RX10 46 yX7_init ∈ lw_tbl := lm_t1 _ (List.mem_of_getElem? (i := 187) rfl)
theorem fl_X7_26 : am_FL RX7 26 7 0 := ⟨RX7, TX7, 6, rfl, by decide, in_X7, Or.inl (lm_t1 _ (List.mem_of_getElem? (i := 191) rfl))⟩
theorem fl_X7_30 : am_FL RX7 30 7 1 := ⟨RX7, TX7, 6, rfl, by decide, in_X7, Or.inl (lm_t1 _ (List.mem_of_getElem? (i := 192) rfl))⟩
theorem fl_X7_9 : am_FL RX7 9 7 2 := ⟨RX7, TX7, 6, rfl, by decide, in_X7, Or.inl (lm_t1 _ (List.mem_of_getElem? (i := 193) rfl))⟩
theorem fl_X7_15 : am_FL RX7 15 7 3 := ⟨RX7, TX7, 6, rfl, by decide, in_X7, Or.inl (lm_t1 _ (List.mem_of_getElem? (i := 194) rfl))⟩
theorem fl_X7_18 : am_FL RX7 18 7 4 := ⟨RX7, TX7, 6, rfl, by decide, in_X7, Or.inl (lm_t1 _ (List.mem_of_getElem? (i := 195) rfl))⟩
theorem fl_X7_22 : am_FL RX7 22 7 5 := ⟨RX7, TX7, 6, rfl, by decide, in_X7, Or.inl (lm_t1 _ (List.mem_of_getElem? (i := 196) rfl))⟩
theorem fp_X7_22 : am_FP RX7 22 7 5 .int := ⟨RX7, TX7, 6, tyX7, rfl, by decide, in_X7, Or.inl (lm_t1 _ (List.mem_of_getElem? (i := 196) rfl)), tyX7_ok, nmX7, rfl, rfl⟩
theorem ml_X10_53 : Cond.methodLink RX10 53 yX2_init ∈ lw_tbl := lm_t1 _ (List.mem_of_getElem? (i := 212) rfl)
theorem fl_X2_22 : am_FL RX2 22 2 0 := ⟨RX2, TX2, 4, rfl, by decide, in_X2, Or.inl (lm_t1 _ (List.mem_of_getElem? (i := 218) rfl))⟩
theorem fl_X2_26 : am_FL RX2 26 2 1 := ⟨RX2, TX2, 4, rfl, by decide, in_X2, Or.inl (lm_t1 _ (List.mem_of_getElem? (i := 219) rfl))⟩
theorem fl_X2_12 : am_FL RX2 12 2 2 := ⟨RX2, TX2, 4, rfl, by decide, in_X2, Or.inl (lm_t1 _ (List.mem_of_getElem? (i := 220) rfl))⟩
theorem fl_X2_18 : am_FL RX2 18 2 3 := ⟨RX2, TX2, 4, rfl, by decide, in_X2, Or.inl (lm_t1 _ (List.mem_of_getElem? (i := 221) rfl))⟩
theorem ml_X10_60 : Cond.methodLink RX10 60 yX0_init ∈ lw_tbl := lm_t1 _ (List.mem_of_getElem? (i := 233) rfl)
theorem ml_X0_20 : Cond.methodLink RX0 20 yX4_init ∈ lw_tbl := lm_t1 _ (List.mem_of_getElem? (i := 238) rfl)
theorem fl_X0_31 : am_FL RX0 31 0 0 := ⟨RX0, TX0, 6, rfl, by decide, in_X0, Or.inl (lm_t1 _ (List.mem_of_getElem? (i := 239) rfl))⟩
theorem fl_X0_35 : am_FL RX0 35 0 1 := ⟨RX0, TX0, 6, rfl, by decide, in_X0, Or.inl (lm_t2 _ (List.mem_of_getElem? (i := 0) rfl))⟩
theorem fl_X0_9 : am_FL RX0 9 0 2 := ⟨RX0, TX0, 6, rfl, by decide, in_X0, Or.inl (lm_t2 _ (List.mem_of_getElem? (i := 1) rfl))⟩
theorem fl_X0_15 : am_FL RX0 15 0 3 := ⟨RX0, TX0, 6, rfl, by decide, in_X0, Or.inl (lm_t2 _ (List.mem_of_getElem? (i := 2) rfl))⟩
theorem fl_X0_23 : am_FL RX0 23 0 4 := ⟨RX0, TX0, 6, rfl, by decide, in_X0, Or.inl (lm_t2 _ (List.mem_of_getElem? (i := 3) rfl))⟩
theorem fl_X0_27 : am_FL RX0 27 0 5 := ⟨RX0, TX0, 6, rfl, by decide, in_X0, Or.inl (lm_t2 _ (List.mem_of_getElem? (i := 4) rfl))⟩
theorem fp_X0_27 : am_FP RX0 27 0 5 .int := ⟨RX0, TX0, 6, tyX0, rfl, by decide, in_X0, Or.inl (lm_t2 _ (List.mem_of_getElem? (i := 4) rfl)), tyX0_ok, nmX0, rfl, rfl⟩
theorem fl_X9_9 : am_FL RX9 9 9 0 := ⟨RX9, TX9, 6, rfl, by decide, in_X9, Or.inl (lm_t2 _ (List.mem_of_getElem? (i := 24) rfl))⟩
theorem fl_X9_15 : am_FL RX9 15 9 1 := ⟨RX9, TX9, 6, rfl, by decide, in_X9, Or.inl (lm_t2 _ (List.mem_of_getElem? (i := 25) rfl))⟩
theorem fl_X9_19 : am_FL RX9 19 9 2 := ⟨RX9, TX9, 6, rfl, by decide, in_X9, Or.inl (lm_t2 _ (List.mem_of_getElem? (i := 26) rfl))⟩
theorem fl_X9_22 : am_FL RX9 22 9 3 := ⟨RX9, TX9, 6, rfl, by decide, in_X9, Or.inl (lm_t2 _ (List.mem_of_getElem? (i := 27) rfl))⟩
theorem fp_X9_22 : am_FP RX9 22 9 3 .int := ⟨RX9, TX9, 6, tyX9, rfl, by decide, in_X9, Or.inl (lm_t2 _ (List.mem_of_getElem? (i := 27) rfl)), tyX9_ok, nmX9, rfl, rfl⟩
theorem fl_X10_214 : am_FL RX10 214 9 3 := ⟨RX9, TX9, 6, rfl, by decide, in_X9, Or.inr ⟨"PlaneCuts", lm_t2 _ (List.mem_of_getElem? (i := 28) rfl)⟩⟩
theorem fp_X10_214 : am_FP RX10 214 9 3 .int := ⟨RX9, TX9, 6, tyX9, rfl, by decide, in_X9, Or.inr ⟨"PlaneCuts", lm_t2 _ (List.mem_of_getElem? (i := 28) rfl)⟩, tyX9_ok, nmX9, rfl, rfl⟩
theorem fl_X9_26 : am_FL RX9 26 9 4 := ⟨RX9, TX9, 6, rfl, by decide, in_X9, Or.inl (lm_t2 _ (List.mem_of_getElem? (i := 29) rfl))⟩
theorem fp_X9_26 : am_FP RX9 26 9 4 .int := ⟨RX9, TX9, 6, tyX9, rfl, by decide, in_X9, Or.inl (lm_t2 _ (List.mem_of_getElem? (i := 29) rfl)), tyX9_ok, nmX9, rfl, rfl⟩
theorem fl_X10_220 : am_FL RX10 220 9 4 := ⟨RX9, TX9, 6, rfl, by decide, in_X9, Or.inr ⟨"PlaneCuts", lm_t2 _ (List.mem_of_getElem? (i := 30) rfl)⟩⟩
theorem fp_X10_220 : am_FP RX10 220 9 4 .int := ⟨RX9, TX9, 6, tyX9, rfl, by decide, in_X9, Or.inr ⟨"PlaneCuts", lm_t2 _ (List.mem_of_getElem? (i := 30) rfl)⟩, tyX9_ok, nmX9, rfl, rfl⟩
theorem fl_X9_29 : am_FL RX9 29 9 5 := ⟨RX9, TX9, 6, rfl, by decide, in_X9, Or.inl (lm_t2 _ (List.mem_of_getElem? (i := 31) rfl))⟩
theorem fp_X9_29 : am_FP RX9 29 9 5 .int := ⟨RX9, TX9, 6, tyX9, rfl, by decide, in_X9, Or.inl (lm_t2 _ (List.mem_of_getElem? (i := 31) rfl)), tyX9_ok, nmX9, rfl, rfl⟩
theorem fl_X10_17 : am_FL RX10 17 10 0 := ⟨RX10, TX10, 14, rfl, by decide, in_X10, Or.inl (lm_t2 _ (List.mem_of_getElem? (i := 46) rfl))⟩
theorem fl_X10_25 : am_FL RX10 25 10 1 := ⟨RX10, TX10, 14, rfl, by decide, in_X10, Or.inl (lm_t2 _ (List.mem_of_getElem? (i := 47) rfl))⟩
theorem fl_X10_31 : am_FL RX10 31 10 2 := ⟨RX10, TX10, 14, rfl, by decide, in_X10, Or.inl (lm_t2 _ (List.mem_of_getElem? (i := 48) rfl))⟩
theorem fl_X10_21 : am_FL RX10 21 10 3 := ⟨RX10, TX10, 14, rfl, by decide, in_X10, Or.inl (lm_t2 _ (List.mem_of_getElem? (i := 49) rfl))⟩
theorem fl_X10_40 : am_FL RX10 40 10 4 := ⟨RX10, TX10, 14, rfl, by decide, in_X10, Or.inl (lm_t2 _ (List.mem_of_getElem? (i := 50) rfl))⟩
theorem fl_X10_47 : am_FL RX10 47 10 5 := ⟨RX10, TX10, 14, rfl, by decide, in_X10, Or.inl (lm_t2 _ (List.mem_of_getElem? (i := 51) rfl))⟩
theorem fl_X10_54 : am_FL RX10 54 10 6 := ⟨RX10, TX10, 14, rfl, by decide, in_X10, Or.inl (lm_t2 _ (List.mem_of_getElem? (i := 52) rfl))⟩
theorem fl_X10_61 : am_FL RX10 61 10 7 := ⟨RX10, TX10, 14, rfl, by decide, in_X10, Or.inl (lm_t2 _ (List.mem_of_getElem? (i := 53) rfl))⟩
theorem fl_X10_68 : am_FL RX10 68 10 8 := ⟨RX10, TX10, 14, rfl, by decide, in_X10, Or.inl (lm_t2 _ (List.mem_of_getElem? (i := 54) rfl))⟩
theorem fl_X10_237 : am_FL RX10 237 10 9 := ⟨RX10, TX10, 14, rfl, by decide, in_X10, Or.inl (lm_t2 _ (List.mem_of_getElem? (i := 55) rfl))⟩
theorem fp_X10_237 : am_FP RX10 237 10 9 .int := ⟨RX10, TX10, 14, tyX10, rfl, by decide, in_X10, Or.inl (lm_t2 _ (List.mem_of_getElem? (i := 55) rfl)), tyX10_ok, nmX10, rfl, rfl⟩
theorem fl_X10_240 : am_FL RX10 240 10 10 := ⟨RX10, TX10, 14, rfl, by decide, in_X10, Or.inl (lm_t2 _ (List.mem_of_getElem? (i := 56) rfl))⟩
theorem fp_X10_240 : am_FP RX10 240 10 10 .int := ⟨RX10, TX10, 14, tyX10, rfl, by decide, in_X10, Or.inl (lm_t2 _ (List.mem_of_getElem? (i := 56) rfl)), tyX10_ok, nmX10, rfl, rfl⟩
theorem fl_X10_243 : am_FL RX10 243 10 11 := ⟨RX10, TX10, 14, rfl, by decide, in_X10, Or.inl (lm_t2 _ (List.mem_of_getElem? (i := 57) rfl))⟩
theorem fp_X10_243 : am_FP RX10 243 10 11 .int := ⟨RX10, TX10, 14, tyX10, rfl, by decide, in_X10, Or.inl (lm_t2 _ (List.mem_of_getElem? (i := 57) rfl)), tyX10_ok, nmX10, rfl, rfl⟩
theorem fl_X10_226 : am_FL RX10 226 10 12 := ⟨RX10, TX10, 14, rfl, by decide, in_X10, Or.inl (lm_t2 _ (List.mem_of_getElem? (i := 58) rfl))⟩
theorem fp_X10_226 : am_FP RX10 226 10 12 .int := ⟨RX10, TX10, 14, tyX10, rfl, by decide, in_X10, Or.inl (lm_t2 _ (List.mem_of_getElem? (i := 58) rfl)), tyX10_ok, nmX10, rfl, rfl⟩
theorem fl_X10_72 : am_FL RX10 72 10 13 := ⟨RX10, TX10, 14, rfl, by decide, in_X10, Or.inl (lm_t2 _ (List.mem_of_getElem? (i := 59) rfl))⟩
theorem fp_X10_72 : am_FP RX10 72 10 13 .int := ⟨RX10, TX10, 14, tyX10, rfl, by decide, in_X10, Or.inl (lm_t2 _ (List.mem_of_getElem? (i := 59) rfl)), tyX10_ok, nmX10, rfl, rfl⟩
theorem ml_L_13 : Cond.methodLink RL 13 yX10_space ∈ lw_tbl := lm_t2 _ (List.mem_of_getElem? (i := 89) rfl)
theorem ml_X10_76 : Cond.methodLink RX10 76 yX1_copyFrom ∈ lw_tbl := lm_t2 _ (List.mem_of_getElem? (i := 93) rfl)
theorem ml_X1_26 : Cond.methodLink RX1 26 arraycopyName ∈ lw_tbl := lm_t2 _ (List.mem_of_getElem? (i := 97) rfl)
theorem ml_X10_79 : Cond.methodLink RX10 79 yX1_restart ∈ lw_tbl := lm_t2 _ (List.mem_of_getElem? (i := 100) rfl)
theorem ml_X10_83 : Cond.methodLink RX10 83 yX10_settled ∈ lw_tbl := lm_t2 _ (List.mem_of_getElem? (i := 104) rfl)
theorem ml_X10_120 : Cond.methodLink RX10 120 yX10_refused ∈ lw_tbl := lm_t2 _ (List.mem_of_getElem? (i := 108) rfl)
theorem ml_X10_229 : Cond.methodLink RX10 229 yX3_keep ∈ lw_tbl := lm_t2 _ (List.mem_of_getElem? (i := 112) rfl)
theorem ml_X3_22 : Cond.methodLink RX3 22 yX1_copyFrom ∈ lw_tbl := lm_t2 _ (List.mem_of_getElem? (i := 116) rfl)
theorem ml_X3_29 : Cond.methodLink RX3 29 yJ9_min_7cf53 ∈ lw_tbl := lm_t2 _ (List.mem_of_getElem? (i := 117) rfl)
theorem ml_L_18 : Cond.methodLink RL 18 yX10_plane ∈ lw_tbl := lm_t2 _ (List.mem_of_getElem? (i := 120) rfl)
theorem ml_X10_86 : Cond.methodLink RX10 86 yX1_add ∈ lw_tbl := lm_t2 _ (List.mem_of_getElem? (i := 124) rfl)
theorem ml_X1_35 : Cond.methodLink RX1 35 yX1_isCoefficient ∈ lw_tbl := lm_t2 _ (List.mem_of_getElem? (i := 128) rfl)
theorem ml_X1_39 : Cond.methodLink RX1 39 yX1_isSame ∈ lw_tbl := lm_t2 _ (List.mem_of_getElem? (i := 131) rfl)
theorem ml_X1_47 : Cond.methodLink RX1 47 yX1_at ∈ lw_tbl := lm_t2 _ (List.mem_of_getElem? (i := 135) rfl)
theorem ml_X1_43 : Cond.methodLink RX1 43 yX1_put ∈ lw_tbl := lm_t2 _ (List.mem_of_getElem? (i := 139) rfl)
theorem ml_L_23 : Cond.methodLink RL 23 yX10_turns ∈ lw_tbl := lm_t2 _ (List.mem_of_getElem? (i := 143) rfl)
theorem ml_X10_90 : Cond.methodLink RX10 90 yX1_negate ∈ lw_tbl := lm_t2 _ (List.mem_of_getElem? (i := 147) rfl)
theorem ml_X1_51 : Cond.methodLink RX1 51 yX1_has ∈ lw_tbl := lm_t2 _ (List.mem_of_getElem? (i := 151) rfl)
theorem ml_X10_93 : Cond.methodLink RX10 93 yX6_countRegions ∈ lw_tbl := lm_t2 _ (List.mem_of_getElem? (i := 155) rfl)
theorem ml_X6_126 : Cond.methodLink RX6 126 yX6_valueAt ∈ lw_tbl := lm_t2 _ (List.mem_of_getElem? (i := 159) rfl)
theorem ml_X6_99 : Cond.methodLink RX6 99 yX6_refresh ∈ lw_tbl := lm_t2 _ (List.mem_of_getElem? (i := 163) rfl)
theorem ml_X6_54 : Cond.methodLink RX6 54 yX1_all ∈ lw_tbl := lm_t2 _ (List.mem_of_getElem? (i := 167) rfl)
theorem ml_X6_58 : Cond.methodLink RX6 58 yX6_rankFromSubsets ∈ lw_tbl := lm_t2 _ (List.mem_of_getElem? (i := 171) rfl)
theorem ml_X6_71 : Cond.methodLink RX6 71 yJ6_bitCount_0f7a4 ∈ lw_tbl := lm_t2 _ (List.mem_of_getElem? (i := 175) rfl)
theorem cn_J6_265 : Cond.constant RJ6 265 (1431655765) ∈ lw_tbl := lm_t2 _ (List.mem_of_getElem? (i := 178) rfl)
theorem cn_J6_266 : Cond.constant RJ6 266 (858993459) ∈ lw_tbl := lm_t2 _ (List.mem_of_getElem? (i := 179) rfl)
theorem cn_J6_267 : Cond.constant RJ6 267 (252645135) ∈ lw_tbl := lm_t2 _ (List.mem_of_getElem? (i := 180) rfl)
theorem ml_X6_86 : Cond.methodLink RX6 86 yJ9_max_7cf53 ∈ lw_tbl := lm_t2 _ (List.mem_of_getElem? (i := 181) rfl)
theorem ml_X6_92 : Cond.methodLink RX6 92 yX5_load ∈ lw_tbl := lm_t2 _ (List.mem_of_getElem? (i := 182) rfl)
theorem ml_X5_33 : Cond.methodLink RX5 33 yX1_at ∈ lw_tbl := lm_t2 _ (List.mem_of_getElem? (i := 186) rfl)
theorem ml_X6_96 : Cond.methodLink RX6 96 yX5_reduce ∈ lw_tbl := lm_t2 _ (List.mem_of_getElem? (i := 187) rfl)
theorem ml_X5_37 : Cond.methodLink RX5 37 yX5_takeRemainders ∈ lw_tbl := lm_t2 _ (List.mem_of_getElem? (i := 191) rfl)
theorem ml_X5_41 : Cond.methodLink RX5 41 yX5_bringUp ∈ lw_tbl := lm_t2 _ (List.mem_of_getElem? (i := 195) rfl)
theorem ml_X5_45 : Cond.methodLink RX5 45 yX5_strike ∈ lw_tbl := lm_t2 _ (List.mem_of_getElem? (i := 199) rfl)
theorem ml_X6_62 : Cond.methodLink RX6 62 yX6_closureFromRanks ∈ lw_tbl := lm_t2 _ (List.mem_of_getElem? (i := 203) rfl)
theorem ml_X6_76 : Cond.methodLink RX6 76 yX6_isCircuit ∈ lw_tbl := lm_t2 _ (List.mem_of_getElem? (i := 207) rfl)
theorem ml_X6_80 : Cond.methodLink RX6 80 yX4_append ∈ lw_tbl := lm_t2 _ (List.mem_of_getElem? (i := 211) rfl)
theorem ml_X6_123 : Cond.methodLink RX6 123 yX6_coefficientFromRanks ∈ lw_tbl := lm_t2 _ (List.mem_of_getElem? (i := 215) rfl)
theorem ml_X6_129 : Cond.methodLink RX6 129 yJ9_abs_0f7a4 ∈ lw_tbl := lm_t2 _ (List.mem_of_getElem? (i := 219) rfl)
theorem ml_L_27 : Cond.methodLink RL 27 yX10_drops ∈ lw_tbl := lm_t2 _ (List.mem_of_getElem? (i := 222) rfl)
theorem ml_X10_97 : Cond.methodLink RX10 97 yX1_remove ∈ lw_tbl := lm_t2 _ (List.mem_of_getElem? (i := 226) rfl)
theorem ml_L_31 : Cond.methodLink RL 31 yX10_swaps ∈ lw_tbl := lm_t2 _ (List.mem_of_getElem? (i := 230) rfl)
theorem ml_X10_100 : Cond.methodLink RX10 100 yX1_exchange ∈ lw_tbl := lm_t2 _ (List.mem_of_getElem? (i := 234) rfl)
theorem ml_X10_104 : Cond.methodLink RX10 104 yX1_all ∈ lw_tbl := lm_t2 _ (List.mem_of_getElem? (i := 238) rfl)
theorem ml_X10_107 : Cond.methodLink RX10 107 yX6_rankOf ∈ lw_tbl := lm_t2 _ (List.mem_of_getElem? (i := 239) rfl)
theorem ml_L_36 : Cond.methodLink RL 36 yX10_makes ∈ lw_tbl := lm_t3 _ (List.mem_of_getElem? (i := 3) rfl)
theorem ml_X10_110 : Cond.methodLink RX10 110 yX1_fill ∈ lw_tbl := lm_t3 _ (List.mem_of_getElem? (i := 7) rfl)
theorem ml_X1_54 : Cond.methodLink RX1 54 yX1_putPair ∈ lw_tbl := lm_t3 _ (List.mem_of_getElem? (i := 11) rfl)
theorem ml_X1_58 : Cond.methodLink RX1 58 yX1_putPairs ∈ lw_tbl := lm_t3 _ (List.mem_of_getElem? (i := 15) rfl)
theorem ml_L_40 : Cond.methodLink RL 40 yX10_of ∈ lw_tbl := lm_t3 _ (List.mem_of_getElem? (i := 19) rfl)
theorem ml_X10_113 : Cond.methodLink RX10 113 yX1_has ∈ lw_tbl := lm_t3 _ (List.mem_of_getElem? (i := 23) rfl)
theorem ml_X10_123 : Cond.methodLink RX10 123 yX1_at ∈ lw_tbl := lm_t3 _ (List.mem_of_getElem? (i := 24) rfl)
theorem ml_L_44 : Cond.methodLink RL 44 yX10_rank ∈ lw_tbl := lm_t3 _ (List.mem_of_getElem? (i := 25) rfl)
theorem ml_X10_126 : Cond.methodLink RX10 126 yX1_hasAll ∈ lw_tbl := lm_t3 _ (List.mem_of_getElem? (i := 29) rfl)
theorem ml_X1_22 : Cond.methodLink RX1 22 yX1_all ∈ lw_tbl := lm_t3 _ (List.mem_of_getElem? (i := 33) rfl)
theorem ml_L_48 : Cond.methodLink RL 48 yX10_closed ∈ lw_tbl := lm_t3 _ (List.mem_of_getElem? (i := 34) rfl)
theorem ml_X10_129 : Cond.methodLink RX10 129 yX6_closureOf ∈ lw_tbl := lm_t3 _ (List.mem_of_getElem? (i := 38) rfl)
theorem ml_L_52 : Cond.methodLink RL 52 yX10_flats ∈ lw_tbl := lm_t3 _ (List.mem_of_getElem? (i := 42) rfl)
theorem ml_X10_132 : Cond.methodLink RX10 132 yX6_flatsOfRank ∈ lw_tbl := lm_t3 _ (List.mem_of_getElem? (i := 46) rfl)
theorem ml_X10_136 : Cond.methodLink RX10 136 yX4_answer ∈ lw_tbl := lm_t3 _ (List.mem_of_getElem? (i := 50) rfl)
theorem ml_L_56 : Cond.methodLink RL 56 yX10_sign ∈ lw_tbl := lm_t3 _ (List.mem_of_getElem? (i := 54) rfl)
theorem ml_X10_141 : Cond.methodLink RX10 141 yX6_isFlat ∈ lw_tbl := lm_t3 _ (List.mem_of_getElem? (i := 58) rfl)
theorem ml_X10_144 : Cond.methodLink RX10 144 yX6_moebius ∈ lw_tbl := lm_t3 _ (List.mem_of_getElem? (i := 62) rfl)
theorem ml_L_60 : Cond.methodLink RL 60 yX10_rings ∈ lw_tbl := lm_t3 _ (List.mem_of_getElem? (i := 66) rfl)
theorem ml_X10_147 : Cond.methodLink RX10 147 yX6_circuits ∈ lw_tbl := lm_t3 _ (List.mem_of_getElem? (i := 70) rfl)
theorem ml_L_64 : Cond.methodLink RL 64 yX10_factor ∈ lw_tbl := lm_t3 _ (List.mem_of_getElem? (i := 74) rfl)
theorem ml_X10_158 : Cond.methodLink RX10 158 yX6_factorsOf ∈ lw_tbl := lm_t3 _ (List.mem_of_getElem? (i := 78) rfl)
theorem ml_X6_102 : Cond.methodLink RX6 102 yX5_trace ∈ lw_tbl := lm_t3 _ (List.mem_of_getElem? (i := 82) rfl)
theorem ml_X6_105 : Cond.methodLink RX6 105 yX5_traceInLast ∈ lw_tbl := lm_t3 _ (List.mem_of_getElem? (i := 86) rfl)
theorem ml_X6_109 : Cond.methodLink RX6 109 yX6_commonDivisor ∈ lw_tbl := lm_t3 _ (List.mem_of_getElem? (i := 90) rfl)
theorem ml_X6_119 : Cond.methodLink RX6 119 yJ9_abs_067f4 ∈ lw_tbl := lm_t3 _ (List.mem_of_getElem? (i := 93) rfl)
theorem ml_X6_113 : Cond.methodLink RX6 113 yJ7_fill_53178 ∈ lw_tbl := lm_t3 _ (List.mem_of_getElem? (i := 96) rfl)
theorem ml_L_68 : Cond.methodLink RL 68 yX10_polynomial ∈ lw_tbl := lm_t3 _ (List.mem_of_getElem? (i := 99) rfl)
theorem ml_X10_162 : Cond.methodLink RX10 162 yX6_coefficient ∈ lw_tbl := lm_t3 _ (List.mem_of_getElem? (i := 103) rfl)
theorem ml_L_72 : Cond.methodLink RL 72 yX10_value ∈ lw_tbl := lm_t3 _ (List.mem_of_getElem? (i := 107) rfl)
theorem ml_X10_165 : Cond.methodLink RX10 165 yX6_valueAt ∈ lw_tbl := lm_t3 _ (List.mem_of_getElem? (i := 111) rfl)
theorem cn_X10_168 : Cond.constant RX10 168 (100000) ∈ lw_tbl := lm_t3 _ (List.mem_of_getElem? (i := 112) rfl)
theorem ml_L_76 : Cond.methodLink RL 76 yX10_within ∈ lw_tbl := lm_t3 _ (List.mem_of_getElem? (i := 113) rfl)
theorem ml_L_80 : Cond.methodLink RL 80 yX10_parts ∈ lw_tbl := lm_t3 _ (List.mem_of_getElem? (i := 117) rfl)
theorem ml_X10_169 : Cond.methodLink RX10 169 yX8_listed ∈ lw_tbl := lm_t3 _ (List.mem_of_getElem? (i := 121) rfl)
theorem ml_X8_86 : Cond.methodLink RX8 86 yX8_refresh ∈ lw_tbl := lm_t3 _ (List.mem_of_getElem? (i := 125) rfl)
theorem ml_X8_45 : Cond.methodLink RX8 45 yX1_all ∈ lw_tbl := lm_t3 _ (List.mem_of_getElem? (i := 129) rfl)
theorem ml_X8_49 : Cond.methodLink RX8 49 yX6_refresh ∈ lw_tbl := lm_t3 _ (List.mem_of_getElem? (i := 130) rfl)
theorem ml_X8_63 : Cond.methodLink RX8 63 yX8_positivePart ∈ lw_tbl := lm_t3 _ (List.mem_of_getElem? (i := 131) rfl)
theorem ml_X8_74 : Cond.methodLink RX8 74 yX6_factorsOf ∈ lw_tbl := lm_t3 _ (List.mem_of_getElem? (i := 135) rfl)
theorem ml_X8_67 : Cond.methodLink RX8 67 yX8_strike ∈ lw_tbl := lm_t3 _ (List.mem_of_getElem? (i := 136) rfl)
theorem ml_X8_81 : Cond.methodLink RX8 81 yJ6_bitCount_0f7a4 ∈ lw_tbl := lm_t3 _ (List.mem_of_getElem? (i := 140) rfl)
theorem ml_X8_71 : Cond.methodLink RX8 71 yX4_append ∈ lw_tbl := lm_t3 _ (List.mem_of_getElem? (i := 141) rfl)
theorem ml_L_84 : Cond.methodLink RL 84 yX10_walls ∈ lw_tbl := lm_t3 _ (List.mem_of_getElem? (i := 142) rfl)
theorem ml_X10_172 : Cond.methodLink RX10 172 yX8_isRegion ∈ lw_tbl := lm_t3 _ (List.mem_of_getElem? (i := 146) rfl)
theorem ml_X10_175 : Cond.methodLink RX10 175 yX8_wallsOf ∈ lw_tbl := lm_t3 _ (List.mem_of_getElem? (i := 150) rfl)
theorem ml_L_88 : Cond.methodLink RL 88 yX10_way ∈ lw_tbl := lm_t3 _ (List.mem_of_getElem? (i := 154) rfl)
theorem ml_X10_178 : Cond.methodLink RX10 178 yJ6_bitCount_0f7a4 ∈ lw_tbl := lm_t3 _ (List.mem_of_getElem? (i := 158) rfl)
theorem ml_X10_183 : Cond.methodLink RX10 183 yX8_countGalleries ∈ lw_tbl := lm_t3 _ (List.mem_of_getElem? (i := 159) rfl)
theorem ml_X8_87 : Cond.methodLink RX8 87 yX8_sumOfEarlier ∈ lw_tbl := lm_t3 _ (List.mem_of_getElem? (i := 163) rfl)
theorem ml_L_93 : Cond.methodLink RL 93 yX10_chain ∈ lw_tbl := lm_t3 _ (List.mem_of_getElem? (i := 167) rfl)
theorem ml_X10_186 : Cond.methodLink RX10 186 yX7_hasChain ∈ lw_tbl := lm_t3 _ (List.mem_of_getElem? (i := 171) rfl)
theorem ml_X7_68 : Cond.methodLink RX7 68 yX7_refresh ∈ lw_tbl := lm_t3 _ (List.mem_of_getElem? (i := 175) rfl)
theorem ml_X7_39 : Cond.methodLink RX7 39 yX6_refresh ∈ lw_tbl := lm_t3 _ (List.mem_of_getElem? (i := 179) rfl)
theorem ml_X7_44 : Cond.methodLink RX7 44 yX1_all ∈ lw_tbl := lm_t3 _ (List.mem_of_getElem? (i := 180) rfl)
theorem ml_X7_51 : Cond.methodLink RX7 51 yX7_isModular ∈ lw_tbl := lm_t3 _ (List.mem_of_getElem? (i := 181) rfl)
theorem ml_X7_55 : Cond.methodLink RX7 55 yX7_nextAbove ∈ lw_tbl := lm_t3 _ (List.mem_of_getElem? (i := 185) rfl)
theorem ml_X7_62 : Cond.methodLink RX7 62 yJ9_max_7cf53 ∈ lw_tbl := lm_t3 _ (List.mem_of_getElem? (i := 189) rfl)
theorem ml_X10_190 : Cond.methodLink RX10 190 yX7_linkAt ∈ lw_tbl := lm_t3 _ (List.mem_of_getElem? (i := 190) rfl)
theorem ml_X10_193 : Cond.methodLink RX10 193 yX7_stepAt ∈ lw_tbl := lm_t3 _ (List.mem_of_getElem? (i := 194) rfl)
theorem ml_X7_69 : Cond.methodLink RX7 69 yJ6_bitCount_0f7a4 ∈ lw_tbl := lm_t3 _ (List.mem_of_getElem? (i := 198) rfl)
theorem ml_L_97 : Cond.methodLink RL 97 yX10_even ∈ lw_tbl := lm_t3 _ (List.mem_of_getElem? (i := 199) rfl)
theorem ml_X10_196 : Cond.methodLink RX10 196 yX7_countOfRank ∈ lw_tbl := lm_t3 _ (List.mem_of_getElem? (i := 203) rfl)
theorem ml_L_101 : Cond.methodLink RL 101 yX10_places ∈ lw_tbl := lm_t3 _ (List.mem_of_getElem? (i := 207) rfl)
theorem ml_X10_199 : Cond.methodLink RX10 199 yX2_countFreePoints ∈ lw_tbl := lm_t3 _ (List.mem_of_getElem? (i := 211) rfl)
theorem ml_X2_39 : Cond.methodLink RX2 39 yX2_setPoint ∈ lw_tbl := lm_t3 _ (List.mem_of_getElem? (i := 215) rfl)
theorem ml_X2_43 : Cond.methodLink RX2 43 yX2_isFree ∈ lw_tbl := lm_t3 _ (List.mem_of_getElem? (i := 219) rfl)
theorem ml_X2_47 : Cond.methodLink RX2 47 yX1_at ∈ lw_tbl := lm_t3 _ (List.mem_of_getElem? (i := 223) rfl)
theorem ml_X10_202 : Cond.methodLink RX10 202 yX2_isGood ∈ lw_tbl := lm_t3 _ (List.mem_of_getElem? (i := 224) rfl)
theorem ml_X2_51 : Cond.methodLink RX2 51 yX1_all ∈ lw_tbl := lm_t3 _ (List.mem_of_getElem? (i := 228) rfl)
theorem ml_X2_55 : Cond.methodLink RX2 55 yX6_rankOf ∈ lw_tbl := lm_t3 _ (List.mem_of_getElem? (i := 229) rfl)
theorem ml_X2_61 : Cond.methodLink RX2 61 yJ6_bitCount_0f7a4 ∈ lw_tbl := lm_t3 _ (List.mem_of_getElem? (i := 230) rfl)
theorem ml_X2_66 : Cond.methodLink RX2 66 yX6_isIndependent ∈ lw_tbl := lm_t3 _ (List.mem_of_getElem? (i := 231) rfl)
theorem ml_X2_69 : Cond.methodLink RX2 69 yX5_load ∈ lw_tbl := lm_t3 _ (List.mem_of_getElem? (i := 235) rfl)
theorem ml_X2_73 : Cond.methodLink RX2 73 yX5_reduce ∈ lw_tbl := lm_t3 _ (List.mem_of_getElem? (i := 236) rfl)
theorem ml_L_105 : Cond.methodLink RL 105 yX10_base ∈ lw_tbl := lm_t3 _ (List.mem_of_getElem? (i := 237) rfl)
theorem ml_X10_205 : Cond.methodLink RX10 205 yX0_baseSetsOfSize ∈ lw_tbl := lm_t4 _ (List.mem_of_getElem? (i := 1) rfl)
theorem ml_X0_71 : Cond.methodLink RX0 71 yX0_refresh ∈ lw_tbl := lm_t4 _ (List.mem_of_getElem? (i := 5) rfl)
theorem ml_X0_44 : Cond.methodLink RX0 44 yJ7_fill_53178 ∈ lw_tbl := lm_t4 _ (List.mem_of_getElem? (i := 9) rfl)
theorem ml_X0_50 : Cond.methodLink RX0 50 yX6_refresh ∈ lw_tbl := lm_t4 _ (List.mem_of_getElem? (i := 10) rfl)
theorem ml_X0_64 : Cond.methodLink RX0 64 yX1_all ∈ lw_tbl := lm_t4 _ (List.mem_of_getElem? (i := 11) rfl)
theorem ml_X0_72 : Cond.methodLink RX0 72 yJ6_bitCount_0f7a4 ∈ lw_tbl := lm_t4 _ (List.mem_of_getElem? (i := 12) rfl)
theorem ml_X0_78 : Cond.methodLink RX0 78 yX6_isIndependent ∈ lw_tbl := lm_t4 _ (List.mem_of_getElem? (i := 13) rfl)
theorem ml_X0_82 : Cond.methodLink RX0 82 yX4_append ∈ lw_tbl := lm_t4 _ (List.mem_of_getElem? (i := 14) rfl)
theorem ml_L_109 : Cond.methodLink RL 109 yX10_form ∈ lw_tbl := lm_t4 _ (List.mem_of_getElem? (i := 15) rfl)
theorem ml_X10_208 : Cond.methodLink RX10 208 yX0_partOf ∈ lw_tbl := lm_t4 _ (List.mem_of_getElem? (i := 19) rfl)
theorem ml_X0_85 : Cond.methodLink RX0 85 yX0_replace ∈ lw_tbl := lm_t4 _ (List.mem_of_getElem? (i := 23) rfl)
theorem ml_L_113 : Cond.methodLink RL 113 yX10_type ∈ lw_tbl := lm_t4 _ (List.mem_of_getElem? (i := 27) rfl)
theorem ml_X10_211 : Cond.methodLink RX10 211 yX9_append ∈ lw_tbl := lm_t4 _ (List.mem_of_getElem? (i := 31) rfl)
theorem ml_L_117 : Cond.methodLink RL 117 yX10_clear ∈ lw_tbl := lm_t4 _ (List.mem_of_getElem? (i := 35) rfl)
theorem ml_L_122 : Cond.methodLink RL 122 yX10_reads ∈ lw_tbl := lm_t4 _ (List.mem_of_getElem? (i := 39) rfl)
theorem ml_X10_217 : Cond.methodLink RX10 217 yX9_parse ∈ lw_tbl := lm_t4 _ (List.mem_of_getElem? (i := 43) rfl)
theorem ml_X9_32 : Cond.methodLink RX9 32 yX9_skipSpaces ∈ lw_tbl := lm_t4 _ (List.mem_of_getElem? (i := 47) rfl)
theorem ml_X9_50 : Cond.methodLink RX9 50 yX9_isBetween ∈ lw_tbl := lm_t4 _ (List.mem_of_getElem? (i := 51) rfl)
theorem ml_X9_35 : Cond.methodLink RX9 35 yX9_readCommand ∈ lw_tbl := lm_t4 _ (List.mem_of_getElem? (i := 55) rfl)
theorem ml_X9_43 : Cond.methodLink RX9 43 yX9_countNumbers ∈ lw_tbl := lm_t4 _ (List.mem_of_getElem? (i := 59) rfl)
theorem ml_X9_46 : Cond.methodLink RX9 46 yX9_readNumber ∈ lw_tbl := lm_t4 _ (List.mem_of_getElem? (i := 62) rfl)
theorem ml_X9_39 : Cond.methodLink RX9 39 yX9_number ∈ lw_tbl := lm_t4 _ (List.mem_of_getElem? (i := 66) rfl)
theorem ml_X10_223 : Cond.methodLink RX10 223 yX10_executed ∈ lw_tbl := lm_t4 _ (List.mem_of_getElem? (i := 70) rfl)
theorem ml_X10_275 : Cond.methodLink RX10 275 yX9_number ∈ lw_tbl := lm_t4 _ (List.mem_of_getElem? (i := 74) rfl)
theorem ml_X10_278 : Cond.methodLink RX10 278 yX9_verb ∈ lw_tbl := lm_t4 _ (List.mem_of_getElem? (i := 75) rfl)
theorem ml_L_126 : Cond.methodLink RL 126 yX10_why ∈ lw_tbl := lm_t4 _ (List.mem_of_getElem? (i := 79) rfl)
theorem ml_L_130 : Cond.methodLink RL 130 yX10_back ∈ lw_tbl := lm_t4 _ (List.mem_of_getElem? (i := 83) rfl)
theorem ml_X10_232 : Cond.methodLink RX10 232 yX3_restore ∈ lw_tbl := lm_t4 _ (List.mem_of_getElem? (i := 87) rfl)
theorem ml_L_134 : Cond.methodLink RL 134 yX10_told ∈ lw_tbl := lm_t4 _ (List.mem_of_getElem? (i := 91) rfl)
theorem ml_L_138 : Cond.methodLink RL 138 yX10_digest ∈ lw_tbl := lm_t4 _ (List.mem_of_getElem? (i := 95) rfl)
theorem cn_X10_249 : Cond.constantLong RX10 249 (2351) ∈ lw_tbl := lm_t4 _ (List.mem_of_getElem? (i := 99) rfl)
theorem ml_X10_251 : Cond.methodLink RX10 251 yX10_told ∈ lw_tbl := lm_t4 _ (List.mem_of_getElem? (i := 100) rfl)
theorem ml_X10_254 : Cond.methodLink RX10 254 yX10_mixed ∈ lw_tbl := lm_t4 _ (List.mem_of_getElem? (i := 101) rfl)
theorem cn_X10_273 : Cond.constantLong RX10 273 (31) ∈ lw_tbl := lm_t4 _ (List.mem_of_getElem? (i := 104) rfl)
theorem ml_X10_258 : Cond.methodLink RX10 258 yX10_why ∈ lw_tbl := lm_t4 _ (List.mem_of_getElem? (i := 105) rfl)
theorem ml_X10_261 : Cond.methodLink RX10 261 yX10_of ∈ lw_tbl := lm_t4 _ (List.mem_of_getElem? (i := 106) rfl)
theorem ml_X10_264 : Cond.methodLink RX10 264 yX10_flats ∈ lw_tbl := lm_t4 _ (List.mem_of_getElem? (i := 107) rfl)
theorem ml_X10_267 : Cond.methodLink RX10 267 yX10_polynomial ∈ lw_tbl := lm_t4 _ (List.mem_of_getElem? (i := 108) rfl)
theorem ml_X10_270 : Cond.methodLink RX10 270 yX10_rings ∈ lw_tbl := lm_t4 _ (List.mem_of_getElem? (i := 109) rfl)
theorem ml_L_12 : Cond.methodLink RL 12 yX11_init ∈ lw_tbl := lm_t4 _ (List.mem_of_getElem? (i := 112) rfl)
theorem fl_X11_7 : am_FL RX11 7 11 0 := ⟨RX11, TX11, 33, rfl, by decide, in_X11, Or.inl (lm_t4 _ (List.mem_of_getElem? (i := 116) rfl))⟩
theorem fl_X11_13 : am_FL RX11 13 11 1 := ⟨RX11, TX11, 33, rfl, by decide, in_X11, Or.inl (lm_t4 _ (List.mem_of_getElem? (i := 117) rfl))⟩
theorem fl_X11_16 : am_FL RX11 16 11 2 := ⟨RX11, TX11, 33, rfl, by decide, in_X11, Or.inl (lm_t4 _ (List.mem_of_getElem? (i := 118) rfl))⟩
theorem fl_X11_82 : am_FL RX11 82 11 3 := ⟨RX11, TX11, 33, rfl, by decide, in_X11, Or.inl (lm_t4 _ (List.mem_of_getElem? (i := 119) rfl))⟩
theorem fp_X11_82 : am_FP RX11 82 11 3 .int := ⟨RX11, TX11, 33, tyX11, rfl, by decide, in_X11, Or.inl (lm_t4 _ (List.mem_of_getElem? (i := 119) rfl)), tyX11_ok, nmX11, rfl, rfl⟩
theorem fl_X11_19 : am_FL RX11 19 11 4 := ⟨RX11, TX11, 33, rfl, by decide, in_X11, Or.inl (lm_t4 _ (List.mem_of_getElem? (i := 120) rfl))⟩
theorem fl_X11_22 : am_FL RX11 22 11 5 := ⟨RX11, TX11, 33, rfl, by decide, in_X11, Or.inl (lm_t4 _ (List.mem_of_getElem? (i := 121) rfl))⟩
theorem fl_X11_246 : am_FL RX11 246 11 6 := ⟨RX11, TX11, 33, rfl, by decide, in_X11, Or.inl (lm_t4 _ (List.mem_of_getElem? (i := 122) rfl))⟩
theorem fp_X11_246 : am_FP RX11 246 11 6 .int := ⟨RX11, TX11, 33, tyX11, rfl, by decide, in_X11, Or.inl (lm_t4 _ (List.mem_of_getElem? (i := 122) rfl)), tyX11_ok, nmX11, rfl, rfl⟩
theorem fl_X11_284 : am_FL RX11 284 11 7 := ⟨RX11, TX11, 33, rfl, by decide, in_X11, Or.inl (lm_t4 _ (List.mem_of_getElem? (i := 123) rfl))⟩
theorem fp_X11_284 : am_FP RX11 284 11 7 .int := ⟨RX11, TX11, 33, tyX11, rfl, by decide, in_X11, Or.inl (lm_t4 _ (List.mem_of_getElem? (i := 123) rfl)), tyX11_ok, nmX11, rfl, rfl⟩
theorem fl_X11_25 : am_FL RX11 25 11 8 := ⟨RX11, TX11, 33, rfl, by decide, in_X11, Or.inl (lm_t4 _ (List.mem_of_getElem? (i := 124) rfl))⟩
theorem fp_X11_25 : am_FP RX11 25 11 8 .int := ⟨RX11, TX11, 33, tyX11, rfl, by decide, in_X11, Or.inl (lm_t4 _ (List.mem_of_getElem? (i := 124) rfl)), tyX11_ok, nmX11, rfl, rfl⟩
theorem fl_X11_85 : am_FL RX11 85 11 9 := ⟨RX11, TX11, 33, rfl, by decide, in_X11, Or.inl (lm_t4 _ (List.mem_of_getElem? (i := 125) rfl))⟩
theorem fp_X11_85 : am_FP RX11 85 11 9 .boolean := ⟨RX11, TX11, 33, tyX11, rfl, by decide, in_X11, Or.inl (lm_t4 _ (List.mem_of_getElem? (i := 125) rfl)), tyX11_ok, nmX11, rfl, rfl⟩
theorem fl_X11_29 : am_FL RX11 29 11 10 := ⟨RX11, TX11, 33, rfl, by decide, in_X11, Or.inl (lm_t4 _ (List.mem_of_getElem? (i := 126) rfl))⟩
theorem fl_X11_32 : am_FL RX11 32 11 11 := ⟨RX11, TX11, 33, rfl, by decide, in_X11, Or.inl (lm_t4 _ (List.mem_of_getElem? (i := 127) rfl))⟩
theorem fl_X11_120 : am_FL RX11 120 11 12 := ⟨RX11, TX11, 33, rfl, by decide, in_X11, Or.inl (lm_t4 _ (List.mem_of_getElem? (i := 128) rfl))⟩
theorem fp_X11_120 : am_FP RX11 120 11 12 .int := ⟨RX11, TX11, 33, tyX11, rfl, by decide, in_X11, Or.inl (lm_t4 _ (List.mem_of_getElem? (i := 128) rfl)), tyX11_ok, nmX11, rfl, rfl⟩
theorem fl_X11_36 : am_FL RX11 36 11 13 := ⟨RX11, TX11, 33, rfl, by decide, in_X11, Or.inl (lm_t4 _ (List.mem_of_getElem? (i := 129) rfl))⟩
theorem fl_X11_39 : am_FL RX11 39 11 14 := ⟨RX11, TX11, 33, rfl, by decide, in_X11, Or.inl (lm_t4 _ (List.mem_of_getElem? (i := 130) rfl))⟩
theorem fl_X11_42 : am_FL RX11 42 11 15 := ⟨RX11, TX11, 33, rfl, by decide, in_X11, Or.inl (lm_t4 _ (List.mem_of_getElem? (i := 131) rfl))⟩
theorem fl_X11_45 : am_FL RX11 45 11 16 := ⟨RX11, TX11, 33, rfl, by decide, in_X11, Or.inl (lm_t4 _ (List.mem_of_getElem? (i := 132) rfl))⟩
theorem fl_X11_48 : am_FL RX11 48 11 17 := ⟨RX11, TX11, 33, rfl, by decide, in_X11, Or.inl (lm_t4 _ (List.mem_of_getElem? (i := 133) rfl))⟩
theorem fl_X11_136 : am_FL RX11 136 11 18 := ⟨RX11, TX11, 33, rfl, by decide, in_X11, Or.inl (lm_t4 _ (List.mem_of_getElem? (i := 134) rfl))⟩
theorem fp_X11_136 : am_FP RX11 136 11 18 .int := ⟨RX11, TX11, 33, tyX11, rfl, by decide, in_X11, Or.inl (lm_t4 _ (List.mem_of_getElem? (i := 134) rfl)), tyX11_ok, nmX11, rfl, rfl⟩
theorem fl_X11_51 : am_FL RX11 51 11 19 := ⟨RX11, TX11, 33, rfl, by decide, in_X11, Or.inl (lm_t4 _ (List.mem_of_getElem? (i := 135) rfl))⟩
theorem fl_X11_54 : am_FL RX11 54 11 20 := ⟨RX11, TX11, 33, rfl, by decide, in_X11, Or.inl (lm_t4 _ (List.mem_of_getElem? (i := 136) rfl))⟩
theorem fl_X11_57 : am_FL RX11 57 11 21 := ⟨RX11, TX11, 33, rfl, by decide, in_X11, Or.inl (lm_t4 _ (List.mem_of_getElem? (i := 137) rfl))⟩
theorem fl_X11_60 : am_FL RX11 60 11 22 := ⟨RX11, TX11, 33, rfl, by decide, in_X11, Or.inl (lm_t4 _ (List.mem_of_getElem? (i := 138) rfl))⟩
theorem fl_X11_63 : am_FL RX11 63 11 23 := ⟨RX11, TX11, 33, rfl, by decide, in_X11, Or.inl (lm_t4 _ (List.mem_of_getElem? (i := 139) rfl))⟩
theorem fl_X11_66 : am_FL RX11 66 11 24 := ⟨RX11, TX11, 33, rfl, by decide, in_X11, Or.inl (lm_t4 _ (List.mem_of_getElem? (i := 140) rfl))⟩
theorem fl_X11_70 : am_FL RX11 70 11 25 := ⟨RX11, TX11, 33, rfl, by decide, in_X11, Or.inl (lm_t4 _ (List.mem_of_getElem? (i := 141) rfl))⟩
theorem fl_X11_73 : am_FL RX11 73 11 26 := ⟨RX11, TX11, 33, rfl, by decide, in_X11, Or.inl (lm_t4 _ (List.mem_of_getElem? (i := 142) rfl))⟩
theorem fl_X11_249 : am_FL RX11 249 11 27 := ⟨RX11, TX11, 33, rfl, by decide, in_X11, Or.inl (lm_t4 _ (List.mem_of_getElem? (i := 143) rfl))⟩
theorem fp_X11_249 : am_FP RX11 249 11 27 .int := ⟨RX11, TX11, 33, tyX11, rfl, by decide, in_X11, Or.inl (lm_t4 _ (List.mem_of_getElem? (i := 143) rfl)), tyX11_ok, nmX11, rfl, rfl⟩
theorem fl_X11_252 : am_FL RX11 252 11 28 := ⟨RX11, TX11, 33, rfl, by decide, in_X11, Or.inl (lm_t4 _ (List.mem_of_getElem? (i := 144) rfl))⟩
theorem fp_X11_252 : am_FP RX11 252 11 28 .int := ⟨RX11, TX11, 33, tyX11, rfl, by decide, in_X11, Or.inl (lm_t4 _ (List.mem_of_getElem? (i := 144) rfl)), tyX11_ok, nmX11, rfl, rfl⟩
theorem fl_X11_268 : am_FL RX11 268 11 29 := ⟨RX11, TX11, 33, rfl, by decide, in_X11, Or.inl (lm_t4 _ (List.mem_of_getElem? (i := 145) rfl))⟩
theorem fp_X11_268 : am_FP RX11 268 11 29 .int := ⟨RX11, TX11, 33, tyX11, rfl, by decide, in_X11, Or.inl (lm_t4 _ (List.mem_of_getElem? (i := 145) rfl)), tyX11_ok, nmX11, rfl, rfl⟩
theorem fl_X11_76 : am_FL RX11 76 11 30 := ⟨RX11, TX11, 33, rfl, by decide, in_X11, Or.inl (lm_t4 _ (List.mem_of_getElem? (i := 146) rfl))⟩
theorem fl_X11_79 : am_FL RX11 79 11 31 := ⟨RX11, TX11, 33, rfl, by decide, in_X11, Or.inl (lm_t4 _ (List.mem_of_getElem? (i := 147) rfl))⟩
theorem fl_X11_295 : am_FL RX11 295 11 32 := ⟨RX11, TX11, 33, rfl, by decide, in_X11, Or.inl (lm_t4 _ (List.mem_of_getElem? (i := 148) rfl))⟩
theorem fp_X11_295 : am_FP RX11 295 11 32 .long := ⟨RX11, TX11, 33, tyX11, rfl, by decide, in_X11, Or.inl (lm_t4 _ (List.mem_of_getElem? (i := 148) rfl)), tyX11_ok, nmX11, rfl, rfl⟩
theorem ml_L_133 : Cond.methodLink RL 133 yX11_back ∈ lw_tbl := lm_t4 _ (List.mem_of_getElem? (i := 216) rfl)
theorem ml_X11_89 : Cond.methodLink RX11 89 yX11_refuses ∈ lw_tbl := lm_t4 _ (List.mem_of_getElem? (i := 220) rfl)
theorem ml_L_17 : Cond.methodLink RL 17 yX11_space ∈ lw_tbl := lm_t4 _ (List.mem_of_getElem? (i := 224) rfl)
theorem ml_X11_161 : Cond.methodLink RX11 161 yX11_hold ∈ lw_tbl := lm_t4 _ (List.mem_of_getElem? (i := 228) rfl)
theorem ml_X11_164 : Cond.methodLink RX11 164 yX11_doSpace ∈ lw_tbl := lm_t4 _ (List.mem_of_getElem? (i := 232) rfl)
theorem ml_X11_113 : Cond.methodLink RX11 113 yX11_in ∈ lw_tbl := lm_t4 _ (List.mem_of_getElem? (i := 236) rfl)
theorem ml_X11_167 : Cond.methodLink RX11 167 yX11_ends ∈ lw_tbl := lm_t4 _ (List.mem_of_getElem? (i := 239) rfl)
theorem ml_X11_158 : Cond.methodLink RX11 158 yX11_push ∈ lw_tbl := lm_t5 _ (List.mem_of_getElem? (i := 3) rfl)
theorem ml_L_22 : Cond.methodLink RL 22 yX11_plane ∈ lw_tbl := lm_t5 _ (List.mem_of_getElem? (i := 7) rfl)
theorem ml_X11_170 : Cond.methodLink RX11 170 yX11_doPlane ∈ lw_tbl := lm_t5 _ (List.mem_of_getElem? (i := 11) rfl)
theorem ml_X11_145 : Cond.methodLink RX11 145 yX11_isThere ∈ lw_tbl := lm_t5 _ (List.mem_of_getElem? (i := 15) rfl)
theorem ml_X11_148 : Cond.methodLink RX11 148 yX11_addsTold ∈ lw_tbl := lm_t5 _ (List.mem_of_getElem? (i := 19) rfl)
theorem ml_L_26 : Cond.methodLink RL 26 yX11_turns ∈ lw_tbl := lm_t5 _ (List.mem_of_getElem? (i := 23) rfl)
theorem ml_X11_174 : Cond.methodLink RX11 174 yX11_doTurns ∈ lw_tbl := lm_t5 _ (List.mem_of_getElem? (i := 27) rfl)
theorem ml_X11_151 : Cond.methodLink RX11 151 yX11_isPlane ∈ lw_tbl := lm_t5 _ (List.mem_of_getElem? (i := 31) rfl)
theorem ml_X11_177 : Cond.methodLink RX11 177 yX11_partMany ∈ lw_tbl := lm_t5 _ (List.mem_of_getElem? (i := 35) rfl)
theorem ml_X11_109 : Cond.methodLink RX11 109 yX11_all ∈ lw_tbl := lm_t5 _ (List.mem_of_getElem? (i := 39) rfl)
theorem ml_X11_209 : Cond.methodLink RX11 209 yX11_isPart ∈ lw_tbl := lm_t5 _ (List.mem_of_getElem? (i := 43) rfl)
theorem ml_X11_187 : Cond.methodLink RX11 187 yX11_lay ∈ lw_tbl := lm_t5 _ (List.mem_of_getElem? (i := 47) rfl)
theorem ml_X11_117 : Cond.methodLink RX11 117 yX11_rankBy ∈ lw_tbl := lm_t5 _ (List.mem_of_getElem? (i := 51) rfl)
theorem ml_X11_97 : Cond.methodLink RX11 97 yX11_has ∈ lw_tbl := lm_t5 _ (List.mem_of_getElem? (i := 55) rfl)
theorem ml_X11_101 : Cond.methodLink RX11 101 yX11_swapRows ∈ lw_tbl := lm_t5 _ (List.mem_of_getElem? (i := 58) rfl)
theorem ml_X11_105 : Cond.methodLink RX11 105 yX11_shrink ∈ lw_tbl := lm_t5 _ (List.mem_of_getElem? (i := 62) rfl)
theorem ml_X11_93 : Cond.methodLink RX11 93 yX11_common ∈ lw_tbl := lm_t5 _ (List.mem_of_getElem? (i := 66) rfl)
theorem ml_X11_123 : Cond.methodLink RX11 123 yX11_bits ∈ lw_tbl := lm_t5 _ (List.mem_of_getElem? (i := 69) rfl)
theorem ml_X11_126 : Cond.methodLink RX11 126 yX11_isRing ∈ lw_tbl := lm_t5 _ (List.mem_of_getElem? (i := 72) rfl)
theorem ml_X11_133 : Cond.methodLink RX11 133 yX11_isBound ∈ lw_tbl := lm_t5 _ (List.mem_of_getElem? (i := 76) rfl)
theorem ml_X11_130 : Cond.methodLink RX11 130 yX11_aboveOf ∈ lw_tbl := lm_t5 _ (List.mem_of_getElem? (i := 80) rfl)
theorem ml_X11_142 : Cond.methodLink RX11 142 yX11_findFactors ∈ lw_tbl := lm_t5 _ (List.mem_of_getElem? (i := 84) rfl)
theorem ml_X11_139 : Cond.methodLink RX11 139 yX11_clearColumn ∈ lw_tbl := lm_t5 _ (List.mem_of_getElem? (i := 88) rfl)
theorem ml_L_30 : Cond.methodLink RL 30 yX11_drops ∈ lw_tbl := lm_t5 _ (List.mem_of_getElem? (i := 92) rfl)
theorem ml_X11_180 : Cond.methodLink RX11 180 yX11_doDrops ∈ lw_tbl := lm_t5 _ (List.mem_of_getElem? (i := 96) rfl)
theorem ml_L_35 : Cond.methodLink RL 35 yX11_swaps ∈ lw_tbl := lm_t5 _ (List.mem_of_getElem? (i := 100) rfl)
theorem ml_X11_183 : Cond.methodLink RX11 183 yX11_doSwaps ∈ lw_tbl := lm_t5 _ (List.mem_of_getElem? (i := 104) rfl)
theorem ml_L_39 : Cond.methodLink RL 39 yX11_makes ∈ lw_tbl := lm_t5 _ (List.mem_of_getElem? (i := 108) rfl)
theorem ml_X11_190 : Cond.methodLink RX11 190 yX11_doMakes ∈ lw_tbl := lm_t5 _ (List.mem_of_getElem? (i := 112) rfl)
theorem ml_X11_154 : Cond.methodLink RX11 154 yX11_makesOne ∈ lw_tbl := lm_t5 _ (List.mem_of_getElem? (i := 116) rfl)
theorem ml_L_43 : Cond.methodLink RL 43 yX11_of ∈ lw_tbl := lm_t5 _ (List.mem_of_getElem? (i := 120) rfl)
theorem ml_L_47 : Cond.methodLink RL 47 yX11_rank ∈ lw_tbl := lm_t5 _ (List.mem_of_getElem? (i := 124) rfl)
theorem ml_X11_193 : Cond.methodLink RX11 193 yX11_isSet ∈ lw_tbl := lm_t5 _ (List.mem_of_getElem? (i := 128) rfl)
theorem ml_L_51 : Cond.methodLink RL 51 yX11_closed ∈ lw_tbl := lm_t5 _ (List.mem_of_getElem? (i := 132) rfl)
theorem ml_X11_196 : Cond.methodLink RX11 196 yX11_closedOf ∈ lw_tbl := lm_t5 _ (List.mem_of_getElem? (i := 136) rfl)
theorem ml_L_55 : Cond.methodLink RL 55 yX11_flats ∈ lw_tbl := lm_t5 _ (List.mem_of_getElem? (i := 140) rfl)
theorem ml_X11_202 : Cond.methodLink RX11 202 yX11_flatOf ∈ lw_tbl := lm_t5 _ (List.mem_of_getElem? (i := 144) rfl)
theorem ml_X11_199 : Cond.methodLink RX11 199 yX11_isFlat ∈ lw_tbl := lm_t5 _ (List.mem_of_getElem? (i := 148) rfl)
theorem ml_L_59 : Cond.methodLink RL 59 yX11_sign ∈ lw_tbl := lm_t5 _ (List.mem_of_getElem? (i := 152) rfl)
theorem ml_L_63 : Cond.methodLink RL 63 yX11_rings ∈ lw_tbl := lm_t5 _ (List.mem_of_getElem? (i := 156) rfl)
theorem ml_L_67 : Cond.methodLink RL 67 yX11_factor ∈ lw_tbl := lm_t5 _ (List.mem_of_getElem? (i := 160) rfl)
theorem ml_L_71 : Cond.methodLink RL 71 yX11_polynomial ∈ lw_tbl := lm_t5 _ (List.mem_of_getElem? (i := 164) rfl)
theorem ml_X11_205 : Cond.methodLink RX11 205 yX11_polynomialOf ∈ lw_tbl := lm_t5 _ (List.mem_of_getElem? (i := 168) rfl)
theorem ml_L_75 : Cond.methodLink RL 75 yX11_value ∈ lw_tbl := lm_t5 _ (List.mem_of_getElem? (i := 172) rfl)
theorem cn_X11_208 : Cond.constant RX11 208 (100000) ∈ lw_tbl := lm_t5 _ (List.mem_of_getElem? (i := 176) rfl)
theorem ml_L_79 : Cond.methodLink RL 79 yX11_within ∈ lw_tbl := lm_t5 _ (List.mem_of_getElem? (i := 177) rfl)
theorem ml_L_83 : Cond.methodLink RL 83 yX11_parts ∈ lw_tbl := lm_t5 _ (List.mem_of_getElem? (i := 181) rfl)
theorem ml_L_87 : Cond.methodLink RL 87 yX11_walls ∈ lw_tbl := lm_t5 _ (List.mem_of_getElem? (i := 185) rfl)
theorem ml_X11_212 : Cond.methodLink RX11 212 yX11_wallsOf ∈ lw_tbl := lm_t5 _ (List.mem_of_getElem? (i := 189) rfl)
theorem ml_L_92 : Cond.methodLink RL 92 yX11_way ∈ lw_tbl := lm_t5 _ (List.mem_of_getElem? (i := 193) rfl)
theorem ml_L_96 : Cond.methodLink RL 96 yX11_chain ∈ lw_tbl := lm_t5 _ (List.mem_of_getElem? (i := 197) rfl)
theorem ml_X11_218 : Cond.methodLink RX11 218 yX11_isChain ∈ lw_tbl := lm_t5 _ (List.mem_of_getElem? (i := 201) rfl)
theorem ml_X11_215 : Cond.methodLink RX11 215 yX11_isEven ∈ lw_tbl := lm_t5 _ (List.mem_of_getElem? (i := 205) rfl)
theorem ml_L_100 : Cond.methodLink RL 100 yX11_even ∈ lw_tbl := lm_t5 _ (List.mem_of_getElem? (i := 209) rfl)
theorem ml_L_104 : Cond.methodLink RL 104 yX11_places ∈ lw_tbl := lm_t5 _ (List.mem_of_getElem? (i := 213) rfl)
theorem ml_X11_225 : Cond.methodLink RX11 225 yX11_placesOver ∈ lw_tbl := lm_t5 _ (List.mem_of_getElem? (i := 217) rfl)
theorem ml_X11_228 : Cond.methodLink RX11 228 yX11_isGood ∈ lw_tbl := lm_t5 _ (List.mem_of_getElem? (i := 221) rfl)
theorem ml_X11_222 : Cond.methodLink RX11 222 yX11_isFreeOver ∈ lw_tbl := lm_t5 _ (List.mem_of_getElem? (i := 225) rfl)
theorem ml_L_108 : Cond.methodLink RL 108 yX11_base ∈ lw_tbl := lm_t5 _ (List.mem_of_getElem? (i := 229) rfl)
theorem ml_X11_237 : Cond.methodLink RX11 237 yX11_baseOf ∈ lw_tbl := lm_t5 _ (List.mem_of_getElem? (i := 233) rfl)
theorem ml_X11_234 : Cond.methodLink RX11 234 yX11_isBase ∈ lw_tbl := lm_t5 _ (List.mem_of_getElem? (i := 237) rfl)
theorem ml_X11_231 : Cond.methodLink RX11 231 yX11_broken ∈ lw_tbl := lm_t6 _ (List.mem_of_getElem? (i := 1) rfl)
theorem ml_L_112 : Cond.methodLink RL 112 yX11_form ∈ lw_tbl := lm_t6 _ (List.mem_of_getElem? (i := 5) rfl)
theorem ml_X11_240 : Cond.methodLink RX11 240 yX11_spread ∈ lw_tbl := lm_t6 _ (List.mem_of_getElem? (i := 9) rfl)
theorem ml_X11_243 : Cond.methodLink RX11 243 yX11_turned ∈ lw_tbl := lm_t6 _ (List.mem_of_getElem? (i := 13) rfl)
theorem ml_L_116 : Cond.methodLink RL 116 yX11_type ∈ lw_tbl := lm_t6 _ (List.mem_of_getElem? (i := 16) rfl)
theorem ml_L_121 : Cond.methodLink RL 121 yX11_clear ∈ lw_tbl := lm_t6 _ (List.mem_of_getElem? (i := 20) rfl)
theorem ml_L_125 : Cond.methodLink RL 125 yX11_reads ∈ lw_tbl := lm_t6 _ (List.mem_of_getElem? (i := 24) rfl)
theorem ml_X11_259 : Cond.methodLink RX11 259 yX11_here ∈ lw_tbl := lm_t6 _ (List.mem_of_getElem? (i := 28) rfl)
theorem ml_X11_255 : Cond.methodLink RX11 255 yX11_must ∈ lw_tbl := lm_t6 _ (List.mem_of_getElem? (i := 32) rfl)
theorem ml_X11_278 : Cond.methodLink RX11 278 yX11_readOrder ∈ lw_tbl := lm_t6 _ (List.mem_of_getElem? (i := 36) rfl)
theorem ml_X11_265 : Cond.methodLink RX11 265 yX11_numbersOf ∈ lw_tbl := lm_t6 _ (List.mem_of_getElem? (i := 40) rfl)
theorem ml_X11_271 : Cond.methodLink RX11 271 yX11_signed ∈ lw_tbl := lm_t6 _ (List.mem_of_getElem? (i := 43) rfl)
theorem ml_X11_262 : Cond.methodLink RX11 262 yX11_figure ∈ lw_tbl := lm_t6 _ (List.mem_of_getElem? (i := 47) rfl)
theorem ml_X11_274 : Cond.methodLink RX11 274 yX11_plain ∈ lw_tbl := lm_t6 _ (List.mem_of_getElem? (i := 51) rfl)
theorem ml_X11_281 : Cond.methodLink RX11 281 yX11_doOrder ∈ lw_tbl := lm_t6 _ (List.mem_of_getElem? (i := 55) rfl)
theorem ml_L_129 : Cond.methodLink RL 129 yX11_why ∈ lw_tbl := lm_t6 _ (List.mem_of_getElem? (i := 59) rfl)
theorem ml_X11_287 : Cond.methodLink RX11 287 yX11_cause ∈ lw_tbl := lm_t6 _ (List.mem_of_getElem? (i := 63) rfl)
theorem ml_L_137 : Cond.methodLink RL 137 yX11_told ∈ lw_tbl := lm_t6 _ (List.mem_of_getElem? (i := 67) rfl)
theorem ml_X11_290 : Cond.methodLink RX11 290 yX11_toldOf ∈ lw_tbl := lm_t6 _ (List.mem_of_getElem? (i := 71) rfl)
theorem ml_L_142 : Cond.methodLink RL 142 yX11_digest ∈ lw_tbl := lm_t6 _ (List.mem_of_getElem? (i := 75) rfl)
theorem cn_X11_299 : Cond.constantLong RX11 299 (2351) ∈ lw_tbl := lm_t6 _ (List.mem_of_getElem? (i := 79) rfl)
theorem ml_X11_301 : Cond.methodLink RX11 301 yX11_mix ∈ lw_tbl := lm_t6 _ (List.mem_of_getElem? (i := 80) rfl)
theorem cn_X11_293 : Cond.constantLong RX11 293 (31) ∈ lw_tbl := lm_t6 _ (List.mem_of_getElem? (i := 84) rfl)
theorem ac_native : Cond.native arraycopyName ∈ lw_tbl := lm_t2 _ (List.mem_of_getElem? (i := 99) rfl)
theorem ac_static : Cond.static arraycopyName ∈ lw_tbl := lm_t2 _ (List.mem_of_getElem? (i := 98) rfl)
theorem ac_init : Cond.initialized "java/lang/System" ∈ lw_tbl := lm_t1 _ (List.mem_of_getElem? (i := 14) rfl)
end
section
section XM
variable {h : List amSh} {M : amM} {pc idx : Nat} {loc st : List Value} {S : amS} {Q : Option Value → amS → Prop}
theorem x_mmax {x y : Int32} (hd : decode M.2.1 pc = .ok (.invokestatic idx, 3)) (hlink : Cond.methodLink M.1.cls idx Lib.Math.max.name ∈ lw_tbl) (hf1 : Nat.ble 1 M.2.2.2.2.1 = true) (hl1 : Nat.ble (am_wd st + 13) M.2.2.2.2.2 = true) (k : X h M (pc + 3) loc (.int (if x < y then y else x) :: st) S Q) : X h M pc loc (.int y :: .int x :: st) S Q := by
  intro p l e R s m args below meth c D ad ca H0 H locs ls QQ hC hL hP hS hr
  obtain ⟨hx, hb, hml, hown, hts, hK, inj, hfr, hlo⟩ := (show _ from hC)
  have hw1 : Cond.static Lib.Math.max.name ∈ lw_tbl := lm_t1 _ (List.mem_of_getElem? (i := 92) rfl)
  have hw2 : Cond.initialized "java/lang/Math" ∈ lw_tbl := lm_t1 _ (List.mem_of_getElem? (i := 6) rfl)
  have hw3 : Cond.code Lib.Math.max.name Lib.Math.max.code 2 (some .int) ∈ lw_tbl := lm_t1 _ (List.mem_of_getElem? (i := 93) rfl)
  exact va_mmax hx hb (hml.trans hL.1.symm) hown (hts.at hlink rfl args) (hts.at hw1 rfl args) (hts.at hw2 rfl args) (hts.at hw3 rfl args) (Nat.le_trans (Nat.le_of_ble_eq_true hf1) hfr) (by rw [am_wd_sum]; exact Nat.le_trans (Nat.le_of_ble_eq_true hl1) hlo) (Nat.zero_le _) (Nat.zero_le _) hd (k p l e R s m args below meth c D ad ca H0 H locs ls QQ hC hL hP hS hr)
theorem x_mmin {x y : Int32} (hd : decode M.2.1 pc = .ok (.invokestatic idx, 3)) (hlink : Cond.methodLink M.1.cls idx Lib.Math.min.name ∈ lw_tbl) (hf1 : Nat.ble 1 M.2.2.2.2.1 = true) (hl1 : Nat.ble (am_wd st + 13) M.2.2.2.2.2 = true) (k : X h M (pc + 3) loc (.int (if y < x then y else x) :: st) S Q) : X h M pc loc (.int y :: .int x :: st) S Q := by
  intro p l e R s m args below meth c D ad ca H0 H locs ls QQ hC hL hP hS hr
  obtain ⟨hx, hb, hml, hown, hts, hK, inj, hfr, hlo⟩ := (show _ from hC)
  have hw1 : Cond.static Lib.Math.min.name ∈ lw_tbl := lm_t2 _ (List.mem_of_getElem? (i := 118) rfl)
  have hw2 : Cond.initialized "java/lang/Math" ∈ lw_tbl := lm_t1 _ (List.mem_of_getElem? (i := 6) rfl)
  have hw3 : Cond.code Lib.Math.min.name Lib.Math.min.code 2 (some .int) ∈ lw_tbl := lm_t2 _ (List.mem_of_getElem? (i := 119) rfl)
  exact va_mmin hx hb (hml.trans hL.1.symm) hown (hts.at hlink rfl args) (hts.at hw1 rfl args) (hts.at hw2 rfl args) (hts.at hw3 rfl args) (Nat.le_trans (Nat.le_of_ble_eq_true hf1) hfr) (by rw [am_wd_sum]; exact Nat.le_trans (Nat.le_of_ble_eq_true hl1) hlo) (Nat.zero_le _) (Nat.zero_le _) hd (k p l e R s m args below meth c D ad ca H0 H locs ls QQ hC hL hP hS hr)
theorem x_mabs {x : Int32} (hd : decode M.2.1 pc = .ok (.invokestatic idx, 3)) (hlink : Cond.methodLink M.1.cls idx Lib.Math.abs.name ∈ lw_tbl) (hf1 : Nat.ble 1 M.2.2.2.2.1 = true) (hl1 : Nat.ble (am_wd st + 13) M.2.2.2.2.2 = true) (k : X h M (pc + 3) loc (.int (if 0 ≤ x then x else 0 - x) :: st) S Q) : X h M pc loc (.int x :: st) S Q := by
  intro p l e R s m args below meth c D ad ca H0 H locs ls QQ hC hL hP hS hr
  obtain ⟨hx, hb, hml, hown, hts, hK, inj, hfr, hlo⟩ := (show _ from hC)
  have hw1 : Cond.static Lib.Math.abs.name ∈ lw_tbl := lm_t2 _ (List.mem_of_getElem? (i := 220) rfl)
  have hw2 : Cond.initialized "java/lang/Math" ∈ lw_tbl := lm_t1 _ (List.mem_of_getElem? (i := 6) rfl)
  have hw3 : Cond.code Lib.Math.abs.name Lib.Math.abs.code 1 (some .int) ∈ lw_tbl := lm_t2 _ (List.mem_of_getElem? (i := 221) rfl)
  exact va_mabs hx hb (hml.trans hL.1.symm) hown (hts.at hlink rfl args) (hts.at hw1 rfl args) (hts.at hw2 rfl args) (hts.at hw3 rfl args) (Nat.le_trans (Nat.le_of_ble_eq_true hf1) hfr) (by rw [am_wd_sum]; exact Nat.le_trans (Nat.le_of_ble_eq_true hl1) hlo) (Nat.zero_le _) (Nat.zero_le _) hd (k p l e R s m args below meth c D ad ca H0 H locs ls QQ hC hL hP hS hr)
theorem x_mabsl {x : Int64} (hd : decode M.2.1 pc = .ok (.invokestatic idx, 3)) (hlink : Cond.methodLink M.1.cls idx Lib.MathLoose.abs_long.x ∈ lw_tbl) (hf1 : Nat.ble 1 M.2.2.2.2.1 = true) (hl1 : Nat.ble (am_wd st + 13) M.2.2.2.2.2 = true) (k : X h M (pc + 3) loc (.long (if 0 < x then x else -x) :: st) S Q) : X h M pc loc (.long x :: st) S Q := by
  intro p l e R s m args below meth c D ad ca H0 H locs ls QQ hC hL hP hS hr
  obtain ⟨hx, hb, hml, hown, hts, hK, inj, hfr, hlo⟩ := (show _ from hC)
  have hw1 : Cond.static Lib.MathLoose.abs_long.x ∈ lw_tbl := lm_t3 _ (List.mem_of_getElem? (i := 94) rfl)
  have hw2 : Cond.initialized "java/lang/Math" ∈ lw_tbl := lm_t1 _ (List.mem_of_getElem? (i := 6) rfl)
  have hw3 : Cond.code Lib.MathLoose.abs_long.x Lib.MathLoose.abs_long.code 2 (some .long) ∈ lw_tbl := lm_t3 _ (List.mem_of_getElem? (i := 95) rfl)
  exact va_mabs_long hx hb (hml.trans hL.1.symm) hown (hts.at hlink rfl args) (hts.at hw1 rfl args) (hts.at hw2 rfl args) (hts.at hw3 rfl args) (Nat.le_trans (Nat.le_of_ble_eq_true hf1) hfr) (by rw [am_wd_sum]; exact Nat.le_trans (Nat.le_of_ble_eq_true hl1) hlo) (Nat.zero_le _) (Nat.zero_le _) hd (k p l e R s m args below meth c D ad ca H0 H locs ls QQ hC hL hP hS hr)
end XM
end
section
/-! NUMBERS, and rows over them -/
def i32 (z : Int) : Int32 := Int32.ofInt z
def i64 (z : Int) : Int64 := Int64.ofInt z
theorem nI_i32 (n : Nat) : nI n = i32 n := by
  apply Int32.toInt_inj.mp
  simp [nI, i32, Int32.toInt_ofNat, Int32.toInt_ofInt]
theorem i32_toInt {z : Int} (h1 : -2147483648 ≤ z) (h2 : z < 2147483648) : (i32 z).toInt = z := by
  unfold i32
  exact Int32.toInt_ofInt_of_le h1 (by omega)
theorem i64_toInt {z : Int} (h1 : -9223372036854775808 ≤ z) (h2 : z < 9223372036854775808) : (i64 z).toInt = z := by
  unfold i64
  exact Int64.toInt_ofInt_of_le h1 (by omega)
theorem i32_of (x : Int32) : x = i32 x.toInt := (Int32.ofInt_toInt x).symm
theorem i64_of (x : Int64) : x = i64 x.toInt := (Int64.ofInt_toInt x).symm
theorem i32_add (a b : Int) : i32 a + i32 b = i32 (a + b) := (Int32.ofInt_add a b).symm
theorem i32_sub (a b : Int) : i32 a - i32 b = i32 (a - b) := (Int32.ofInt_sub a b).symm
theorem i32_mul (a b : Int) : i32 a * i32 b = i32 (a * b) := (Int32.ofInt_mul a b).symm
theorem i32_neg (a : Int) : -i32 a = i32 (-a) := (Int32.ofInt_neg a).symm
theorem i64_add (a b : Int) : i64 a + i64 b = i64 (a + b) := (Int64.ofInt_add a b).symm
theorem i64_sub (a b : Int) : i64 a - i64 b = i64 (a - b) := (Int64.ofInt_sub a b).symm
theorem i64_mul (a b : Int) : i64 a * i64 b = i64 (a * b) := (Int64.ofInt_mul a b).symm
theorem i64_neg (a : Int) : -i64 a = i64 (-a) := (Int64.ofInt_neg a).symm
theorem i32_l {z : Int} (h1 : -2147483648 ≤ z) (h2 : z < 2147483648) : (i32 z).toInt64 = i64 z := by
  apply Int64.toInt_inj.mp
  rw [Int32.toInt_toInt64, i32_toInt h1 h2, i64_toInt (by omega) (by omega)]
theorem nI_or (a b : Nat) : nI a ||| nI b = nI (a ||| b) := by
  apply Int32.toBitVec_inj.1
  show BitVec.ofNat 32 a ||| BitVec.ofNat 32 b = BitVec.ofNat 32 (a ||| b)
  apply BitVec.eq_of_getLsbD_eq
  intro i hi
  simp [hi]
theorem nI_and (a b : Nat) : nI a &&& nI b = nI (a &&& b) := by
  apply Int32.toBitVec_inj.1
  show BitVec.ofNat 32 a &&& BitVec.ofNat 32 b = BitVec.ofNat 32 (a &&& b)
  apply BitVec.eq_of_getLsbD_eq
  intro i hi
  simp [hi]
theorem nI_xor (a b : Nat) : nI a ^^^ nI b = nI (a ^^^ b) := by
  apply Int32.toBitVec_inj.1
  show BitVec.ofNat 32 a ^^^ BitVec.ofNat 32 b = BitVec.ofNat 32 (a ^^^ b)
  apply BitVec.eq_of_getLsbD_eq
  intro i hi
  simp [hi]
/-- '& ~': with the all ones -/
theorem nI_andnot (a b : Nat) : nI a &&& (nI b ^^^ i32 (-1)) = nI (a ^^^ (a &&& b)) := by
  rw [← nI_xor, ← nI_and]
  apply Int32.toBitVec_inj.1
  have q : ∀ x y z : BitVec 32, (∀ i, z.getLsbD i = decide (i < 32)) → x &&& (y ^^^ z) = x ^^^ (x &&& y) := by
    intro x y z hz
    apply BitVec.eq_of_getLsbD_eq
    intro i hi
    rw [BitVec.getLsbD_and, BitVec.getLsbD_xor, BitVec.getLsbD_xor, BitVec.getLsbD_and, hz i]
    simp [hi]
    cases x[i] <;> cases y[i] <;> rfl
  exact q _ _ _ (fun i => by
    rw [show (i32 (-1)).toBitVec = BitVec.allOnes 32 from by decide]
    exact BitVec.getLsbD_allOnes)
theorem nI_sl : ∀ n, n < 32 → ((nI n &&& 31).toBitVec.smod 32).toNat = n := by decide +kernel
theorem nI_shl {a b : Nat} (hb : b < 32) (h : a * 2 ^ b < 2 ^ 32) : nI a <<< (nI b &&& 31) = nI (a * 2 ^ b) := pk_shlN _ b (nI_sl b hb) h
theorem nI_shr {a b : Nat} (hb : b < 32) (h : a < 2 ^ 31) : nI a >>> (nI b &&& 31) = nI (a / 2 ^ b) := pk_shrN h _ b (nI_sl b hb)
theorem i32_lt {a b : Int} (ha : -2147483648 ≤ a ∧ a < 2147483648) (hb : -2147483648 ≤ b ∧ b < 2147483648) : i32 a < i32 b ↔ a < b := by rw [Int32.lt_iff_toInt_lt, i32_toInt ha.1 ha.2, i32_toInt hb.1 hb.2]
theorem i32_le {a b : Int} (ha : -2147483648 ≤ a ∧ a < 2147483648) (hb : -2147483648 ≤ b ∧ b < 2147483648) : i32 a ≤ i32 b ↔ a ≤ b := by rw [Int32.le_iff_toInt_le, i32_toInt ha.1 ha.2, i32_toInt hb.1 hb.2]
theorem i32_eq {a b : Int} (ha : -2147483648 ≤ a ∧ a < 2147483648) (hb : -2147483648 ≤ b ∧ b < 2147483648) : i32 a = i32 b ↔ a = b := by
  constructor
  · intro h
    have := congrArg Int32.toInt h
    rwa [i32_toInt ha.1 ha.2, i32_toInt hb.1 hb.2] at this
  · intro h; rw [h]
theorem i64_lt {a b : Int} (ha : -9223372036854775808 ≤ a ∧ a < 9223372036854775808) (hb : -9223372036854775808 ≤ b ∧ b < 9223372036854775808) : i64 a < i64 b ↔ a < b := by rw [Int64.lt_iff_toInt_lt, i64_toInt ha.1 ha.2, i64_toInt hb.1 hb.2]
theorem i64_eq {a b : Int} (ha : -9223372036854775808 ≤ a ∧ a < 9223372036854775808) (hb : -9223372036854775808 ≤ b ∧ b < 9223372036854775808) : i64 a = i64 b ↔ a = b := by
  constructor
  · intro h
    have := congrArg Int64.toInt h
    rwa [i64_toInt ha.1 ha.2, i64_toInt hb.1 hb.2] at this
  · intro h; rw [h]
section XN
variable {h : List amSh} {M : amM} {pc : Nat} {loc st : List Value} {S : amS} {Q : Option Value → amS → Prop}
theorem x_ic {n : Int} (v : Int32) (hv : Int32.ofInt n = v) (hd : decode M.2.1 pc = .ok (.iconst n, 1)) (k : X h M (pc + 1) loc (.int v :: st) S Q) : X h M pc loc st S Q := x_iconst hd (by rw [hv]; exact k)
theorem x_bi {n : Int} (v : Int32) (hv : (Int8.ofInt n).toInt32 = v) (hd : decode M.2.1 pc = .ok (.bipush n, 2)) (k : X h M (pc + 2) loc (.int v :: st) S Q) : X h M pc loc st S Q := x_bipush hd (by rw [hv]; exact k)
theorem x_si {n : Int} (v : Int32) (hv : (Int16.ofInt n).toInt32 = v) (hd : decode M.2.1 pc = .ok (.sipush n, 3)) (k : X h M (pc + 3) loc (.int v :: st) S Q) : X h M pc loc st S Q := x_sipush hd (by rw [hv]; exact k)
theorem x_lc {n : Fin 2} (v : Int64) (hv : Int64.ofNat n = v) (hd : decode M.2.1 pc = .ok (.lconst n, 1)) (k : X h M (pc + 1) loc (.long v :: st) S Q) : X h M pc loc st S Q := x_lconst hd (by rw [hv]; exact k)
theorem x_iaddN {a b : Nat} (hd : decode M.2.1 pc = .ok (.iadd, 1))  (k : X h M (pc + 1) loc (.int (nI (a + b)) :: st) S Q) : X h M pc loc (.int (nI b) :: .int (nI a) :: st) S Q := x_iadd hd (by rw [nI_add]; exact k)
theorem x_isubN {a b : Nat} (hd : decode M.2.1 pc = .ok (.isub, 1)) (hs : b ≤ a) (k : X h M (pc + 1) loc (.int (nI (a - b)) :: st) S Q) : X h M pc loc (.int (nI b) :: .int (nI a) :: st) S Q := x_isub hd (by rw [pk_sub hs]; exact k)
theorem x_imulN {a b : Nat} (hd : decode M.2.1 pc = .ok (.imul, 1))  (k : X h M (pc + 1) loc (.int (nI (a * b)) :: st) S Q) : X h M pc loc (.int (nI b) :: .int (nI a) :: st) S Q := x_imul hd (by rw [pk_mul]; exact k)
theorem x_iandN {a b : Nat} (hd : decode M.2.1 pc = .ok (.iand, 1))  (k : X h M (pc + 1) loc (.int (nI (a &&& b)) :: st) S Q) : X h M pc loc (.int (nI b) :: .int (nI a) :: st) S Q := x_iand hd (by rw [nI_and]; exact k)
theorem x_iorN {a b : Nat} (hd : decode M.2.1 pc = .ok (.ior, 1))  (k : X h M (pc + 1) loc (.int (nI (a ||| b)) :: st) S Q) : X h M pc loc (.int (nI b) :: .int (nI a) :: st) S Q := x_ior hd (by rw [nI_or]; exact k)
theorem x_ixorN {a b : Nat} (hd : decode M.2.1 pc = .ok (.ixor, 1))  (k : X h M (pc + 1) loc (.int (nI (a ^^^ b)) :: st) S Q) : X h M pc loc (.int (nI b) :: .int (nI a) :: st) S Q := x_ixor hd (by rw [nI_xor]; exact k)
theorem x_ishlN {a b : Nat} (hd : decode M.2.1 pc = .ok (.ishl, 1)) (hb : b < 32) (hs : a * 2 ^ b < 2 ^ 32) (k : X h M (pc + 1) loc (.int (nI (a * 2 ^ b)) :: st) S Q) : X h M pc loc (.int (nI b) :: .int (nI a) :: st) S Q := x_ishl hd (by rw [nI_shl hb hs]; exact k)
theorem x_ishrN {a b : Nat} (hd : decode M.2.1 pc = .ok (.ishr, 1)) (hb : b < 32) (hs : a < 2 ^ 31) (k : X h M (pc + 1) loc (.int (nI (a / 2 ^ b)) :: st) S Q) : X h M pc loc (.int (nI b) :: .int (nI a) :: st) S Q := x_ishr hd (by rw [nI_shr hb hs]; exact k)
theorem x_iandNX {a b : Nat} (hd : decode M.2.1 pc = .ok (.iand, 1))  (k : X h M (pc + 1) loc (.int (nI (a ^^^ (a &&& b))) :: st) S Q) : X h M pc loc (.int (nI b ^^^ i32 (-1)) :: .int (nI a) :: st) S Q := x_iand hd (by rw [nI_andnot]; exact k)
theorem x_iaddI {a b : Int} (hd : decode M.2.1 pc = .ok (.iadd, 1))  (k : X h M (pc + 1) loc (.int (i32 (a + b)) :: st) S Q) : X h M pc loc (.int (i32 b) :: .int (i32 a) :: st) S Q := x_iadd hd (by rw [i32_add]; exact k)
theorem x_isubI {a b : Int} (hd : decode M.2.1 pc = .ok (.isub, 1))  (k : X h M (pc + 1) loc (.int (i32 (a - b)) :: st) S Q) : X h M pc loc (.int (i32 b) :: .int (i32 a) :: st) S Q := x_isub hd (by rw [i32_sub]; exact k)
theorem x_imulI {a b : Int} (hd : decode M.2.1 pc = .ok (.imul, 1))  (k : X h M (pc + 1) loc (.int (i32 (a * b)) :: st) S Q) : X h M pc loc (.int (i32 b) :: .int (i32 a) :: st) S Q := x_imul hd (by rw [i32_mul]; exact k)
theorem x_iaddNI {a : Nat} {b : Int} (hd : decode M.2.1 pc = .ok (.iadd, 1)) (k : X h M (pc + 1) loc (.int (i32 (a + b)) :: st) S Q) : X h M pc loc (.int (i32 b) :: .int (nI a) :: st) S Q := x_iadd hd (by rw [nI_i32, i32_add]; exact k)
theorem x_iaddIN {a : Int} {b : Nat} (hd : decode M.2.1 pc = .ok (.iadd, 1)) (k : X h M (pc + 1) loc (.int (i32 (a + b)) :: st) S Q) : X h M pc loc (.int (nI b) :: .int (i32 a) :: st) S Q := x_iadd hd (by rw [nI_i32, i32_add]; exact k)
theorem x_isubNI {a : Nat} {b : Int} (hd : decode M.2.1 pc = .ok (.isub, 1)) (k : X h M (pc + 1) loc (.int (i32 (a - b)) :: st) S Q) : X h M pc loc (.int (i32 b) :: .int (nI a) :: st) S Q := x_isub hd (by rw [nI_i32, i32_sub]; exact k)
theorem x_isubIN {a : Int} {b : Nat} (hd : decode M.2.1 pc = .ok (.isub, 1)) (k : X h M (pc + 1) loc (.int (i32 (a - b)) :: st) S Q) : X h M pc loc (.int (nI b) :: .int (i32 a) :: st) S Q := x_isub hd (by rw [nI_i32, i32_sub]; exact k)
theorem x_imulNI {a : Nat} {b : Int} (hd : decode M.2.1 pc = .ok (.imul, 1)) (k : X h M (pc + 1) loc (.int (i32 (a * b)) :: st) S Q) : X h M pc loc (.int (i32 b) :: .int (nI a) :: st) S Q := x_imul hd (by rw [nI_i32, i32_mul]; exact k)
theorem x_imulIN {a : Int} {b : Nat} (hd : decode M.2.1 pc = .ok (.imul, 1)) (k : X h M (pc + 1) loc (.int (i32 (a * b)) :: st) S Q) : X h M pc loc (.int (nI b) :: .int (i32 a) :: st) S Q := x_imul hd (by rw [nI_i32, i32_mul]; exact k)
theorem x_isubZ {a b : Nat} (hd : decode M.2.1 pc = .ok (.isub, 1)) (k : X h M (pc + 1) loc (.int (i32 ((a : Int) - b)) :: st) S Q) : X h M pc loc (.int (nI b) :: .int (nI a) :: st) S Q := x_isub hd (by rw [nI_i32, nI_i32, i32_sub]; exact k)
theorem x_topI {a : Nat} (k : X h M pc loc (.int (i32 a) :: st) S Q) : X h M pc loc (.int (nI a) :: st) S Q := by rw [nI_i32]; exact k
theorem x_topI2 {a : Nat} {v : Value} (k : X h M pc loc (v :: .int (i32 a) :: st) S Q) : X h M pc loc (v :: .int (nI a) :: st) S Q := by rw [nI_i32]; exact k
theorem x_laddI {a b : Int} (hd : decode M.2.1 pc = .ok (.ladd, 1))  (k : X h M (pc + 1) loc (.long (i64 (a + b)) :: st) S Q) : X h M pc loc (.long (i64 b) :: .long (i64 a) :: st) S Q := x_ladd hd (by rw [i64_add]; exact k)
theorem x_lsubI {a b : Int} (hd : decode M.2.1 pc = .ok (.lsub, 1))  (k : X h M (pc + 1) loc (.long (i64 (a - b)) :: st) S Q) : X h M pc loc (.long (i64 b) :: .long (i64 a) :: st) S Q := x_lsub hd (by rw [i64_sub]; exact k)
theorem x_lmulI {a b : Int} (hd : decode M.2.1 pc = .ok (.lmul, 1))  (k : X h M (pc + 1) loc (.long (i64 (a * b)) :: st) S Q) : X h M pc loc (.long (i64 b) :: .long (i64 a) :: st) S Q := x_lmul hd (by rw [i64_mul]; exact k)
theorem x_inegI {a : Int} (hd : decode M.2.1 pc = .ok (.ineg, 1)) (k : X h M (pc + 1) loc (.int (i32 (-a)) :: st) S Q) : X h M pc loc (.int (i32 a) :: st) S Q := x_ineg hd (by rw [i32_neg]; exact k)
theorem x_lnegI {a : Int} (hd : decode M.2.1 pc = .ok (.lneg, 1)) (k : X h M (pc + 1) loc (.long (i64 (-a)) :: st) S Q) : X h M pc loc (.long (i64 a) :: st) S Q := x_lneg hd (by rw [i64_neg]; exact k)
theorem x_i2lI {a : Int} (hd : decode M.2.1 pc = .ok (.i2l, 1)) (h1 : -2147483648 ≤ a) (h2 : a < 2147483648) (k : X h M (pc + 1) loc (.long (i64 a) :: st) S Q) : X h M pc loc (.int (i32 a) :: st) S Q := x_i2l hd (by rw [i32_l h1 h2]; exact k)
theorem x_iremN {a b : Nat} (hd : decode M.2.1 pc = .ok (.irem, 1)) (ha : a < 2 ^ 31) (h0 : 0 < b) (hb : b < 2 ^ 31) (k : X h M (pc + 1) loc (.int (nI (a % b)) :: st) S Q) : X h M pc loc (.int (nI b) :: .int (nI a) :: st) S Q := x_irem hd (nI_ne0 h0 hb) (by rw [pk_rem ha h0 hb]; exact k)
theorem x_idivN {a b : Nat} (hd : decode M.2.1 pc = .ok (.idiv, 1)) (ha : a < 2 ^ 31) (h0 : 0 < b) (hb : b < 2 ^ 31) (k : X h M (pc + 1) loc (.int (nI (a / b)) :: st) S Q) : X h M pc loc (.int (nI b) :: .int (nI a) :: st) S Q := x_idiv hd (nI_ne0 h0 hb) (by rw [pk_div ha h0 hb]; exact k)
theorem x_iincN {n i : Nat} (hd : decode M.2.1 pc = .ok (.iinc n 1, 3)) (hl : am_ld loc n = .int (nI i)) (hn : Nat.blt n loc.length = true) (k : X h M (pc + 3) (am_st (.int (nI (i + 1))) n 0 loc) st S Q) : X h M pc loc st S Q := x_iinc hd hl hn (by rw [show nI i + Int32.ofInt 1 = nI (i + 1) from nI_1 i]; exact k)
theorem x_iincD {n i : Nat} (hd : decode M.2.1 pc = .ok (.iinc n (-1), 3)) (hl : am_ld loc n = .int (nI (i + 1))) (hn : Nat.blt n loc.length = true) (k : X h M (pc + 3) (am_st (.int (nI i)) n 0 loc) st S Q) : X h M pc loc st S Q := x_iinc hd hl hn (by rw [show nI (i + 1) + Int32.ofInt (-1) = nI i from pk_m1 i]; exact k)
-- eq: kt x = y; kf ¬ x = y
theorem x_icmp_eqN {a b : Nat} {off : Int} (tgt : Nat) (hd : decode M.2.1 pc = .ok (.if_icmp .eq off, 3)) (ht : (pc : Int) + off = (tgt : Int)) (ha : a < 2 ^ 31) (hb : b < 2 ^ 31) (kt : a = b → X h M tgt loc st S Q) (kf : a ≠ b → X h M (pc + 3) loc st S Q) : X h M pc loc (.int (nI b) :: .int (nI a) :: st) S Q := by
  refine x_icmp_eq tgt hd ht (fun z => kt ?_) (fun z => kf ?_)
  · simp only [nI_eq ha hb, nI_eq hb ha, nI_ltI ha hb, nI_ltI hb ha, nI_leI ha hb, nI_leI hb ha] at z; omega
  · simp only [nI_eq ha hb, nI_eq hb ha, nI_ltI ha hb, nI_ltI hb ha, nI_leI ha hb, nI_leI hb ha] at z; omega
-- ne: kt ¬ x = y; kf x = y
theorem x_icmp_neN {a b : Nat} {off : Int} (tgt : Nat) (hd : decode M.2.1 pc = .ok (.if_icmp .ne off, 3)) (ht : (pc : Int) + off = (tgt : Int)) (ha : a < 2 ^ 31) (hb : b < 2 ^ 31) (kt : a ≠ b → X h M tgt loc st S Q) (kf : a = b → X h M (pc + 3) loc st S Q) : X h M pc loc (.int (nI b) :: .int (nI a) :: st) S Q := by
  refine x_icmp_ne tgt hd ht (fun z => kt ?_) (fun z => kf ?_)
  · simp only [nI_eq ha hb, nI_eq hb ha, nI_ltI ha hb, nI_ltI hb ha, nI_leI ha hb, nI_leI hb ha] at z; omega
  · simp only [nI_eq ha hb, nI_eq hb ha, nI_ltI ha hb, nI_ltI hb ha, nI_leI ha hb, nI_leI hb ha] at z; omega
-- lt: kt x < y; kf ¬ x < y
theorem x_icmp_ltN {a b : Nat} {off : Int} (tgt : Nat) (hd : decode M.2.1 pc = .ok (.if_icmp .lt off, 3)) (ht : (pc : Int) + off = (tgt : Int)) (ha : a < 2 ^ 31) (hb : b < 2 ^ 31) (kt : a < b → X h M tgt loc st S Q) (kf : b ≤ a → X h M (pc + 3) loc st S Q) : X h M pc loc (.int (nI b) :: .int (nI a) :: st) S Q := by
  refine x_icmp_lt tgt hd ht (fun z => kt ?_) (fun z => kf ?_)
  · simp only [nI_eq ha hb, nI_eq hb ha, nI_ltI ha hb, nI_ltI hb ha, nI_leI ha hb, nI_leI hb ha] at z; omega
  · simp only [nI_eq ha hb, nI_eq hb ha, nI_ltI ha hb, nI_ltI hb ha, nI_leI ha hb, nI_leI hb ha] at z; omega
-- ge: kt y ≤ x; kf ¬ y ≤ x
theorem x_icmp_geN {a b : Nat} {off : Int} (tgt : Nat) (hd : decode M.2.1 pc = .ok (.if_icmp .ge off, 3)) (ht : (pc : Int) + off = (tgt : Int)) (ha : a < 2 ^ 31) (hb : b < 2 ^ 31) (kt : b ≤ a → X h M tgt loc st S Q) (kf : a < b → X h M (pc + 3) loc st S Q) : X h M pc loc (.int (nI b) :: .int (nI a) :: st) S Q := by
  refine x_icmp_ge tgt hd ht (fun z => kt ?_) (fun z => kf ?_)
  · simp only [nI_eq ha hb, nI_eq hb ha, nI_ltI ha hb, nI_ltI hb ha, nI_leI ha hb, nI_leI hb ha] at z; omega
  · simp only [nI_eq ha hb, nI_eq hb ha, nI_ltI ha hb, nI_ltI hb ha, nI_leI ha hb, nI_leI hb ha] at z; omega
-- gt: kt y < x; kf ¬ y < x
theorem x_icmp_gtN {a b : Nat} {off : Int} (tgt : Nat) (hd : decode M.2.1 pc = .ok (.if_icmp .gt off, 3)) (ht : (pc : Int) + off = (tgt : Int)) (ha : a < 2 ^ 31) (hb : b < 2 ^ 31) (kt : b < a → X h M tgt loc st S Q) (kf : a ≤ b → X h M (pc + 3) loc st S Q) : X h M pc loc (.int (nI b) :: .int (nI a) :: st) S Q := by
  refine x_icmp_gt tgt hd ht (fun z => kt ?_) (fun z => kf ?_)
  · simp only [nI_eq ha hb, nI_eq hb ha, nI_ltI ha hb, nI_ltI hb ha, nI_leI ha hb, nI_leI hb ha] at z; omega
  · simp only [nI_eq ha hb, nI_eq hb ha, nI_ltI ha hb, nI_ltI hb ha, nI_leI ha hb, nI_leI hb ha] at z; omega
-- le: kt x ≤ y; kf ¬ x ≤ y
theorem x_icmp_leN {a b : Nat} {off : Int} (tgt : Nat) (hd : decode M.2.1 pc = .ok (.if_icmp .le off, 3)) (ht : (pc : Int) + off = (tgt : Int)) (ha : a < 2 ^ 31) (hb : b < 2 ^ 31) (kt : a ≤ b → X h M tgt loc st S Q) (kf : b < a → X h M (pc + 3) loc st S Q) : X h M pc loc (.int (nI b) :: .int (nI a) :: st) S Q := by
  refine x_icmp_le tgt hd ht (fun z => kt ?_) (fun z => kf ?_)
  · simp only [nI_eq ha hb, nI_eq hb ha, nI_ltI ha hb, nI_ltI hb ha, nI_leI ha hb, nI_leI hb ha] at z; omega
  · simp only [nI_eq ha hb, nI_eq hb ha, nI_ltI ha hb, nI_ltI hb ha, nI_leI ha hb, nI_leI hb ha] at z; omega
theorem x_icmp_eqI {a b : Int} {off : Int} (tgt : Nat) (hd : decode M.2.1 pc = .ok (.if_icmp .eq off, 3)) (ht : (pc : Int) + off = (tgt : Int)) (ha : -2147483648 ≤ a ∧ a < 2147483648) (hb : -2147483648 ≤ b ∧ b < 2147483648) (kt : a = b → X h M tgt loc st S Q) (kf : a ≠ b → X h M (pc + 3) loc st S Q) : X h M pc loc (.int (i32 b) :: .int (i32 a) :: st) S Q := by
  refine x_icmp_eq tgt hd ht (fun z => kt ?_) (fun z => kf ?_)
  · simp only [i32_eq ha hb, i32_eq hb ha, i32_lt ha hb, i32_lt hb ha, i32_le ha hb, i32_le hb ha] at z; omega
  · simp only [i32_eq ha hb, i32_eq hb ha, i32_lt ha hb, i32_lt hb ha, i32_le ha hb, i32_le hb ha] at z; omega
theorem x_if_eqI {a : Int} {off : Int} (tgt : Nat) (hd : decode M.2.1 pc = .ok (.ifCond .eq off, 3)) (ht : (pc : Int) + off = (tgt : Int)) (ha : -2147483648 ≤ a ∧ a < 2147483648) (kt : a = 0 → X h M tgt loc st S Q) (kf : a ≠ 0 → X h M (pc + 3) loc st S Q) : X h M pc loc (.int (i32 a) :: st) S Q := by
  have hb : -2147483648 ≤ (0 : Int) ∧ (0 : Int) < 2147483648 := by omega
  refine x_if_eq tgt hd ht (fun z => kt ?_) (fun z => kf ?_)
  · rw [show (0 : Int32) = i32 0 from rfl] at z; simp only [i32_eq ha hb, i32_eq hb ha, i32_lt ha hb, i32_lt hb ha, i32_le ha hb, i32_le hb ha] at z; omega
  · rw [show (0 : Int32) = i32 0 from rfl] at z; simp only [i32_eq ha hb, i32_eq hb ha, i32_lt ha hb, i32_lt hb ha, i32_le ha hb, i32_le hb ha] at z; omega
theorem x_icmp_neI {a b : Int} {off : Int} (tgt : Nat) (hd : decode M.2.1 pc = .ok (.if_icmp .ne off, 3)) (ht : (pc : Int) + off = (tgt : Int)) (ha : -2147483648 ≤ a ∧ a < 2147483648) (hb : -2147483648 ≤ b ∧ b < 2147483648) (kt : a ≠ b → X h M tgt loc st S Q) (kf : a = b → X h M (pc + 3) loc st S Q) : X h M pc loc (.int (i32 b) :: .int (i32 a) :: st) S Q := by
  refine x_icmp_ne tgt hd ht (fun z => kt ?_) (fun z => kf ?_)
  · simp only [i32_eq ha hb, i32_eq hb ha, i32_lt ha hb, i32_lt hb ha, i32_le ha hb, i32_le hb ha] at z; omega
  · simp only [i32_eq ha hb, i32_eq hb ha, i32_lt ha hb, i32_lt hb ha, i32_le ha hb, i32_le hb ha] at z; omega
theorem x_if_neI {a : Int} {off : Int} (tgt : Nat) (hd : decode M.2.1 pc = .ok (.ifCond .ne off, 3)) (ht : (pc : Int) + off = (tgt : Int)) (ha : -2147483648 ≤ a ∧ a < 2147483648) (kt : a ≠ 0 → X h M tgt loc st S Q) (kf : a = 0 → X h M (pc + 3) loc st S Q) : X h M pc loc (.int (i32 a) :: st) S Q := by
  have hb : -2147483648 ≤ (0 : Int) ∧ (0 : Int) < 2147483648 := by omega
  refine x_if_ne tgt hd ht (fun z => kt ?_) (fun z => kf ?_)
  · rw [show (0 : Int32) = i32 0 from rfl] at z; simp only [i32_eq ha hb, i32_eq hb ha, i32_lt ha hb, i32_lt hb ha, i32_le ha hb, i32_le hb ha] at z; omega
  · rw [show (0 : Int32) = i32 0 from rfl] at z; simp only [i32_eq ha hb, i32_eq hb ha, i32_lt ha hb, i32_lt hb ha, i32_le ha hb, i32_le hb ha] at z; omega
theorem x_icmp_ltI {a b : Int} {off : Int} (tgt : Nat) (hd : decode M.2.1 pc = .ok (.if_icmp .lt off, 3)) (ht : (pc : Int) + off = (tgt : Int)) (ha : -2147483648 ≤ a ∧ a < 2147483648) (hb : -2147483648 ≤ b ∧ b < 2147483648) (kt : a < b → X h M tgt loc st S Q) (kf : b ≤ a → X h M (pc + 3) loc st S Q) : X h M pc loc (.int (i32 b) :: .int (i32 a) :: st) S Q := by
  refine x_icmp_lt tgt hd ht (fun z => kt ?_) (fun z => kf ?_)
  · simp only [i32_eq ha hb, i32_eq hb ha, i32_lt ha hb, i32_lt hb ha, i32_le ha hb, i32_le hb ha] at z; omega
  · simp only [i32_eq ha hb, i32_eq hb ha, i32_lt ha hb, i32_lt hb ha, i32_le ha hb, i32_le hb ha] at z; omega
theorem x_if_ltI {a : Int} {off : Int} (tgt : Nat) (hd : decode M.2.1 pc = .ok (.ifCond .lt off, 3)) (ht : (pc : Int) + off = (tgt : Int)) (ha : -2147483648 ≤ a ∧ a < 2147483648) (kt : a < 0 → X h M tgt loc st S Q) (kf : 0 ≤ a → X h M (pc + 3) loc st S Q) : X h M pc loc (.int (i32 a) :: st) S Q := by
  have hb : -2147483648 ≤ (0 : Int) ∧ (0 : Int) < 2147483648 := by omega
  refine x_if_lt tgt hd ht (fun z => kt ?_) (fun z => kf ?_)
  · rw [show (0 : Int32) = i32 0 from rfl] at z; simp only [i32_eq ha hb, i32_eq hb ha, i32_lt ha hb, i32_lt hb ha, i32_le ha hb, i32_le hb ha] at z; omega
  · rw [show (0 : Int32) = i32 0 from rfl] at z; simp only [i32_eq ha hb, i32_eq hb ha, i32_lt ha hb, i32_lt hb ha, i32_le ha hb, i32_le hb ha] at z; omega
theorem x_icmp_geI {a b : Int} {off : Int} (tgt : Nat) (hd : decode M.2.1 pc = .ok (.if_icmp .ge off, 3)) (ht : (pc : Int) + off = (tgt : Int)) (ha : -2147483648 ≤ a ∧ a < 2147483648) (hb : -2147483648 ≤ b ∧ b < 2147483648) (kt : b ≤ a → X h M tgt loc st S Q) (kf : a < b → X h M (pc + 3) loc st S Q) : X h M pc loc (.int (i32 b) :: .int (i32 a) :: st) S Q := by
  refine x_icmp_ge tgt hd ht (fun z => kt ?_) (fun z => kf ?_)
  · simp only [i32_eq ha hb, i32_eq hb ha, i32_lt ha hb, i32_lt hb ha, i32_le ha hb, i32_le hb ha] at z; omega
  · simp only [i32_eq ha hb, i32_eq hb ha, i32_lt ha hb, i32_lt hb ha, i32_le ha hb, i32_le hb ha] at z; omega
theorem x_if_geI {a : Int} {off : Int} (tgt : Nat) (hd : decode M.2.1 pc = .ok (.ifCond .ge off, 3)) (ht : (pc : Int) + off = (tgt : Int)) (ha : -2147483648 ≤ a ∧ a < 2147483648) (kt : 0 ≤ a → X h M tgt loc st S Q) (kf : a < 0 → X h M (pc + 3) loc st S Q) : X h M pc loc (.int (i32 a) :: st) S Q := by
  have hb : -2147483648 ≤ (0 : Int) ∧ (0 : Int) < 2147483648 := by omega
  refine x_if_ge tgt hd ht (fun z => kt ?_) (fun z => kf ?_)
  · rw [show (0 : Int32) = i32 0 from rfl] at z; simp only [i32_eq ha hb, i32_eq hb ha, i32_lt ha hb, i32_lt hb ha, i32_le ha hb, i32_le hb ha] at z; omega
  · rw [show (0 : Int32) = i32 0 from rfl] at z; simp only [i32_eq ha hb, i32_eq hb ha, i32_lt ha hb, i32_lt hb ha, i32_le ha hb, i32_le hb ha] at z; omega
theorem x_icmp_gtI {a b : Int} {off : Int} (tgt : Nat) (hd : decode M.2.1 pc = .ok (.if_icmp .gt off, 3)) (ht : (pc : Int) + off = (tgt : Int)) (ha : -2147483648 ≤ a ∧ a < 2147483648) (hb : -2147483648 ≤ b ∧ b < 2147483648) (kt : b < a → X h M tgt loc st S Q) (kf : a ≤ b → X h M (pc + 3) loc st S Q) : X h M pc loc (.int (i32 b) :: .int (i32 a) :: st) S Q := by
  refine x_icmp_gt tgt hd ht (fun z => kt ?_) (fun z => kf ?_)
  · simp only [i32_eq ha hb, i32_eq hb ha, i32_lt ha hb, i32_lt hb ha, i32_le ha hb, i32_le hb ha] at z; omega
  · simp only [i32_eq ha hb, i32_eq hb ha, i32_lt ha hb, i32_lt hb ha, i32_le ha hb, i32_le hb ha] at z; omega
theorem x_if_gtI {a : Int} {off : Int} (tgt : Nat) (hd : decode M.2.1 pc = .ok (.ifCond .gt off, 3)) (ht : (pc : Int) + off = (tgt : Int)) (ha : -2147483648 ≤ a ∧ a < 2147483648) (kt : 0 < a → X h M tgt loc st S Q) (kf : a ≤ 0 → X h M (pc + 3) loc st S Q) : X h M pc loc (.int (i32 a) :: st) S Q := by
  have hb : -2147483648 ≤ (0 : Int) ∧ (0 : Int) < 2147483648 := by omega
  refine x_if_gt tgt hd ht (fun z => kt ?_) (fun z => kf ?_)
  · rw [show (0 : Int32) = i32 0 from rfl] at z; simp only [i32_eq ha hb, i32_eq hb ha, i32_lt ha hb, i32_lt hb ha, i32_le ha hb, i32_le hb ha] at z; omega
  · rw [show (0 : Int32) = i32 0 from rfl] at z; simp only [i32_eq ha hb, i32_eq hb ha, i32_lt ha hb, i32_lt hb ha, i32_le ha hb, i32_le hb ha] at z; omega
theorem x_icmp_leI {a b : Int} {off : Int} (tgt : Nat) (hd : decode M.2.1 pc = .ok (.if_icmp .le off, 3)) (ht : (pc : Int) + off = (tgt : Int)) (ha : -2147483648 ≤ a ∧ a < 2147483648) (hb : -2147483648 ≤ b ∧ b < 2147483648) (kt : a ≤ b → X h M tgt loc st S Q) (kf : b < a → X h M (pc + 3) loc st S Q) : X h M pc loc (.int (i32 b) :: .int (i32 a) :: st) S Q := by
  refine x_icmp_le tgt hd ht (fun z => kt ?_) (fun z => kf ?_)
  · simp only [i32_eq ha hb, i32_eq hb ha, i32_lt ha hb, i32_lt hb ha, i32_le ha hb, i32_le hb ha] at z; omega
  · simp only [i32_eq ha hb, i32_eq hb ha, i32_lt ha hb, i32_lt hb ha, i32_le ha hb, i32_le hb ha] at z; omega
theorem x_if_leI {a : Int} {off : Int} (tgt : Nat) (hd : decode M.2.1 pc = .ok (.ifCond .le off, 3)) (ht : (pc : Int) + off = (tgt : Int)) (ha : -2147483648 ≤ a ∧ a < 2147483648) (kt : a ≤ 0 → X h M tgt loc st S Q) (kf : 0 < a → X h M (pc + 3) loc st S Q) : X h M pc loc (.int (i32 a) :: st) S Q := by
  have hb : -2147483648 ≤ (0 : Int) ∧ (0 : Int) < 2147483648 := by omega
  refine x_if_le tgt hd ht (fun z => kt ?_) (fun z => kf ?_)
  · rw [show (0 : Int32) = i32 0 from rfl] at z; simp only [i32_eq ha hb, i32_eq hb ha, i32_lt ha hb, i32_lt hb ha, i32_le ha hb, i32_le hb ha] at z; omega
  · rw [show (0 : Int32) = i32 0 from rfl] at z; simp only [i32_eq ha hb, i32_eq hb ha, i32_lt ha hb, i32_lt hb ha, i32_le ha hb, i32_le hb ha] at z; omega
theorem x_if_eqN {a : Nat} {off : Int} (tgt : Nat) (hd : decode M.2.1 pc = .ok (.ifCond .eq off, 3)) (ht : (pc : Int) + off = (tgt : Int)) (ha : a < 2 ^ 31) (kt : a = 0 → X h M tgt loc st S Q) (kf : a ≠ 0 → X h M (pc + 3) loc st S Q) : X h M pc loc (.int (nI a) :: st) S Q := by
  refine x_if_eq tgt hd ht (fun z => kt ?_) (fun z => kf ?_)
  · rw [← nI_0, nI_eq ha (by omega)] at z; exact z
  · rw [← nI_0, nI_eq ha (by omega)] at z; exact z
theorem x_if_neN {a : Nat} {off : Int} (tgt : Nat) (hd : decode M.2.1 pc = .ok (.ifCond .ne off, 3)) (ht : (pc : Int) + off = (tgt : Int)) (ha : a < 2 ^ 31) (kt : a ≠ 0 → X h M tgt loc st S Q) (kf : a = 0 → X h M (pc + 3) loc st S Q) : X h M pc loc (.int (nI a) :: st) S Q := by
  refine x_if_ne tgt hd ht (fun z => kt ?_) (fun z => kf ?_)
  · rw [← nI_0, nI_eq ha (by omega)] at z; exact z
  · rw [← nI_0, nI_eq ha (by omega)] at z; exact z
theorem cl_nI {k n : Nat} (hk : k < n) (hn : n < 2 ^ 31) : (nI k).toNatClampNeg = k := nI_clamp (Nat.lt_trans hk hn)
theorem x_ialdN {ix n k : Nat} {ids : List Nat} {v : Int32} (hd : decode M.2.1 pc = .ok (.iaload, 1)) (hs : am_shp h ix = some (.inl (n, .int, ids))) (hn : Nat.blt n 2147483648 = true) (hk : k < n) (hv : S.2.1 ix k = v) (kk : X h M (pc + 1) loc (.int v :: st) S Q) : X h M pc loc (.int (nI k) :: .ref ix :: st) S Q :=
  x_iald hd hs (vp_in_nI hk (Nat.blt_eq.mp hn)) (by rw [cl_nI hk (Nat.blt_eq.mp hn), hv]; exact kk)
theorem x_zaldN {ix n k : Nat} {ids : List Nat} {v : Int32} (hd : decode M.2.1 pc = .ok (.baload, 1)) (hs : am_shp h ix = some (.inl (n, .boolean, ids))) (hn : Nat.blt n 2147483648 = true) (hk : k < n) (hv : S.2.1 ix k = v) (kk : X h M (pc + 1) loc (.int v :: st) S Q) : X h M pc loc (.int (nI k) :: .ref ix :: st) S Q :=
  x_zald hd hs (vp_in_nI hk (Nat.blt_eq.mp hn)) (by rw [cl_nI hk (Nat.blt_eq.mp hn), hv]; exact kk)
theorem x_baldN {ix n k : Nat} {ids : List Nat} {v : Int32} (hd : decode M.2.1 pc = .ok (.baload, 1)) (hs : am_shp h ix = some (.inl (n, .byte, ids))) (hn : Nat.blt n 2147483648 = true) (hk : k < n) (hv : S.2.1 ix k = v) (kk : X h M (pc + 1) loc (.int v :: st) S Q) : X h M pc loc (.int (nI k) :: .ref ix :: st) S Q :=
  x_bald hd hs (vp_in_nI hk (Nat.blt_eq.mp hn)) (by rw [cl_nI hk (Nat.blt_eq.mp hn), hv]; exact kk)
theorem x_laldN {ix n k : Nat} {ids : List Nat} {v : Int64} (hd : decode M.2.1 pc = .ok (.laload, 1)) (hs : am_shp h ix = some (.inl (n, .long, ids))) (hn : Nat.blt n 2147483648 = true) (hk : k < n) (hv : S.2.2.2 ix k = v) (kk : X h M (pc + 1) loc (.long v :: st) S Q) : X h M pc loc (.int (nI k) :: .ref ix :: st) S Q :=
  x_lald hd hs (vp_in_nI hk (Nat.blt_eq.mp hn)) (by rw [cl_nI hk (Nat.blt_eq.mp hn), hv]; exact kk)
theorem x_iastN {ix n k : Nat} {ids : List Nat} {x : Int32} (hd : decode M.2.1 pc = .ok (.iastore, 1)) (hs : am_shp h ix = some (.inl (n, .int, ids))) (hn : Nat.blt n 2147483648 = true) (hk : k < n) (kk : X h M (pc + 1) loc st (sA S ix (upd (S.2.1 ix) k x)) Q) : X h M pc loc (.int x :: .int (nI k) :: .ref ix :: st) S Q :=
  x_iast hd hs (vp_in_nI hk (Nat.blt_eq.mp hn)) (by rw [cl_nI hk (Nat.blt_eq.mp hn)]; exact kk)
theorem x_zastN {ix n k : Nat} {ids : List Nat} {x y : Int32} (hd : decode M.2.1 pc = .ok (.bastore, 1)) (hs : am_shp h ix = some (.inl (n, .boolean, ids))) (hn : Nat.blt n 2147483648 = true) (hk : k < n) (hy : vp_nar .boolean x = y) (kk : X h M (pc + 1) loc st (sA S ix (upd (S.2.1 ix) k y)) Q) : X h M pc loc (.int x :: .int (nI k) :: .ref ix :: st) S Q :=
  x_zast hd hs (vp_in_nI hk (Nat.blt_eq.mp hn)) (by rw [cl_nI hk (Nat.blt_eq.mp hn), hy]; exact kk)
theorem x_bastN {ix n k : Nat} {ids : List Nat} {x y : Int32} (hd : decode M.2.1 pc = .ok (.bastore, 1)) (hs : am_shp h ix = some (.inl (n, .byte, ids))) (hn : Nat.blt n 2147483648 = true) (hk : k < n) (hy : vp_nar .byte x = y) (kk : X h M (pc + 1) loc st (sA S ix (upd (S.2.1 ix) k y)) Q) : X h M pc loc (.int x :: .int (nI k) :: .ref ix :: st) S Q :=
  x_bast hd hs (vp_in_nI hk (Nat.blt_eq.mp hn)) (by rw [cl_nI hk (Nat.blt_eq.mp hn), hy]; exact kk)
theorem x_lastN {ix n k : Nat} {ids : List Nat} {x : Int64} (hd : decode M.2.1 pc = .ok (.lastore, 1)) (hs : am_shp h ix = some (.inl (n, .long, ids))) (hn : Nat.blt n 2147483648 = true) (hk : k < n) (kk : X h M (pc + 1) loc st (sL S ix (vp_updL (S.2.2.2 ix) k x)) Q) : X h M pc loc (.long x :: .int (nI k) :: .ref ix :: st) S Q :=
  x_last hd hs (vp_in_nI hk (Nat.blt_eq.mp hn)) (by rw [cl_nI hk (Nat.blt_eq.mp hn)]; exact kk)
theorem x_getV {o idx ci k : Nat} {v u : Value} (hd : decode M.2.1 pc = .ok (.getfield idx, 3)) (hl : am_FL M.1.cls idx ci k) (hv : am_gf h S o ci k = some u) (hu : u = v) (hn : v ≠ .null) (kk : X h M (pc + 3) loc (v :: st) S Q) : X h M pc loc (.ref o :: st) S Q := x_get hd hl hv (by rw [hu]; exact hn) (by rw [hu]; exact kk)
/-- a value on the stack under another name -/
theorem x_top {a b : Int32} (e : a = b) (k : X h M pc loc (.int b :: st) S Q) : X h M pc loc (.int a :: st) S Q := by rw [e]; exact k
theorem x_topl {a b : Int64} (e : a = b) (k : X h M pc loc (.long b :: st) S Q) : X h M pc loc (.long a :: st) S Q := by rw [e]; exact k
theorem x_st {S' : amS} (e : S = S') (k : X h M pc loc st S' Q) : X h M pc loc st S Q := by rw [e]; exact k
theorem x_loc {loc' : List Value} (e : loc = loc') (k : X h M pc loc' st S Q) : X h M pc loc st S Q := by rw [e]; exact k
theorem x_iretI {x : Int32} (hd : decode M.2.1 pc = .ok (.ireturn, 1)) (ht : M.2.2.2.1 = some .int) (q : Q (some (.int x)) S) : X h M pc loc [.int x] S Q := x_iret hd ht rfl q
theorem x_zret1 (hd : decode M.2.1 pc = .ok (.ireturn, 1)) (ht : M.2.2.2.1 = some .boolean) (q : Q (some (.int (nI 1))) S) : X h M pc loc [.int (nI 1)] S Q := x_iret hd ht (by decide) q
theorem x_zret0 (hd : decode M.2.1 pc = .ok (.ireturn, 1)) (ht : M.2.2.2.1 = some .boolean) (q : Q (some (.int (nI 0))) S) : X h M pc loc [.int (nI 0)] S Q := x_iret hd ht (by decide) q
end XN
theorem ic_0 : Int32.ofInt 0 = nI 0 := by decide
theorem ic_1 : Int32.ofInt 1 = nI 1 := by decide
theorem ic_2 : Int32.ofInt 2 = nI 2 := by decide
theorem ic_3 : Int32.ofInt 3 = nI 3 := by decide
theorem ic_4 : Int32.ofInt 4 = nI 4 := by decide
theorem ic_5 : Int32.ofInt 5 = nI 5 := by decide
theorem ic_m1 : Int32.ofInt (-1) = i32 (-1) := rfl
theorem bi_m10 : (Int8.ofInt (-10)).toInt32 = i32 (-10) := by decide
theorem bi_m9 : (Int8.ofInt (-9)).toInt32 = i32 (-9) := by decide
theorem bi_m5 : (Int8.ofInt (-5)).toInt32 = i32 (-5) := by decide
theorem bi_m4 : (Int8.ofInt (-4)).toInt32 = i32 (-4) := by decide
theorem bi_m3 : (Int8.ofInt (-3)).toInt32 = i32 (-3) := by decide
theorem bi_m2 : (Int8.ofInt (-2)).toInt32 = i32 (-2) := by decide
theorem bi_6 : (Int8.ofInt (6)).toInt32 = nI 6 := by decide
theorem bi_7 : (Int8.ofInt (7)).toInt32 = nI 7 := by decide
theorem bi_8 : (Int8.ofInt (8)).toInt32 = nI 8 := by decide
theorem bi_9 : (Int8.ofInt (9)).toInt32 = nI 9 := by decide
theorem bi_10 : (Int8.ofInt (10)).toInt32 = nI 10 := by decide
theorem bi_16 : (Int8.ofInt (16)).toInt32 = nI 16 := by decide
theorem bi_20 : (Int8.ofInt (20)).toInt32 = nI 20 := by decide
theorem bi_31 : (Int8.ofInt (31)).toInt32 = nI 31 := by decide
theorem bi_32 : (Int8.ofInt (32)).toInt32 = nI 32 := by decide
theorem bi_34 : (Int8.ofInt (34)).toInt32 = nI 34 := by decide
theorem bi_36 : (Int8.ofInt (36)).toInt32 = nI 36 := by decide
theorem bi_37 : (Int8.ofInt (37)).toInt32 = nI 37 := by decide
theorem bi_38 : (Int8.ofInt (38)).toInt32 = nI 38 := by decide
theorem bi_45 : (Int8.ofInt (45)).toInt32 = nI 45 := by decide
theorem bi_48 : (Int8.ofInt (48)).toInt32 = nI 48 := by decide
theorem bi_49 : (Int8.ofInt (49)).toInt32 = nI 49 := by decide
theorem bi_50 : (Int8.ofInt (50)).toInt32 = nI 50 := by decide
theorem bi_52 : (Int8.ofInt (52)).toInt32 = nI 52 := by decide
theorem bi_57 : (Int8.ofInt (57)).toInt32 = nI 57 := by decide
theorem bi_59 : (Int8.ofInt (59)).toInt32 = nI 59 := by decide
theorem bi_63 : (Int8.ofInt (63)).toInt32 = nI 63 := by decide
theorem bi_100 : (Int8.ofInt (100)).toInt32 = nI 100 := by decide
theorem bi_109 : (Int8.ofInt (109)).toInt32 = nI 109 := by decide
theorem bi_112 : (Int8.ofInt (112)).toInt32 = nI 112 := by decide
theorem bi_115 : (Int8.ofInt (115)).toInt32 = nI 115 := by decide
theorem bi_116 : (Int8.ofInt (116)).toInt32 = nI 116 := by decide
theorem bi_120 : (Int8.ofInt (120)).toInt32 = nI 120 := by decide
theorem bi_126 : (Int8.ofInt (126)).toInt32 = nI 126 := by decide
theorem bi_127 : (Int8.ofInt (127)).toInt32 = nI 127 := by decide
theorem si_m1000 : (Int16.ofInt (-1000)).toInt32 = i32 (-1000) := by decide
theorem si_136 : (Int16.ofInt (136)).toInt32 = nI 136 := by decide
theorem si_186 : (Int16.ofInt (186)).toInt32 = nI 186 := by decide
theorem si_190 : (Int16.ofInt (190)).toInt32 = nI 190 := by decide
theorem si_200 : (Int16.ofInt (200)).toInt32 = nI 200 := by decide
theorem si_228 : (Int16.ofInt (228)).toInt32 = nI 228 := by decide
theorem si_400 : (Int16.ofInt (400)).toInt32 = nI 400 := by decide
theorem si_512 : (Int16.ofInt (512)).toInt32 = nI 512 := by decide
theorem si_1000 : (Int16.ofInt (1000)).toInt32 = nI 1000 := by decide
theorem si_10000 : (Int16.ofInt (10000)).toInt32 = nI 10000 := by decide
theorem lc_0 : Int64.ofNat ((0 : Fin 2) : Nat) = i64 0 := by decide
theorem lc_1 : Int64.ofNat ((1 : Fin 2) : Nat) = i64 1 := by decide
end
section
/-! longs: quotients, remainders, comparisons -/
theorem tdiv_bd (a b : Int) : a.tdiv b ≤ a.natAbs ∧ -(a.natAbs : Int) ≤ a.tdiv b := by
  have h : (a.tdiv b).natAbs ≤ a.natAbs := by
    rw [Int.natAbs_tdiv]
    exact Nat.div_le_self _ _
  omega
theorem i64_div {a b : Int} (ha : -9223372036854775808 < a ∧ a < 9223372036854775808) (hb : -9223372036854775808 ≤ b ∧ b < 9223372036854775808) : i64 a / i64 b = i64 (a.tdiv b) := by
  apply Int64.toInt_inj.mp
  have h := tdiv_bd a b
  rw [Int64.toInt_div, i64_toInt (by omega) ha.2, i64_toInt hb.1 hb.2, i64_toInt (by omega) (by omega)]
  exact Jvm.Kit.bmod64 (by omega) (by omega)
theorem i64_rem {a b : Int} (ha : -9223372036854775808 < a ∧ a < 9223372036854775808) (hb : -9223372036854775808 ≤ b ∧ b < 9223372036854775808) : i64 a - i64 a / i64 b * i64 b = i64 (a.tmod b) := by
  rw [i64_div ha hb, i64_mul, i64_sub]
  congr 1
  have := Int.tmod_add_mul_tdiv a b
  rw [Int.mul_comm (a.tdiv b) b]
  omega
theorem i64_ne0 {b : Int} (hb : -9223372036854775808 ≤ b ∧ b < 9223372036854775808) (h : b ≠ 0) : ¬ i64 b = 0 := by
  rw [show (0 : Int64) = i64 0 from rfl, i64_eq hb (by omega)]
  exact h
theorem i32_div {a b : Int} (ha : -2147483648 < a ∧ a < 2147483648) (hb : -2147483648 ≤ b ∧ b < 2147483648) : i32 a / i32 b = i32 (a.tdiv b) := by
  apply Int32.toInt_inj.mp
  have h := tdiv_bd a b
  rw [Int32.toInt_div, i32_toInt (by omega) ha.2, i32_toInt hb.1 hb.2, i32_toInt (by omega) (by omega)]
  rw [Int.bmod_eq_of_le] <;> omega
theorem i32_rem {a b : Int} (ha : -2147483648 < a ∧ a < 2147483648) (hb : -2147483648 ≤ b ∧ b < 2147483648) : i32 a - i32 a / i32 b * i32 b = i32 (a.tmod b) := by
  rw [i32_div ha hb, i32_mul, i32_sub]
  congr 1
  have := Int.tmod_add_mul_tdiv a b
  rw [Int.mul_comm (a.tdiv b) b]
  omega
section XL
variable {h : List amSh} {M : amM} {pc : Nat} {loc st : List Value} {S : amS} {Q : Option Value → amS → Prop}
theorem x_ldivI {a b : Int} (hd : decode M.2.1 pc = .ok (.ldiv, 1)) (ha : -9223372036854775808 < a ∧ a < 9223372036854775808) (hb : -9223372036854775808 ≤ b ∧ b < 9223372036854775808) (hn : b ≠ 0) (k : X h M (pc + 1) loc (.long (i64 (a.tdiv b)) :: st) S Q) : X h M pc loc (.long (i64 b) :: .long (i64 a) :: st) S Q := x_ldiv hd (i64_ne0 hb hn) (by rw [i64_div ha hb]; exact k)
theorem x_lremI {a b : Int} (hd : decode M.2.1 pc = .ok (.lrem, 1)) (ha : -9223372036854775808 < a ∧ a < 9223372036854775808) (hb : -9223372036854775808 ≤ b ∧ b < 9223372036854775808) (hn : b ≠ 0) (k : X h M (pc + 1) loc (.long (i64 (a.tmod b)) :: st) S Q) : X h M pc loc (.long (i64 b) :: .long (i64 a) :: st) S Q := x_lrem hd (i64_ne0 hb hn) (by rw [i64_rem ha hb]; exact k)
theorem x_iremI {a b : Int} (hd : decode M.2.1 pc = .ok (.irem, 1)) (ha : -2147483648 < a ∧ a < 2147483648) (hb : -2147483648 ≤ b ∧ b < 2147483648) (hn : b ≠ 0) (k : X h M (pc + 1) loc (.int (i32 (a.tmod b)) :: st) S Q) : X h M pc loc (.int (i32 b) :: .int (i32 a) :: st) S Q := x_irem hd (by rw [show (0 : Int32) = i32 0 from rfl, i32_eq hb (by omega)]; exact hn) (by rw [i32_rem ha hb]; exact k)
theorem lg_cmp_i {a b : Int} (ha : -9223372036854775808 ≤ a ∧ a < 9223372036854775808) (hb : -9223372036854775808 ≤ b ∧ b < 9223372036854775808) : lg_cmp (i64 a) (i64 b) = i32 (if b < a then 1 else if a = b then 0 else -1) := by
  unfold lg_cmp
  simp only [gt_iff_lt, i64_lt hb ha, i64_eq ha hb]
  by_cases h1 : b < a
  · rw [if_pos h1, if_pos h1]; rfl
  · rw [if_neg h1, if_neg h1]
    by_cases h2 : a = b
    · rw [if_pos h2, if_pos h2]; rfl
    · rw [if_neg h2, if_neg h2]; rfl
theorem x_lcmp_eq {a b : Int} {off : Int} (tgt : Nat) (hd : decode M.2.1 pc = .ok (.lcmp, 1)) (hd2 : decode M.2.1 (pc + 1) = .ok (.ifCond .eq off, 3)) (ht : ((pc + 1 : Nat) : Int) + off = (tgt : Int)) (ha : -9223372036854775808 ≤ a ∧ a < 9223372036854775808) (hb : -9223372036854775808 ≤ b ∧ b < 9223372036854775808) (kt : a = b → X h M tgt loc st S Q) (kf : a ≠ b → X h M (pc + 1 + 3) loc st S Q) : X h M pc loc (.long (i64 b) :: .long (i64 a) :: st) S Q := by
  refine x_lcmp hd ?_
  rw [lg_cmp_i ha hb]
  refine x_if_eqI tgt hd2 ht (by split <;> (try split) <;> omega) (fun z => kt ?_) (fun z => kf ?_) <;> (split at z <;> (try split at z) <;> omega)
theorem x_lcmp_ne {a b : Int} {off : Int} (tgt : Nat) (hd : decode M.2.1 pc = .ok (.lcmp, 1)) (hd2 : decode M.2.1 (pc + 1) = .ok (.ifCond .ne off, 3)) (ht : ((pc + 1 : Nat) : Int) + off = (tgt : Int)) (ha : -9223372036854775808 ≤ a ∧ a < 9223372036854775808) (hb : -9223372036854775808 ≤ b ∧ b < 9223372036854775808) (kt : a ≠ b → X h M tgt loc st S Q) (kf : a = b → X h M (pc + 1 + 3) loc st S Q) : X h M pc loc (.long (i64 b) :: .long (i64 a) :: st) S Q := by
  refine x_lcmp hd ?_
  rw [lg_cmp_i ha hb]
  refine x_if_neI tgt hd2 ht (by split <;> (try split) <;> omega) (fun z => kt ?_) (fun z => kf ?_) <;> (split at z <;> (try split at z) <;> omega)
theorem x_lcmp_lt {a b : Int} {off : Int} (tgt : Nat) (hd : decode M.2.1 pc = .ok (.lcmp, 1)) (hd2 : decode M.2.1 (pc + 1) = .ok (.ifCond .lt off, 3)) (ht : ((pc + 1 : Nat) : Int) + off = (tgt : Int)) (ha : -9223372036854775808 ≤ a ∧ a < 9223372036854775808) (hb : -9223372036854775808 ≤ b ∧ b < 9223372036854775808) (kt : a < b → X h M tgt loc st S Q) (kf : b ≤ a → X h M (pc + 1 + 3) loc st S Q) : X h M pc loc (.long (i64 b) :: .long (i64 a) :: st) S Q := by
  refine x_lcmp hd ?_
  rw [lg_cmp_i ha hb]
  refine x_if_ltI tgt hd2 ht (by split <;> (try split) <;> omega) (fun z => kt ?_) (fun z => kf ?_) <;> (split at z <;> (try split at z) <;> omega)
theorem x_lcmp_ge {a b : Int} {off : Int} (tgt : Nat) (hd : decode M.2.1 pc = .ok (.lcmp, 1)) (hd2 : decode M.2.1 (pc + 1) = .ok (.ifCond .ge off, 3)) (ht : ((pc + 1 : Nat) : Int) + off = (tgt : Int)) (ha : -9223372036854775808 ≤ a ∧ a < 9223372036854775808) (hb : -9223372036854775808 ≤ b ∧ b < 9223372036854775808) (kt : b ≤ a → X h M tgt loc st S Q) (kf : a < b → X h M (pc + 1 + 3) loc st S Q) : X h M pc loc (.long (i64 b) :: .long (i64 a) :: st) S Q := by
  refine x_lcmp hd ?_
  rw [lg_cmp_i ha hb]
  refine x_if_geI tgt hd2 ht (by split <;> (try split) <;> omega) (fun z => kt ?_) (fun z => kf ?_) <;> (split at z <;> (try split at z) <;> omega)
theorem x_lcmp_gt {a b : Int} {off : Int} (tgt : Nat) (hd : decode M.2.1 pc = .ok (.lcmp, 1)) (hd2 : decode M.2.1 (pc + 1) = .ok (.ifCond .gt off, 3)) (ht : ((pc + 1 : Nat) : Int) + off = (tgt : Int)) (ha : -9223372036854775808 ≤ a ∧ a < 9223372036854775808) (hb : -9223372036854775808 ≤ b ∧ b < 9223372036854775808) (kt : b < a → X h M tgt loc st S Q) (kf : a ≤ b → X h M (pc + 1 + 3) loc st S Q) : X h M pc loc (.long (i64 b) :: .long (i64 a) :: st) S Q := by
  refine x_lcmp hd ?_
  rw [lg_cmp_i ha hb]
  refine x_if_gtI tgt hd2 ht (by split <;> (try split) <;> omega) (fun z => kt ?_) (fun z => kf ?_) <;> (split at z <;> (try split at z) <;> omega)
theorem x_lcmp_le {a b : Int} {off : Int} (tgt : Nat) (hd : decode M.2.1 pc = .ok (.lcmp, 1)) (hd2 : decode M.2.1 (pc + 1) = .ok (.ifCond .le off, 3)) (ht : ((pc + 1 : Nat) : Int) + off = (tgt : Int)) (ha : -9223372036854775808 ≤ a ∧ a < 9223372036854775808) (hb : -9223372036854775808 ≤ b ∧ b < 9223372036854775808) (kt : a ≤ b → X h M tgt loc st S Q) (kf : b < a → X h M (pc + 1 + 3) loc st S Q) : X h M pc loc (.long (i64 b) :: .long (i64 a) :: st) S Q := by
  refine x_lcmp hd ?_
  rw [lg_cmp_i ha hb]
  refine x_if_leI tgt hd2 ht (by split <;> (try split) <;> omega) (fun z => kt ?_) (fun z => kf ?_) <;> (split at z <;> (try split at z) <;> omega)
end XL
end
section
/-! truth values, sets of bits, fields -/
def zB (b : Bool) : Int32 := nI b.toNat
theorem zB_t {b : Bool} (h : b = true) : zB b = nI 1 := by rw [h]; rfl
theorem zB_f {b : Bool} (h : b = false) : zB b = nI 0 := by rw [h]; rfl
section XB
variable {h : List amSh} {M : amM} {pc : Nat} {loc st : List Value} {S : amS} {Q : Option Value → amS → Prop}
theorem x_if_eqB {b : Bool} {off : Int} (tgt : Nat) (hd : decode M.2.1 pc = .ok (.ifCond .eq off, 3)) (ht : (pc : Int) + off = (tgt : Int)) (kt : b = false → X h M tgt loc st S Q) (kf : b = true → X h M (pc + 3) loc st S Q) : X h M pc loc (.int (zB b) :: st) S Q := by
  refine x_if_eq tgt hd ht (fun z => kt ?_) (fun z => kf ?_)
  · cases b
    · rfl
    · exact absurd z (by decide)
  · cases b
    · exact absurd rfl z
    · rfl
theorem x_if_neB {b : Bool} {off : Int} (tgt : Nat) (hd : decode M.2.1 pc = .ok (.ifCond .ne off, 3)) (ht : (pc : Int) + off = (tgt : Int)) (kt : b = true → X h M tgt loc st S Q) (kf : b = false → X h M (pc + 3) loc st S Q) : X h M pc loc (.int (zB b) :: st) S Q := by
  refine x_if_ne tgt hd ht (fun z => kt ?_) (fun z => kf ?_)
  · cases b
    · exact absurd rfl z
    · rfl
  · cases b
    · rfl
    · exact absurd z (by decide)
theorem x_zretB {b : Bool} (hd : decode M.2.1 pc = .ok (.ireturn, 1)) (ht : M.2.2.2.1 = some .boolean) (q : Q (some (.int (zB b))) S) : X h M pc loc [.int (zB b)] S Q := x_iret hd ht (by cases b <;> decide) q
theorem x_ishl1 {b : Nat} (hd : decode M.2.1 pc = .ok (.ishl, 1)) (hb : b < 31) (k : X h M (pc + 1) loc (.int (nI (2 ^ b)) :: st) S Q) : X h M pc loc (.int (nI b) :: .int (nI 1) :: st) S Q := by
  refine x_ishl hd ?_
  rw [nI_shl (by omega) (by rw [Nat.one_mul]; exact Nat.pow_lt_pow_right (by omega) (by omega)), Nat.one_mul]
  exact k
theorem x_getI {o idx ci k : Nat} {x : Int32} (hd : decode M.2.1 pc = .ok (.getfield idx, 3)) (hl : am_FL M.1.cls idx ci k) (hv : am_gf h S o ci k = some (.int x)) (kk : X h M (pc + 3) loc (.int x :: st) S Q) : X h M pc loc (.ref o :: st) S Q := x_get hd hl hv (fun z => by cases z) kk
theorem x_getIV {o idx ci k : Nat} {x y : Int32} (hd : decode M.2.1 pc = .ok (.getfield idx, 3)) (hl : am_FL M.1.cls idx ci k) (hv : am_gf h S o ci k = some (.int x)) (he : x = y) (kk : X h M (pc + 3) loc (.int y :: st) S Q) : X h M pc loc (.ref o :: st) S Q := x_get hd hl hv (fun z => by cases z) (by rw [he]; exact kk)
theorem x_getL {o idx ci k : Nat} {x : Int64} (hd : decode M.2.1 pc = .ok (.getfield idx, 3)) (hl : am_FL M.1.cls idx ci k) (hv : am_gf h S o ci k = some (.long x)) (kk : X h M (pc + 3) loc (.long x :: st) S Q) : X h M pc loc (.ref o :: st) S Q := x_get hd hl hv (fun z => by cases z) kk
theorem x_getR {o idx ci k r : Nat} (hd : decode M.2.1 pc = .ok (.getfield idx, 3)) (hl : am_FL M.1.cls idx ci k) (hv : am_gf h S o ci k = some (.ref r)) (kk : X h M (pc + 3) loc (.ref r :: st) S Q) : X h M pc loc (.ref o :: st) S Q := x_get hd hl hv (fun z => by cases z) kk
end XB
/-- how many of the first nine bits are set -/
def pcn : Nat → Nat → Nat
  | 0, _ => 0
  | n + 1, s => s % 2 + pcn n (s / 2)
def pc9 (s : Nat) : Nat := pcn 9 s
theorem tb_iff (s k : Nat) : (s / 2 ^ k) &&& 1 = 1 ↔ s.testBit k = true := by
  rw [Nat.testBit, Nat.shiftRight_eq_div_pow, Nat.and_comm]
  have : 1 &&& (s / 2 ^ k) = 0 ∨ 1 &&& (s / 2 ^ k) = 1 := by
    have := @Nat.and_le_left 1 (s / 2 ^ k)
    omega
  rcases this with h | h <;> simp [h]
theorem pow9 {b : Nat} (h : b ≤ 9) : 2 ^ b ≤ 512 := by
  have := Nat.pow_le_pow_right (n := 2) (by omega) h
  omega
theorem pow9' {b : Nat} (h : b < 9) : 2 ^ b ≤ 256 := by
  have := Nat.pow_le_pow_right (n := 2) (by omega) (show b ≤ 8 by omega)
  omega
theorem pc9_low : ∀ s, s < 512 → s ≠ 0 → pc9 (s &&& (s - 1)) + 1 = pc9 s ∧ (s &&& (s - 1)) < s := by decide +kernel
theorem pc9_le : ∀ s, s < 512 → pc9 s ≤ 9 := by decide +kernel
end
section
/-! RANKS, over whole numbers (q = 0) or modulo a prime q: by columns, a function of the span alone -/
abbrev Row : Type := Nat → Int
/-- what is 0 modulo q: a product is only if a factor is; 1 isn't -/
def Dom (q : Int) : Prop := (¬ q ∣ 1) ∧ ∀ a b : Int, q ∣ a * b → q ∣ a ∨ q ∣ b
def lcb (c : Nat → Int) : List Row → Nat → Int
  | [], _ => 0
  | r :: l, j => c 0 * r j + lcb (fun k => c (k + 1)) l j
/-- x is in the span of l, in the columns js -/
def Sp (q : Int) (js : List Nat) (l : List Row) (x : Row) : Prop := ∃ a : Int, (¬ q ∣ a) ∧ ∃ c : Nat → Int, ∀ j ∈ js, q ∣ a * x j - lcb c l j
def el (x : Row) (j : Nat) (r : Row) : Row := fun k => x j * r k - r j * x k
noncomputable def pv (q : Int) (j : Nat) : List Row → Option Row
  | [] => none
  | r :: l => @ite _ (q ∣ r j) (Classical.propDecidable _) (pv q j l) (some r)
noncomputable def rkC (q : Int) : List Nat → List Row → Nat
  | [], _ => 0
  | j :: js, l => match pv q j l with
    | none => rkC q js l
    | some x => 1 + rkC q js (l.map (el x j))
theorem rkC_s {q : Int} {j : Nat} {js : List Nat} {l : List Row} {x : Row} (e : pv q j l = some x) : rkC q (j :: js) l = 1 + rkC q js (l.map (el x j)) := by
  show (match pv q j l with | none => rkC q js l | some x => 1 + rkC q js (l.map (el x j))) = _
  rw [e]
theorem rkC_n {q : Int} {j : Nat} {js : List Nat} {l : List Row} (e : pv q j l = none) : rkC q (j :: js) l = rkC q js l := by
  show (match pv q j l with | none => rkC q js l | some x => 1 + rkC q js (l.map (el x j))) = _
  rw [e]
theorem pv_none {q : Int} {j : Nat} {l : List Row} (h : pv q j l = none) : ∀ r ∈ l, q ∣ r j := by
  induction l with
  | nil => intro r hr; cases hr
  | cons a l ih =>
    intro r hr
    unfold pv at h
    by_cases ha : q ∣ a j
    · rw [if_pos ha] at h
      rcases List.mem_cons.mp hr with rfl | hr
      · exact ha
      · exact ih h r hr
    · rw [if_neg ha] at h
      cases h
theorem pv_some {q : Int} {j : Nat} {l : List Row} {x : Row} (h : pv q j l = some x) : x ∈ l ∧ ¬ q ∣ x j := by
  induction l with
  | nil => cases h
  | cons a l ih =>
    unfold pv at h
    by_cases ha : q ∣ a j
    · rw [if_pos ha] at h
      exact ⟨List.mem_cons_of_mem _ (ih h).1, (ih h).2⟩
    · rw [if_neg ha] at h
      cases h
      exact ⟨List.mem_cons_self, ha⟩
theorem pv_all {q : Int} {j : Nat} {l : List Row} (h : ∀ r ∈ l, q ∣ r j) : pv q j l = none := by
  cases e : pv q j l with
  | none => rfl
  | some x => exact absurd (h x (pv_some e).1) (pv_some e).2
theorem lcb_zero (l : List Row) (j : Nat) : lcb (fun _ => 0) l j = 0 := by
  induction l with
  | nil => rfl
  | cons r l ih => simp only [lcb, ih]; omega
theorem lcb_lin (a b : Int) (c e : Nat → Int) (l : List Row) (j : Nat) : lcb (fun k => a * c k + b * e k) l j = a * lcb c l j + b * lcb e l j := by
  induction l generalizing c e with
  | nil => simp [lcb]
  | cons r l ih =>
    simp only [lcb]
    rw [ih (fun k => c (k + 1)) (fun k => e (k + 1))]
    grind
theorem lcb_smul (a : Int) (c : Nat → Int) (l : List Row) (j : Nat) : lcb (fun k => a * c k) l j = a * lcb c l j := by
  induction l generalizing c with
  | nil => simp [lcb]
  | cons r l ih =>
    simp only [lcb]
    rw [ih (fun k => c (k + 1))]
    grind
theorem lcb_dvd {q : Int} (c : Nat → Int) (l : List Row) (j : Nat) (h : ∀ r ∈ l, q ∣ r j) : q ∣ lcb c l j := by
  induction l generalizing c with
  | nil => exact Int.dvd_zero q
  | cons r l ih =>
    simp only [lcb]
    exact Int.dvd_add (Int.dvd_mul_of_dvd_right (h r List.mem_cons_self)) (ih _ fun s hs => h s (List.mem_cons_of_mem _ hs))
theorem Dom.mul {q : Int} (hq : Dom q) {a b : Int} (ha : ¬ q ∣ a) (hb : ¬ q ∣ b) : ¬ q ∣ a * b := fun h => (hq.2 a b h).elim ha hb
/-- a member is in the span -/
theorem Sp.mem {q : Int} (hq : Dom q) (js : List Nat) {l : List Row} {x : Row} (h : x ∈ l) : Sp q js l x := by
  refine ⟨1, hq.1, ?_⟩
  induction l with
  | nil => cases h
  | cons r l ih =>
    rcases List.mem_cons.mp h with rfl | h
    · refine ⟨fun k => if k = 0 then 1 else 0, fun j _ => ?_⟩
      have : lcb (fun k => if k + 1 = 0 then (1 : Int) else 0) l j = 0 := lcb_zero l j
      simp only [lcb, if_true, this]
      exact ⟨0, by omega⟩
    · obtain ⟨c, hc⟩ := ih h
      refine ⟨fun k => if k = 0 then 0 else c (k - 1), fun j hj => ?_⟩
      have : (fun k => (if k + 1 = 0 then (0 : Int) else c (k + 1 - 1))) = c := by funext k; simp
      simp only [lcb, if_true, this]
      obtain ⟨d, hd⟩ := hc j hj
      exact ⟨d, by omega⟩
/-- sums of what is in the span, are -/
theorem Sp.comb {q : Int} (hq : Dom q) {js : List Nat} {l l' : List Row} (h : ∀ y ∈ l, Sp q js l' y) (c : Nat → Int) : ∃ e : Int, (¬ q ∣ e) ∧ ∃ c' : Nat → Int, ∀ j ∈ js, q ∣ e * lcb c l j - lcb c' l' j := by
  induction l generalizing c with
  | nil => exact ⟨1, hq.1, fun _ => 0, fun j _ => ⟨0, by rw [lcb_zero]; simp [lcb]⟩⟩
  | cons r l ih =>
    obtain ⟨e, he, c1, h1⟩ := ih (fun y hy => h y (List.mem_cons_of_mem _ hy)) (fun k => c (k + 1))
    obtain ⟨b, hb, d, h2⟩ := h r List.mem_cons_self
    refine ⟨e * b, hq.mul he hb, fun k => (e * c 0) * d k + b * c1 k, fun j hj => ?_⟩
    obtain ⟨u, hu⟩ := h1 j hj
    obtain ⟨w, hw⟩ := h2 j hj
    rw [lcb_lin]
    simp only [lcb]
    refine ⟨e * c 0 * w + b * u, ?_⟩
    grind
theorem Sp.trans {q : Int} (hq : Dom q) {js : List Nat} {l l' : List Row} {x : Row} (h : ∀ y ∈ l, Sp q js l' y) (hx : Sp q js l x) : Sp q js l' x := by
  obtain ⟨a, ha, c, hc⟩ := hx
  obtain ⟨e, he, c', h'⟩ := Sp.comb hq h c
  refine ⟨e * a, hq.mul he ha, c', fun j hj => ?_⟩
  obtain ⟨u, hu⟩ := hc j hj
  obtain ⟨w, hw⟩ := h' j hj
  exact ⟨e * u + w, by grind⟩
theorem Sp.sub {q : Int} (hq : Dom q) {js : List Nat} {l l' : List Row} {x : Row} (h : ∀ y ∈ l, y ∈ l') (hx : Sp q js l x) : Sp q js l' x := Sp.trans hq (fun y hy => Sp.mem hq js (h y hy)) hx
theorem Sp.cols {q : Int} {js js' : List Nat} {l : List Row} {x : Row} (h : ∀ j ∈ js', j ∈ js) (hx : Sp q js l x) : Sp q js' l x := by
  obtain ⟨a, ha, c, hc⟩ := hx
  exact ⟨a, ha, c, fun j hj => hc j (h j hj)⟩
theorem lcb_el (c : Nat → Int) (x : Row) (j : Nat) (l : List Row) (k : Nat) : lcb c (l.map (el x j)) k = x j * lcb c l k - lcb c l j * x k := by
  induction l generalizing c with
  | nil => simp [lcb]
  | cons r l ih =>
    simp only [List.map_cons, lcb, ih, el]
    grind
/-- what is in the span and 0 in the pivot's column: the span of the eliminated rows -/
theorem Sp.el_iff {q : Int} (hq : Dom q) {j : Nat} {js : List Nat} {l : List Row} {x y : Row} (hx : x ∈ l) (hn : ¬ q ∣ x j) (hy : q ∣ y j) : Sp q (j :: js) l y ↔ Sp q js (l.map (el x j)) y := by
  constructor
  · rintro ⟨a, ha, c, hc⟩
    refine ⟨x j * a, hq.mul hn ha, c, fun k hk => ?_⟩
    obtain ⟨u, hu⟩ := hc j List.mem_cons_self
    obtain ⟨w, hw⟩ := hc k (List.mem_cons_of_mem _ hk)
    obtain ⟨z, hz⟩ := hy
    rw [lcb_el]
    exact ⟨x j * w + (a * z - u) * x k, by grind⟩
  · intro h
    have h2 : Sp q (j :: js) (l.map (el x j)) y := by
      obtain ⟨a, ha, c, hc⟩ := h
      refine ⟨a, ha, c, fun k hk => ?_⟩
      rcases List.mem_cons.mp hk with rfl | hk
      · have h0 : lcb c (l.map (el x k)) k = 0 := by rw [lcb_el]; grind
        rw [h0]
        obtain ⟨z, hz⟩ := hy
        exact ⟨a * z, by grind⟩
      · exact hc k hk
    refine Sp.trans hq (fun r hr => ?_) h2
    obtain ⟨r0, hr0, rfl⟩ := List.mem_map.mp hr
    have := Sp.comb hq (js := j :: js) (l := [r0, x]) (l' := l) (fun y hy => by
      rcases List.mem_cons.mp hy with rfl | hy
      · exact Sp.mem hq _ hr0
      · rw [List.mem_singleton.mp hy]; exact Sp.mem hq _ hx) (fun k => if k = 0 then x j else - r0 j)
    obtain ⟨e, he, c', h'⟩ := this
    refine ⟨e, he, c', fun k hk => ?_⟩
    obtain ⟨u, hu⟩ := h' k hk
    refine ⟨u, ?_⟩
    simp only [lcb] at hu
    simp only [el]
    rw [← hu]
    simp
    grind
theorem Sp.zero {q : Int} (hq : Dom q) {js : List Nat} {l : List Row} {y : Row} (h : ∀ j ∈ js, q ∣ y j) : Sp q js l y := by
  refine ⟨1, hq.1, fun _ => 0, fun j hj => ?_⟩
  rw [lcb_zero]
  obtain ⟨u, hu⟩ := h j hj
  exact ⟨u, by omega⟩
/-- a greater span has no smaller rank -/
theorem rkC_mono {q : Int} (hq : Dom q) : ∀ (js : List Nat) (l l' : List Row), (∀ x ∈ l, Sp q js l' x) → rkC q js l ≤ rkC q js l' := by
  intro js
  induction js with
  | nil => intro l l' _; exact Nat.le_refl _
  | cons j js ih =>
    intro l l' h
    unfold rkC
    cases e : pv q j l with
    | none =>
      have h0 := pv_none e
      cases e' : pv q j l' with
      | none => exact ih l l' (fun x hx => (h x hx).cols fun k hk => List.mem_cons_of_mem _ hk)
      | some x' =>
        obtain ⟨a1, a2⟩ := pv_some e'
        have := ih l (l'.map (el x' j)) (fun x hx => (Sp.el_iff hq a1 a2 (h0 x hx)).mp (h x hx))
        dsimp only
        omega
    | some x =>
      obtain ⟨b1, b2⟩ := pv_some e
      cases e' : pv q j l' with
      | none =>
        exfalso
        obtain ⟨a, ha, c, hc⟩ := h x b1
        have h1 := hc j List.mem_cons_self
        have h2 := lcb_dvd c l' j (pv_none e')
        have h3 : q ∣ a * x j := by
          have := Int.dvd_add h1 h2
          rwa [Int.sub_add_cancel] at this
        exact (hq.2 _ _ h3).elim ha b2
      | some x' =>
        obtain ⟨a1, a2⟩ := pv_some e'
        have := ih (l.map (el x j)) (l'.map (el x' j)) (fun y hy => by
          obtain ⟨r, hr, rfl⟩ := List.mem_map.mp hy
          have hz : q ∣ (el x j r) j := ⟨0, by simp only [el]; grind⟩
          refine (Sp.el_iff hq a1 a2 hz).mp ?_
          refine Sp.trans hq (l := l) h ?_
          exact (Sp.el_iff hq b1 b2 hz).mpr (Sp.mem hq _ hy))
        dsimp only
        omega
theorem rkC_eq {q : Int} (hq : Dom q) {js : List Nat} {l l' : List Row} (h : ∀ x ∈ l, Sp q js l' x) (h' : ∀ x ∈ l', Sp q js l x) : rkC q js l = rkC q js l' := Nat.le_antisymm (rkC_mono hq js l l' h) (rkC_mono hq js l' l h')
/-- one row more: its rank is greater by one, or it was in the span -/
theorem rkC_cons {q : Int} (hq : Dom q) : ∀ (js : List Nat) (l : List Row) (x : Row), ¬ Sp q js l x → rkC q js (x :: l) = rkC q js l + 1 := by
  intro js
  induction js with
  | nil => intro l x h; exact absurd (Sp.zero hq (fun j hj => by cases hj)) h
  | cons j js ih =>
    intro l x h
    cases e : pv q j l with
    | none =>
      have h0 := pv_none e
      by_cases hx : q ∣ x j
      · have e2 : pv q j (x :: l) = none := pv_all (fun r hr => by
          rcases List.mem_cons.mp hr with rfl | hr
          · exact hx
          · exact h0 r hr)
        unfold rkC
        rw [e, e2]
        dsimp only
        refine ih l x (fun hs => h ?_)
        obtain ⟨a, ha, c, hc⟩ := hs
        refine ⟨a, ha, c, fun k hk => ?_⟩
        rcases List.mem_cons.mp hk with rfl | hk
        · exact Int.dvd_sub (Int.dvd_mul_of_dvd_right hx) (lcb_dvd c l k h0)
        · exact hc k hk
      · have e2 : pv q j (x :: l) = some x := by unfold pv; rw [if_neg hx]
        unfold rkC
        rw [e, e2]
        dsimp only
        have : rkC q js ((x :: l).map (el x j)) = rkC q js l := by
          refine rkC_eq hq (fun y hy => ?_) (fun y hy => ?_)
          · obtain ⟨r, hr, rfl⟩ := List.mem_map.mp hy
            rcases List.mem_cons.mp hr with rfl | hr
            · exact Sp.zero hq (fun k _ => ⟨0, by simp only [el]; grind⟩)
            · refine Sp.trans hq (l := [r]) (fun z hz => by rw [List.mem_singleton.mp hz]; exact Sp.mem hq _ hr) ?_
              refine ⟨1, hq.1, fun _ => x j, fun k _ => ?_⟩
              obtain ⟨u, hu⟩ := h0 r hr
              simp only [lcb, el]
              exact ⟨-u * x k, by rw [hu]; grind⟩
          · refine (Sp.el_iff hq (l := x :: l) List.mem_cons_self hx (h0 y hy)).mp ?_
            exact Sp.mem hq _ (List.mem_cons_of_mem _ hy)
        omega
    | some p =>
      obtain ⟨b1, b2⟩ := pv_some e
      have key : rkC q (j :: js) (x :: l) = 1 + rkC q js ((x :: l).map (el p j)) := by
        cases e2 : pv q j (x :: l) with
        | none => exact absurd (pv_none e2 p (List.mem_cons_of_mem _ b1)) b2
        | some p2 =>
          obtain ⟨a1, a2⟩ := pv_some e2
          rw [rkC_s e2]
          have := rkC_eq hq (js := js) (l := (x :: l).map (el p2 j)) (l' := (x :: l).map (el p j)) (fun y hy => by
            have hz : q ∣ y j := by obtain ⟨r, hr, rfl⟩ := List.mem_map.mp hy; exact ⟨0, by simp only [el]; grind⟩
            exact (Sp.el_iff hq (List.mem_cons_of_mem _ b1) b2 hz).mp ((Sp.el_iff hq a1 a2 hz).mpr (Sp.mem hq _ hy))) (fun y hy => by
            have hz : q ∣ y j := by obtain ⟨r, hr, rfl⟩ := List.mem_map.mp hy; exact ⟨0, by simp only [el]; grind⟩
            exact (Sp.el_iff hq a1 a2 hz).mp ((Sp.el_iff hq (List.mem_cons_of_mem _ b1) b2 hz).mpr (Sp.mem hq _ hy)))
          omega
      rw [key]
      have e3 : rkC q (j :: js) l = 1 + rkC q js (l.map (el p j)) := rkC_s e
      rw [e3, List.map_cons, ih (l.map (el p j)) (el p j x) ?_]
      · omega
      · intro hs
        have hz : q ∣ (el p j x) j := ⟨0, by simp only [el]; grind⟩
        have h1 := (Sp.el_iff hq (js := js) b1 b2 hz).mpr hs
        apply h
        -- p j * x = el + x j * p
        obtain ⟨a, ha, c, hc⟩ := h1
        obtain ⟨a', ha', c', hc'⟩ := Sp.mem hq (j :: js) b1
        refine ⟨a * a' * p j, hq.mul (hq.mul ha ha') b2, fun k => a' * c k + (a * x j) * c' k, fun k hk => ?_⟩
        obtain ⟨u, hu⟩ := hc k hk
        obtain ⟨w, hw⟩ := hc' k hk
        rw [lcb_lin]
        simp only [el] at hu
        exact ⟨a' * u + a * x j * w, by grind⟩
end
section
/-! elimination, as ranks see it -/
theorem Sp.ext {q : Int} {js : List Nat} {l : List Row} {x y : Row} (h : ∀ j ∈ js, x j = y j) (hx : Sp q js l x) : Sp q js l y := by
  obtain ⟨a, ha, c, hc⟩ := hx
  exact ⟨a, ha, c, fun j hj => by rw [← h j hj]; exact hc j hj⟩
/-- a multiple of it is in the span -/
theorem Sp.div {q : Int} (hq : Dom q) {js : List Nat} {l : List Row} {x y : Row} {g : Int} (hg : ¬ q ∣ g) (h : ∀ j ∈ js, q ∣ g * y j - x j) (hx : Sp q js l x) : Sp q js l y := by
  obtain ⟨a, ha, c, hc⟩ := hx
  refine ⟨a * g, hq.mul ha hg, c, fun j hj => ?_⟩
  obtain ⟨u, hu⟩ := h j hj
  obtain ⟨w, hw⟩ := hc j hj
  exact ⟨a * u + w, by grind⟩
theorem Sp.mulr {q : Int} {js : List Nat} {l : List Row} {x y : Row} {g : Int} (h : ∀ j ∈ js, q ∣ x j - g * y j) (hy : Sp q js l y) : Sp q js l x := by
  obtain ⟨a, ha, c, hc⟩ := hy
  refine ⟨a, ha, fun k => g * c k, fun j hj => ?_⟩
  obtain ⟨u, hu⟩ := h j hj
  obtain ⟨w, hw⟩ := hc j hj
  rw [lcb_smul]
  exact ⟨a * u + g * w, by grind⟩
/-- any pivot, any rows with the span of the eliminated ones -/
theorem el_rank {q : Int} (hq : Dom q) {j : Nat} {js : List Nat} {l l' : List Row} {x : Row} (hx : x ∈ l) (hn : ¬ q ∣ x j) (h1 : ∀ y ∈ l', Sp q js (l.map (el x j)) y) (h2 : ∀ y ∈ l, Sp q js l' (el x j y)) : rkC q (j :: js) l = 1 + rkC q js l' := by
  cases e : pv q j l with
  | none => exact absurd (pv_none e x hx) hn
  | some p =>
    obtain ⟨b1, b2⟩ := pv_some e
    rw [rkC_s e]
    have e1 := rkC_eq hq (js := js) (l := l.map (el p j)) (l' := l.map (el x j)) (fun y hy => by
      have hz : q ∣ y j := by obtain ⟨r, hr, rfl⟩ := List.mem_map.mp hy; exact ⟨0, by simp only [el]; grind⟩
      exact (Sp.el_iff hq hx hn hz).mp ((Sp.el_iff hq b1 b2 hz).mpr (Sp.mem hq _ hy))) (fun y hy => by
      have hz : q ∣ y j := by obtain ⟨r, hr, rfl⟩ := List.mem_map.mp hy; exact ⟨0, by simp only [el]; grind⟩
      exact (Sp.el_iff hq b1 b2 hz).mp ((Sp.el_iff hq hx hn hz).mpr (Sp.mem hq _ hy)))
    have e2 := rkC_eq hq (js := js) (l := l') (l' := l.map (el x j)) h1 (fun y hy => by
      obtain ⟨r, hr, rfl⟩ := List.mem_map.mp hy
      exact h2 r hr)
    omega
/-- the rows from lo on, below n -/
def act (w : Nat → Row) (lo n : Nat) : List Row := (List.range (n - lo)).map (fun k => w (lo + k))
theorem act_mem {w : Nat → Row} {lo n : Nat} {x : Row} : x ∈ act w lo n ↔ ∃ a, lo ≤ a ∧ a < n ∧ x = w a := by
  unfold act
  rw [List.mem_map]
  constructor
  · rintro ⟨k, hk, rfl⟩
    rw [List.mem_range] at hk
    exact ⟨lo + k, by omega, by omega, rfl⟩
  · rintro ⟨a, h1, h2, rfl⟩
    exact ⟨a - lo, by rw [List.mem_range]; omega, by rw [show lo + (a - lo) = a by omega]⟩
/-- the last k of four columns -/
def cf : Nat → List Nat
  | 0 => []
  | k + 1 => (3 - k) :: cf k
theorem cf_mem : ∀ (k : Nat), k ≤ 4 → ∀ j ∈ cf k, j < 4 := by
  intro k hk j hj
  rcases (show k = 0 ∨ k = 1 ∨ k = 2 ∨ k = 3 ∨ k = 4 by omega) with rfl | rfl | rfl | rfl | rfl <;> simp [cf] at hj <;> omega
theorem rkC_cols {q : Int} (hq : Dom q) {js : List Nat} {l l' : List Row} (h : ∀ x ∈ l, ∃ y ∈ l', ∀ j ∈ js, y j = x j) (h' : ∀ x ∈ l', ∃ y ∈ l, ∀ j ∈ js, y j = x j) : rkC q js l = rkC q js l' :=
  rkC_eq hq (fun x hx => by obtain ⟨y, hy, e⟩ := h x hx; exact (Sp.mem hq js hy).ext e) (fun x hx => by obtain ⟨y, hy, e⟩ := h' x hx; exact (Sp.mem hq js hy).ext e)
/-- no row but is 0 in the column -/
theorem act_none {q : Int} {w : Nat → Row} {lo n j : Nat} {js : List Nat} (h : ∀ a, lo ≤ a → a < n → q ∣ w a j) : rkC q (j :: js) (act w lo n) = rkC q js (act w lo n) :=
  rkC_n (pv_all (fun r hr => by obtain ⟨a, h1, h2, rfl⟩ := act_mem.mp hr; exact h a h1 h2))
/-- one step of elimination: rows at, lo exchanged, the others made 0 in the column, up to factors -/
theorem act_step {q : Int} (hq : Dom q) {w u : Nat → Row} {lo n p j : Nat} {js : List Nat} (hp : lo ≤ p ∧ p < n) (hn : ¬ q ∣ w p j)
    (hu : ∀ a, lo < a → a < n → ∃ g : Int, (¬ q ∣ g) ∧ ∀ c ∈ js, q ∣ g * u a c - el (w p) j (if a = p then w lo else w a) c) : rkC q (j :: js) (act w lo n) = 1 + rkC q js (act u (lo + 1) n) := by
  refine el_rank hq (x := w p) (act_mem.mpr ⟨p, hp.1, hp.2, rfl⟩) hn (fun y hy => ?_) (fun y hy => ?_)
  · obtain ⟨a, h1, h2, rfl⟩ := act_mem.mp hy
    obtain ⟨g, hg, hc⟩ := hu a (by omega) h2
    refine Sp.div hq hg hc (Sp.mem hq js ?_)
    refine List.mem_map.mpr ⟨_, act_mem.mpr (?_ : ∃ b, lo ≤ b ∧ b < n ∧ (if a = p then w lo else w a) = w b), rfl⟩
    by_cases e : a = p
    · rw [if_pos e]; exact ⟨lo, Nat.le_refl _, by omega, rfl⟩
    · rw [if_neg e]; exact ⟨a, by omega, h2, rfl⟩
  · obtain ⟨a, h1, h2, rfl⟩ := act_mem.mp hy
    by_cases e : a = p
    · subst e
      exact Sp.zero hq (fun c _ => ⟨0, by simp only [el]; grind⟩)
    · -- a = lo stands at p, else at its own place
      by_cases e2 : a = lo
      · subst e2
        obtain ⟨g, hg, hc⟩ := hu p (by omega) hp.2
        rw [if_pos rfl] at hc
        refine Sp.mulr (g := g) (y := u p) (fun c hc1 => ?_) (Sp.mem hq js (act_mem.mpr ⟨p, by omega, hp.2, rfl⟩))
        obtain ⟨z, hz⟩ := hc c hc1
        exact ⟨-z, by grind⟩
      · obtain ⟨g, hg, hc⟩ := hu a (by omega) h2
        rw [if_neg e] at hc
        refine Sp.mulr (g := g) (y := u a) (fun c hc1 => ?_) (Sp.mem hq js (act_mem.mpr ⟨a, by omega, h2, rfl⟩))
        obtain ⟨z, hz⟩ := hc c hc1
        exact ⟨-z, by grind⟩
theorem dom0 : Dom 0 := by
  refine ⟨by decide, fun a b h => ?_⟩
  rw [Int.zero_dvd] at h
  rw [Int.zero_dvd, Int.zero_dvd]
  exact Int.mul_eq_zero.mp h
theorem mul_bd {x y B C : Int} (hx : -B ≤ x ∧ x ≤ B) (hy : -C ≤ y ∧ y ≤ C) : -(B * C) ≤ x * y ∧ x * y ≤ B * C := by
  have h1 : x.natAbs ≤ B.natAbs := by omega
  have h2 : y.natAbs ≤ C.natAbs := by omega
  have h3 := Nat.mul_le_mul h1 h2
  rw [← Int.natAbs_mul, ← Int.natAbs_mul] at h3
  have h4 : 0 ≤ B * C := Int.mul_nonneg (by omega) (by omega)
  omega
end
section
/-! THE REFERENCE, first part: small methods -/
/-- an arrangement: dimensions d, planes n, coefficients v -/
def okArr (d n : Nat) (v : Nat → Nat → Int) : Prop := 2 ≤ d ∧ d ≤ 4 ∧ n ≤ 9 ∧ (∀ i j, i < n → -3 ≤ v i j ∧ v i j ≤ 3) ∧ ∀ i j, i < n → d ≤ j → v i j = 0
/-- the reference's row 'now' holds it -/
def mArr (S : amS) (d n : Nat) (v : Nat → Nat → Int) : Prop := S.2.1 1 36 = nI d ∧ S.2.1 1 37 = nI n ∧ ∀ i j, i < n → j < 4 → S.2.1 1 (4 * i + j) = i32 (v i j)
set_option maxRecDepth 100000 in
set_option maxHeartbeats 4000000 in
theorem k_in (S : amS) (v a b : Int32) : X shM mX11_in 0 [.int v, .int a, .int b] [] S (fun r S' => r = some (.int (zB (decide (a ≤ v ∧ v ≤ b)))) ∧ S' = S) := by
  refine x_iload_n dX11_in_0 rfl ?_
  refine x_iload_n dX11_in_1 rfl ?_
  refine x_icmp_lt 14 dX11_in_2 rfl (fun c2 => ?_) (fun c2 => ?_)
  · refine x_ic _ ic_0 dX11_in_14 ?_
    first | refine x_zret0 dX11_in_15 rfl ?_
    exact ⟨by rw [zB_f]; exact decide_eq_false (fun z => Int32.not_lt.mpr z.1 c2), rfl⟩
  · refine x_iload_n dX11_in_5 rfl ?_
    refine x_iload_n dX11_in_6 rfl ?_
    refine x_icmp_gt 14 dX11_in_7 rfl (fun c7 => ?_) (fun c7 => ?_)
    · refine x_ic _ ic_0 dX11_in_14 ?_
      first | refine x_zret0 dX11_in_15 rfl ?_
      exact ⟨by rw [zB_f]; exact decide_eq_false (fun z => Int32.not_lt.mpr z.2 c7), rfl⟩
    · refine x_ic _ ic_1 dX11_in_10 ?_
      refine x_goto 15 dX11_in_11 rfl ?_
      first | refine x_zret1 dX11_in_15 rfl ?_ | refine x_zret0 dX11_in_15 rfl ?_
      exact ⟨by rw [zB_t]; exact decide_eq_true ⟨Int32.not_lt.mp c2, Int32.not_lt.mp c7⟩, rfl⟩
set_option maxRecDepth 100000 in
set_option maxHeartbeats 4000000 in
theorem k_has (S : amS) (s k : Nat) (hs : s < 512) (hk : k < 9) : X shM mX11_has 0 [.int (nI s), .int (nI k)] [] S (fun r S' => r = some (.int (zB (s.testBit k))) ∧ S' = S) := by
  refine x_iload_n dX11_has_0 rfl ?_
  refine x_iload_n dX11_has_1 rfl ?_
  refine x_ishrN dX11_has_2 (by omega) (by omega) ?_
  refine x_ic _ ic_1 dX11_has_3 ?_
  refine x_iandN dX11_has_4 ?_
  refine x_ic _ ic_1 dX11_has_5 ?_
  have hle : s / 2 ^ k &&& 1 ≤ 1 := Nat.and_le_right
  refine x_icmp_neN 13 dX11_has_6 rfl (by omega) (by omega) (fun c6 => ?_) (fun c6 => ?_)
  · refine x_ic _ ic_0 dX11_has_13 ?_
    refine x_zret0 dX11_has_14 rfl ?_
    exact ⟨by rw [zB_f]; exact Bool.eq_false_iff.mpr (fun z => c6 ((tb_iff s k).mpr z)), rfl⟩
  · refine x_ic _ ic_1 dX11_has_9 ?_
    refine x_goto 14 dX11_has_10 rfl ?_
    first | refine x_zret1 dX11_has_14 rfl ?_ | refine x_zret0 dX11_has_14 rfl ?_
    exact ⟨by rw [zB_t ((tb_iff s k).mp c6)], rfl⟩
set_option maxRecDepth 100000 in
set_option maxHeartbeats 4000000 in
theorem k_bits_l (S : amS) (t : Nat) (ht : t < 512) : ∀ (f s m : Nat), s ≤ f → s < 512 → m + pc9 s = pc9 t → X shM mX11_bits 4 [.int (nI t), .int (nI m), .int (nI s)] [] S (fun r S' => r = some (.int (nI (pc9 t))) ∧ S' = S) := by
  intro f
  induction f with
  | zero =>
    intro s m h1 h2 h3
    obtain rfl : s = 0 := by omega
    refine x_iload_n dX11_bits_4 rfl ?_
    refine x_if_eqN 20 dX11_bits_5 rfl (by omega) (fun c5 => ?_) (fun c5 => ?_)
    · refine x_iload_n dX11_bits_20 rfl ?_
      refine x_iretI dX11_bits_21 rfl ?_
      exact ⟨by rw [← h3]; rfl, rfl⟩
    · exact absurd rfl c5
  | succ f ih =>
    intro s m h1 h2 h3
    have hm : m ≤ 9 := by have := pc9_le t ht; omega
    refine x_iload_n dX11_bits_4 rfl ?_
    refine x_if_eqN 20 dX11_bits_5 rfl (by omega) (fun c5 => ?_) (fun c5 => ?_)
    · refine x_iload_n dX11_bits_20 rfl ?_
      refine x_iretI dX11_bits_21 rfl ?_
      subst c5
      exact ⟨by rw [← h3]; rfl, rfl⟩
    · refine x_iincN dX11_bits_8 rfl rfl ?_
      refine x_iload_n dX11_bits_11 rfl ?_
      refine x_iload_n dX11_bits_12 rfl ?_
      refine x_ic _ ic_1 dX11_bits_13 ?_
      refine x_isubN dX11_bits_14 (by omega) ?_
      refine x_iandN dX11_bits_15 ?_
      refine x_istore_n dX11_bits_16 rfl ?_
      refine x_goto 4 dX11_bits_17 rfl ?_
      obtain ⟨q1, q2⟩ := pc9_low s h2 c5
      exact ih (s &&& (s - 1)) (m + 1) (by omega) (by omega) (by omega)
set_option maxRecDepth 100000 in
set_option maxHeartbeats 4000000 in
theorem k_bits (S : amS) (t : Nat) (ht : t < 512) : X shM mX11_bits 0 [.int (nI t), .null, .null] [] S (fun r S' => r = some (.int (nI (pc9 t))) ∧ S' = S) := by
  refine x_ic _ ic_0 dX11_bits_0 ?_
  refine x_istore_n dX11_bits_1 rfl ?_
  refine x_iload_n dX11_bits_2 rfl ?_
  refine x_istore_n dX11_bits_3 rfl ?_
  exact k_bits_l S t ht t t 0 (Nat.le_refl t) ht (Nat.zero_add _)
set_option maxRecDepth 100000 in
set_option maxHeartbeats 4000000 in
theorem k_all (S : amS) (n : Nat) (hn : n ≤ 9) (h1 : S.2.1 1 37 = nI n) : X shM mX11_all 0 [.ref 0] [] S (fun r S' => r = some (.int (nI (2 ^ n - 1))) ∧ S' = S) := by
  refine x_ic _ ic_1 dX11_all_0 ?_
  refine x_aload_n dX11_all_1 rfl ?_
  refine x_getR dX11_all_2 fl_X11_7 rfl ?_
  refine x_bi _ bi_37 dX11_all_5 ?_
  refine x_ialdN dX11_all_7 rfl rfl (by omega) (h1) ?_
  refine x_ishl1 dX11_all_8 (by omega) ?_
  have hp := Nat.two_pow_pos n
  refine x_ic _ ic_1 dX11_all_9 ?_
  refine x_isubN dX11_all_10 (by omega) ?_
  refine x_iretI dX11_all_11 rfl ?_
  exact ⟨rfl, rfl⟩
set_option maxRecDepth 100000 in
set_option maxHeartbeats 4000000 in
theorem k_refuses (S : amS) (y : Int32) (k : Nat) (hk : k < 3) (hy : i32 (-2) - y = nI k) : X shM mX11_refuses 0 [.ref 0, .int y] [] S (fun r S' => r = some (.int y) ∧ S' = sA S 4 (upd (S.2.1 4) k (S.2.1 4 k + nI 1))) := by
  refine x_aload_n dX11_refuses_0 rfl ?_
  refine x_getR dX11_refuses_1 fl_X11_19 rfl ?_
  refine x_bi _ bi_m2 dX11_refuses_4 ?_
  refine x_iload_n dX11_refuses_6 rfl ?_
  refine x_isub dX11_refuses_7 ?_
  refine x_top hy ?_
  refine x_dup2 dX11_refuses_8 rfl rfl ?_
  refine x_ialdN dX11_refuses_9 rfl rfl (by omega) (rfl) ?_
  refine x_ic _ ic_1 dX11_refuses_10 ?_
  refine x_iadd dX11_refuses_11 ?_
  refine x_iastN dX11_refuses_12 rfl rfl (by omega) ?_
  refine x_iload_n dX11_refuses_13 rfl ?_
  refine x_iretI dX11_refuses_14 rfl ?_
  exact ⟨rfl, rfl⟩
theorem in_all (x : Int32) {N : Nat} (hN : N < 2 ^ 31) : (decide (nI 0 ≤ x ∧ x ≤ nI N)) = true ↔ ∃ k, k ≤ N ∧ x = nI k := by
  rw [decide_eq_true_eq]
  constructor
  · intro ⟨h1, h2⟩
    obtain ⟨j, h3, h4⟩ := nI_of2 (M := nI N) (n := N) (nI_toInt hN) (Int32.not_lt.mpr h1) h2
    exact ⟨j, h3, h4⟩
  · rintro ⟨k, h1, rfl⟩
    exact ⟨nI_le (Nat.zero_le _) (by omega), nI_le h1 hN⟩
set_option maxRecDepth 100000 in
set_option maxHeartbeats 4000000 in
theorem k_isSet (S : amS) (n : Nat) (hn : n ≤ 9) (h1 : S.2.1 1 37 = nI n) (x : Int32) : X shM mX11_isSet 0 [.ref 0, .int x] [] S (fun r S' => r = some (.int (zB (decide (nI 0 ≤ x ∧ x ≤ nI (2 ^ n - 1))))) ∧ S' = S) := by
  refine x_iload_n dX11_isSet_0 rfl ?_
  refine x_ic _ ic_0 dX11_isSet_1 ?_
  refine x_aload_n dX11_isSet_2 rfl ?_
  refine x_v0d (N := mX11_all) dX11_isSet_3 ml_X11_109 nv_X11_all rfl rfl (k_all S n hn h1) ?_
  refine x_s3d (N := mX11_in) dX11_isSet_6 ml_X11_113 ns_X11_in rfl (k_in S _ _ _) ?_
  refine x_zretB dX11_isSet_9 rfl ?_
  exact ⟨rfl, rfl⟩
end
section
/-! THE REFERENCE, second part: ranks by elimination -/
set_option maxRecDepth 100000 in
set_option maxHeartbeats 4000000 in
theorem k_common_l (S : amS) (a b : Int) : ∀ (f x y : Nat) (z : Value), y ≤ f → x ≤ 4611686018427387904 → y ≤ 4611686018427387904 → Nat.gcd x y = Int.gcd a b → X shM mX11_common 28 [.long (i64 a), .null, .long (i64 b), .null, .long (i64 x), .null, .long (i64 y), .null, z, .null] [] S (fun r S' => r = some (.long (i64 (Int.gcd a b))) ∧ S' = S) := by
  intro f
  induction f with
  | zero =>
    intro x y z h1 h2 h3 h4
    obtain rfl : y = 0 := by omega
    refine x_lload dX11_common_28 rfl ?_
    refine x_lc _ lc_0 dX11_common_30 ?_
    refine x_lcmp_eq 53 dX11_common_31 dX11_common_32 rfl (by omega) (by omega) (fun c32 => ?_) (fun c32 => ?_)
    · refine x_lload dX11_common_53 rfl ?_
      refine x_lret dX11_common_55 rfl ?_
      exact ⟨by rw [← h4, Nat.gcd_zero_right], rfl⟩
    · exact absurd rfl c32
  | succ f ih =>
    intro x y z h1 h2 h3 h4
    refine x_lload dX11_common_28 rfl ?_
    refine x_lc _ lc_0 dX11_common_30 ?_
    refine x_lcmp_eq 53 dX11_common_31 dX11_common_32 rfl (by omega) (by omega) (fun c32 => ?_) (fun c32 => ?_)
    · obtain rfl : y = 0 := by omega
      refine x_lload dX11_common_53 rfl ?_
      refine x_lret dX11_common_55 rfl ?_
      exact ⟨by rw [← h4, Nat.gcd_zero_right], rfl⟩
    · refine x_lload dX11_common_35 rfl ?_
      refine x_lload dX11_common_37 rfl ?_
      refine x_lremI dX11_common_39 (by omega) (by omega) (by omega) ?_
      refine x_lstore dX11_common_40 rfl ?_
      refine x_lload dX11_common_42 rfl ?_
      refine x_lstore dX11_common_44 rfl ?_
      refine x_lload dX11_common_46 rfl ?_
      refine x_lstore dX11_common_48 rfl ?_
      refine x_goto 28 dX11_common_50 rfl ?_
      have hy : 0 < y := by omega
      have hlt := Nat.mod_lt x hy
      rw [show ((x : Int).tmod (y : Int)) = ((x % y : Nat) : Int) from (Int.ofNat_tmod x y).symm]
      exact ih y (x % y) (.long (i64 ((x % y : Nat) : Int))) (by omega) h3 (by omega) (by rw [← h4, Nat.gcd_comm x y, Nat.gcd_rec y x, Nat.gcd_comm])
set_option maxRecDepth 100000 in
set_option maxHeartbeats 4000000 in
theorem k_common (S : amS) (a b : Int) (ha : -4611686018427387904 ≤ a ∧ a ≤ 4611686018427387904) (hb : -4611686018427387904 ≤ b ∧ b ≤ 4611686018427387904) : X shM mX11_common 0 [.long (i64 a), .null, .long (i64 b), .null, .null, .null, .null, .null, .null, .null] [] S (fun r S' => r = some (.long (i64 (Int.gcd a b))) ∧ S' = S) := by
  refine x_lload_n dX11_common_0 rfl ?_
  refine x_lc _ lc_0 dX11_common_1 ?_
  refine x_lcmp_ge 11 dX11_common_2 dX11_common_3 rfl (by omega) (by omega) (fun c3 => ?_) (fun c3 => ?_)
  · refine x_lload_n dX11_common_11 rfl ?_
    refine x_topl (b := i64 ((a.natAbs : Nat) : Int)) (congrArg i64 (by omega)) ?_
    refine x_lstore dX11_common_12 rfl ?_
    refine x_lload_n dX11_common_14 rfl ?_
    refine x_lc _ lc_0 dX11_common_15 ?_
    refine x_lcmp_ge 25 dX11_common_16 dX11_common_17 rfl (by omega) (by omega) (fun c17 => ?_) (fun c17 => ?_)
    · refine x_lload_n dX11_common_25 rfl ?_
      refine x_topl (b := i64 ((b.natAbs : Nat) : Int)) (congrArg i64 (by omega)) ?_
      refine x_lstore dX11_common_26 rfl ?_
      exact k_common_l S a b b.natAbs a.natAbs b.natAbs .null (Nat.le_refl _) (by omega) (by omega) rfl
    · refine x_lload_n dX11_common_20 rfl ?_
      refine x_lnegI dX11_common_21 ?_
      refine x_goto 26 dX11_common_22 rfl ?_
      refine x_topl (b := i64 ((b.natAbs : Nat) : Int)) (congrArg i64 (by omega)) ?_
      refine x_lstore dX11_common_26 rfl ?_
      exact k_common_l S a b b.natAbs a.natAbs b.natAbs .null (Nat.le_refl _) (by omega) (by omega) rfl
  · refine x_lload_n dX11_common_6 rfl ?_
    refine x_lnegI dX11_common_7 ?_
    refine x_goto 12 dX11_common_8 rfl ?_
    refine x_topl (b := i64 ((a.natAbs : Nat) : Int)) (congrArg i64 (by omega)) ?_
    refine x_lstore dX11_common_12 rfl ?_
    refine x_lload_n dX11_common_14 rfl ?_
    refine x_lc _ lc_0 dX11_common_15 ?_
    refine x_lcmp_ge 25 dX11_common_16 dX11_common_17 rfl (by omega) (by omega) (fun c17 => ?_) (fun c17 => ?_)
    · refine x_lload_n dX11_common_25 rfl ?_
      refine x_topl (b := i64 ((b.natAbs : Nat) : Int)) (congrArg i64 (by omega)) ?_
      refine x_lstore dX11_common_26 rfl ?_
      exact k_common_l S a b b.natAbs a.natAbs b.natAbs .null (Nat.le_refl _) (by omega) (by omega) rfl
    · refine x_lload_n dX11_common_20 rfl ?_
      refine x_lnegI dX11_common_21 ?_
      refine x_goto 26 dX11_common_22 rfl ?_
      refine x_topl (b := i64 ((b.natAbs : Nat) : Int)) (congrArg i64 (by omega)) ?_
      refine x_lstore dX11_common_26 rfl ?_
      exact k_common_l S a b b.natAbs a.natAbs b.natAbs .null (Nat.le_refl _) (by omega) (by omega) rfl
end
section
/-! THE REFERENCE, third part: the matrix 'work' -/
theorem sL_sL (S : amS) (o : Nat) (f g : Nat → Int64) : sL (sL S o f) o g = sL S o g := by
  show (S.1, S.2.1, S.2.2.1, va_up (va_up S.2.2.2 o f) o g) = (S.1, S.2.1, S.2.2.1, va_up S.2.2.2 o g)
  rw [bx_uu]
theorem sL_at (S : amS) (o : Nat) (f : Nat → Int64) : (sL S o f).2.2.2 o = f := va_up_s _ _ _
theorem sL_self (S : amS) (o : Nat) : S = sL S o (S.2.2.2 o) := by
  have : va_up S.2.2.2 o (S.2.2.2 o) = S.2.2.2 := by
    funext j
    by_cases h : j = o
    · subst h; exact va_up_s _ _ _
    · exact va_up_n _ _ h
  show S = (S.1, S.2.1, S.2.2.1, va_up S.2.2.2 o (S.2.2.2 o))
  rw [this]
theorem sA_sA (S : amS) (o : Nat) (f g : Nat → Int32) : sA (sA S o f) o g = sA S o g := by
  show (S.1, va_up (va_up S.2.1 o f) o g, S.2.2) = (S.1, va_up S.2.1 o g, S.2.2)
  rw [bx_uu]
theorem sA_at (S : amS) (o : Nat) (f : Nat → Int32) : (sA S o f).2.1 o = f := va_up_s _ _ _
theorem sA_self (S : amS) (o : Nat) : S = sA S o (S.2.1 o) := by
  have : va_up S.2.1 o (S.2.1 o) = S.2.1 := by
    funext j
    by_cases h : j = o
    · subst h; exact va_up_s _ _ _
    · exact va_up_n _ _ h
  show S = (S.1, va_up S.2.1 o (S.2.1 o), S.2.2)
  rw [this]
/-- rows of k columns: f holds the matrix w of n rows, no entry above B -/
def Mx (k : Nat) (f : Nat → Int64) (n : Nat) (w : Nat → Nat → Int) (B : Int) : Prop := ∀ a c, a < n → c < k → f (k * a + c) = i64 (w a c) ∧ -B ≤ w a c ∧ w a c ≤ B
def set2 (w : Nat → Nat → Int) (a c : Nat) (x : Int) : Nat → Nat → Int := fun i j => if i = a ∧ j = c then x else w i j
theorem Mx_ix {k a c a' c' : Nat} (hc : c < k) (hc' : c' < k) (h : k * a + c = k * a' + c') : a = a' ∧ c = c' := by
  have h1 : (k * a + c) / k = a := by rw [Nat.mul_add_div (by omega), Nat.div_eq_of_lt hc]; rfl
  have h2 : (k * a' + c') / k = a' := by rw [Nat.mul_add_div (by omega), Nat.div_eq_of_lt hc']; rfl
  have h3 : a = a' := by rw [← h1, ← h2, h]
  subst h3
  exact ⟨rfl, by omega⟩
theorem Mx.set {k : Nat} {f : Nat → Int64} {n : Nat} {w : Nat → Nat → Int} {B : Int} (h : Mx k f n w B) {a c : Nat} (hc : c < k) {x : Int} (hx : -B ≤ x ∧ x ≤ B) : Mx k (vp_updL f (k * a + c) (i64 x)) n (set2 w a c x) B := by
  intro i j hi hj
  by_cases e : i = a ∧ j = c
  · obtain ⟨rfl, rfl⟩ := e
    simp only [vp_updL, set2, and_self, if_true]
    exact ⟨trivial, hx⟩
  · have e2 : k * i + j ≠ k * a + c := fun z => e (Mx_ix hj hc z)
    simp only [vp_updL, set2, e, e2, if_false]
    exact h i j hi hj
theorem Mx.ext {k : Nat} {f : Nat → Int64} {n : Nat} {w u : Nat → Nat → Int} {B : Int} (h : Mx k f n w B) (e : ∀ i j, i < n → j < k → u i j = w i j) : Mx k f n u B := by
  intro i j hi hj
  rw [e i j hi hj]
  exact h i j hi hj
theorem Mx.mono {k : Nat} {f : Nat → Int64} {n : Nat} {w : Nat → Nat → Int} {B C : Int} (h : Mx k f n w B) (e : B ≤ C) : Mx k f n w C := by
  intro i j hi hj
  obtain ⟨h1, h2, h3⟩ := h i j hi hj
  exact ⟨h1, by omega, by omega⟩
def gcdR (w : Nat → Int) : Nat → Nat
  | 0 => 0
  | j + 1 => Int.gcd (gcdR w j) (w j)
theorem gcdR_dvd (w : Nat → Int) : ∀ (j c : Nat), c < j → (gcdR w j : Int) ∣ w c := by
  intro j
  induction j with
  | zero => intro c h; omega
  | succ j ih =>
    intro c h
    by_cases hc : c = j
    · subst hc
      exact Int.gcd_dvd_right _ _
    · exact Int.dvd_trans (Int.gcd_dvd_left _ _) (ih c (by omega))
theorem gcd_le {a b : Int} {B : Int} (hB : 0 ≤ B) (ha : -B ≤ a ∧ a ≤ B) (hb : -B ≤ b ∧ b ≤ B) : (Int.gcd a b : Int) ≤ B := by
  by_cases h : a = 0
  · subst h
    have : Int.gcd 0 b = b.natAbs := Int.gcd_zero_left b
    omega
  · have h1 : Int.gcd a b ∣ a.natAbs := Int.gcd_dvd_natAbs_left a b
    have := Nat.le_of_dvd (by omega) h1
    omega
theorem gcdR_le (w : Nat → Int) {B : Int} (hB : 0 ≤ B) : ∀ j, (∀ c, c < j → -B ≤ w c ∧ w c ≤ B) → (gcdR w j : Int) ≤ B := by
  intro j
  induction j with
  | zero => intro _; exact hB
  | succ j ih =>
    intro h
    have h1 := ih (fun c hc => h c (by omega))
    exact gcd_le hB ⟨by omega, h1⟩ (h j (by omega))
set_option maxRecDepth 100000 in
set_option maxHeartbeats 4000000 in
theorem k_swap_l (S : amS) (n a b : Nat) (w : Nat → Nat → Int) (B : Int) (hn : n ≤ 9) (ha : a < n) (hb : b < n) : ∀ (k j : Nat) (f : Nat → Int64) (u : Nat → Nat → Int) (z : Value), j + k = 4 → Mx 4 f n u B → (∀ i c, i < n → c < 4 → u i c = if c < j then (if i = a then w b c else if i = b then w a c else w i c) else w i c) → X shM mX11_swapRows 2 [.ref 0, .int (nI a), .int (nI b), .int (nI j), z, .null] [] (sL S 7 f) (fun r S' => r = none ∧ ∃ f', S' = sL S 7 f' ∧ Mx 4 f' n (fun i => if i = a then w b else if i = b then w a else w i) B) := by
  intro k
  induction k with
  | zero =>
    intro j f u z h1 h2 h3
    obtain rfl : j = 4 := by omega
    refine x_iload_n dX11_swapRows_2 rfl ?_
    refine x_ic _ ic_4 dX11_swapRows_3 ?_
    refine x_icmp_geN 57 dX11_swapRows_4 rfl (by omega) (by omega) (fun c4 => ?_) (fun c4 => ?_)
    · refine x_ret dX11_swapRows_57 rfl ?_
      exact ⟨rfl, f, rfl, h2.ext (fun i c hi hc => by have e0 := h3 i c hi hc; grind)⟩
    · exact absurd c4 (by omega)
  | succ k ih =>
    intro j f u z h1 h2 h3
    have hj : j < 4 := by omega
    obtain ⟨qa, qa2⟩ := h2 a j ha hj
    obtain ⟨qb, qb2⟩ := h2 b j hb hj
    refine x_iload_n dX11_swapRows_2 rfl ?_
    refine x_ic _ ic_4 dX11_swapRows_3 ?_
    refine x_icmp_geN 57 dX11_swapRows_4 rfl (by omega) (by omega) (fun c4 => ?_) (fun c4 => ?_)
    · exact absurd c4 (by omega)
    · refine x_aload_n dX11_swapRows_7 rfl ?_
      refine x_getR dX11_swapRows_8 fl_X11_32 rfl ?_
      refine x_ic _ ic_4 dX11_swapRows_11 ?_
      refine x_iload_n dX11_swapRows_12 rfl ?_
      refine x_imulN dX11_swapRows_13 ?_
      refine x_iload_n dX11_swapRows_14 rfl ?_
      refine x_iaddN dX11_swapRows_15 ?_
      refine x_laldN dX11_swapRows_16 rfl rfl (by omega) (qa) ?_
      refine x_lstore dX11_swapRows_17 rfl ?_
      refine x_aload_n dX11_swapRows_19 rfl ?_
      refine x_getR dX11_swapRows_20 fl_X11_32 rfl ?_
      refine x_ic _ ic_4 dX11_swapRows_23 ?_
      refine x_iload_n dX11_swapRows_24 rfl ?_
      refine x_imulN dX11_swapRows_25 ?_
      refine x_iload_n dX11_swapRows_26 rfl ?_
      refine x_iaddN dX11_swapRows_27 ?_
      refine x_aload_n dX11_swapRows_28 rfl ?_
      refine x_getR dX11_swapRows_29 fl_X11_32 rfl ?_
      refine x_ic _ ic_4 dX11_swapRows_32 ?_
      refine x_iload_n dX11_swapRows_33 rfl ?_
      refine x_imulN dX11_swapRows_34 ?_
      refine x_iload_n dX11_swapRows_35 rfl ?_
      refine x_iaddN dX11_swapRows_36 ?_
      refine x_laldN dX11_swapRows_37 rfl rfl (by omega) (qb) ?_
      refine x_lastN dX11_swapRows_38 rfl rfl (by omega) ?_
      refine x_aload_n dX11_swapRows_39 rfl ?_
      refine x_getR dX11_swapRows_40 fl_X11_32 rfl ?_
      refine x_ic _ ic_4 dX11_swapRows_43 ?_
      refine x_iload_n dX11_swapRows_44 rfl ?_
      refine x_imulN dX11_swapRows_45 ?_
      refine x_iload_n dX11_swapRows_46 rfl ?_
      refine x_iaddN dX11_swapRows_47 ?_
      refine x_lload dX11_swapRows_48 rfl ?_
      refine x_lastN dX11_swapRows_50 rfl rfl (by omega) ?_
      refine x_iincN dX11_swapRows_51 rfl rfl ?_
      refine x_goto 2 dX11_swapRows_54 rfl ?_
      rw [sL_sL, sL_sL, sL_at, sL_at]
      refine ih (j + 1) _ (set2 (set2 u a j (u b j)) b j (u a j)) _ (by omega) ((h2.set hj qb2).set hj qa2) (fun i c hi hc => ?_)
      have e0 := h3 i c hi hc
      have ea := h3 a j ha hj
      have eb := h3 b j hb hj
      simp only [set2]
      grind
set_option maxRecDepth 100000 in
set_option maxHeartbeats 4000000 in
theorem k_swapRows (S : amS) (n a b : Nat) (w : Nat → Nat → Int) (B : Int) (hn : n ≤ 9) (ha : a < n) (hb : b < n) (hm : Mx 4 (S.2.2.2 7) n w B) : X shM mX11_swapRows 0 [.ref 0, .int (nI a), .int (nI b), .null, .null, .null] [] S (fun r S' => r = none ∧ ∃ f', S' = sL S 7 f' ∧ Mx 4 f' n (fun i => if i = a then w b else if i = b then w a else w i) B) := by
  refine x_ic _ ic_0 dX11_swapRows_0 ?_
  refine x_istore_n dX11_swapRows_1 rfl ?_
  refine x_st (sL_self S 7) ?_
  exact k_swap_l S n a b w B hn ha hb 4 0 _ w .null (by omega) hm (fun i c _ _ => by rw [if_neg (Nat.not_lt_zero c)])
set_option maxRecDepth 100000 in
set_option maxHeartbeats 4000000 in
theorem k_shr_1 (S : amS) (n row : Nat) (w : Nat → Nat → Int) (B : Int) (hB : 0 ≤ B ∧ B ≤ 4611686018427387904) (hn : n ≤ 9) (hr : row < n) (hm : Mx 4 (S.2.2.2 7) n w B) (Q : Option Value → amS → Prop) (hq : X shM mX11_shrink 33 [.ref 0, .int (nI row), .long (i64 (gcdR (w row) 4)), .null, .int (nI 4)] [] S Q) : ∀ (k j : Nat), j + k = 4 → X shM mX11_shrink 5 [.ref 0, .int (nI row), .long (i64 (gcdR (w row) j)), .null, .int (nI j)] [] S Q := by
  intro k
  induction k with
  | zero =>
    intro j h1
    obtain rfl : j = 4 := by omega
    refine x_iload dX11_shrink_5 rfl ?_
    refine x_ic _ ic_4 dX11_shrink_7 ?_
    refine x_icmp_geN 33 dX11_shrink_8 rfl (by omega) (by omega) (fun c8 => ?_) (fun c8 => ?_)
    · exact hq
    · exact absurd c8 (by omega)
  | succ k ih =>
    intro j h1
    have hj : j < 4 := by omega
    obtain ⟨qa, qa2⟩ := hm row j hr hj
    have hg := gcdR_le (w row) hB.1 j (fun c hc => (hm row c hr (by omega)).2)
    refine x_iload dX11_shrink_5 rfl ?_
    refine x_ic _ ic_4 dX11_shrink_7 ?_
    refine x_icmp_geN 33 dX11_shrink_8 rfl (by omega) (by omega) (fun c8 => ?_) (fun c8 => ?_)
    · exact absurd c8 (by omega)
    · refine x_lload_n dX11_shrink_11 rfl ?_
      refine x_aload_n dX11_shrink_12 rfl ?_
      refine x_getR dX11_shrink_13 fl_X11_32 rfl ?_
      refine x_ic _ ic_4 dX11_shrink_16 ?_
      refine x_iload_n dX11_shrink_17 rfl ?_
      refine x_imulN dX11_shrink_18 ?_
      refine x_iload dX11_shrink_19 rfl ?_
      refine x_iaddN dX11_shrink_21 ?_
      refine x_laldN dX11_shrink_22 rfl rfl (by omega) (qa) ?_
      refine x_s2d (N := mX11_common) dX11_shrink_23 ml_X11_93 ns_X11_common rfl (k_common S (gcdR (w row) j) (w row j) ⟨by omega, by omega⟩ ⟨by omega, by omega⟩) ?_
      refine x_lstore_n dX11_shrink_26 rfl ?_
      refine x_iincN dX11_shrink_27 rfl rfl ?_
      refine x_goto 5 dX11_shrink_30 rfl ?_
      exact ih (j + 1) (by omega)
set_option maxRecDepth 100000 in
set_option maxHeartbeats 4000000 in
theorem k_shr_2 (S : amS) (n row : Nat) (w : Nat → Nat → Int) (B : Int) (hB : 0 ≤ B ∧ B ≤ 4611686018427387904) (hn : n ≤ 9) (hr : row < n) (hm : Mx 4 (S.2.2.2 7) n w B) (g : Nat) (hg : 1 < g) (hgB : (g : Int) ≤ B) (hd : ∀ c, c < 4 → (g : Int) ∣ w row c) : ∀ (k j : Nat) (f : Nat → Int64) (u : Nat → Nat → Int), j + k = 4 → Mx 4 f n u B → (∀ i c, i < n → c < 4 → u i c = if i = row ∧ c < j then (w row c).tdiv g else w i c) → X shM mX11_shrink 36 [.ref 0, .int (nI row), .long (i64 g), .null, .int (nI j)] [] (sL S 7 f) (fun r S' => r = none ∧ ∃ f' w' g, S' = sL S 7 f' ∧ 1 ≤ g ∧ (∀ c, c < 4 → w row c = g * w' c) ∧ Mx 4 f' n (va_up w row w') B) := by
  intro k
  induction k with
  | zero =>
    intro j f u h1 h2 h3
    obtain rfl : j = 4 := by omega
    refine x_iload dX11_shrink_36 rfl ?_
    refine x_ic _ ic_4 dX11_shrink_38 ?_
    refine x_icmp_geN 69 dX11_shrink_39 rfl (by omega) (by omega) (fun c39 => ?_) (fun c39 => ?_)
    · refine x_ret dX11_shrink_69 rfl ?_
      refine ⟨rfl, f, fun c => (w row c).tdiv g, (g : Int), rfl, by omega, fun c hc => (Int.mul_tdiv_cancel' (hd c hc)).symm, h2.ext (fun i c hi hc => ?_)⟩
      rw [h3 i c hi hc]
      by_cases e : i = row
      · subst e; rw [va_up_s, if_pos ⟨rfl, by omega⟩]
      · rw [va_up_n _ _ e, if_neg (fun z => e z.1)]
    · exact absurd c39 (by omega)
  | succ k ih =>
    intro j f u h1 h2 h3
    have hj : j < 4 := by omega
    obtain ⟨qa, qa2⟩ := h2 row j hr hj
    obtain ⟨-, qb2⟩ := hm row j hr hj
    have e0 := h3 row j hr hj
    rw [if_neg (fun z => Nat.lt_irrefl _ z.2)] at e0
    have hbd := tdiv_bd (w row j) g
    refine x_iload dX11_shrink_36 rfl ?_
    refine x_ic _ ic_4 dX11_shrink_38 ?_
    refine x_icmp_geN 69 dX11_shrink_39 rfl (by omega) (by omega) (fun c39 => ?_) (fun c39 => ?_)
    · exact absurd c39 (by omega)
    · refine x_lload_n dX11_shrink_42 rfl ?_
      refine x_lc _ lc_1 dX11_shrink_43 ?_
      refine x_lcmp_le 69 dX11_shrink_44 dX11_shrink_45 rfl (by omega) (by omega) (fun c45 => ?_) (fun c45 => ?_)
      · exact absurd c45 (by omega)
      · refine x_aload_n dX11_shrink_48 rfl ?_
        refine x_getR dX11_shrink_49 fl_X11_32 rfl ?_
        refine x_ic _ ic_4 dX11_shrink_52 ?_
        refine x_iload_n dX11_shrink_53 rfl ?_
        refine x_imulN dX11_shrink_54 ?_
        refine x_iload dX11_shrink_55 rfl ?_
        refine x_iaddN dX11_shrink_57 ?_
        refine x_dup2 dX11_shrink_58 rfl rfl ?_
        refine x_laldN dX11_shrink_59 rfl rfl (by omega) ((qa.trans (congrArg i64 e0))) ?_
        refine x_lload_n dX11_shrink_60 rfl ?_
        refine x_ldivI dX11_shrink_61 (⟨by omega, by omega⟩) (⟨by omega, by omega⟩) (by omega) ?_
        refine x_lastN dX11_shrink_62 rfl rfl (by omega) ?_
        refine x_iincN dX11_shrink_63 rfl rfl ?_
        refine x_goto 36 dX11_shrink_66 rfl ?_
        rw [sL_sL, sL_at]
        refine ih (j + 1) _ (set2 u row j ((w row j).tdiv g)) (by omega) (h2.set hj ⟨by omega, by omega⟩) (fun i c hi hc => ?_)
        simp only [set2]
        by_cases e1 : i = row ∧ c = j
        · obtain ⟨rfl, rfl⟩ := e1
          rw [if_pos ⟨rfl, rfl⟩, if_pos ⟨rfl, Nat.lt_succ_self c⟩]
        · rw [if_neg e1, h3 i c hi hc]
          by_cases e2 : i = row ∧ c < j
          · rw [if_pos e2, if_pos ⟨e2.1, by omega⟩]
          · rw [if_neg e2, if_neg (fun z => by rcases Nat.lt_or_ge c j with q | q; exact e2 ⟨z.1, q⟩; exact e1 ⟨z.1, by omega⟩)]
set_option maxRecDepth 100000 in
set_option maxHeartbeats 4000000 in
theorem k_shrink (S : amS) (n row : Nat) (w : Nat → Nat → Int) (B : Int) (hB : 0 ≤ B ∧ B ≤ 4611686018427387904) (hn : n ≤ 9) (hr : row < n) (hm : Mx 4 (S.2.2.2 7) n w B) : X shM mX11_shrink 0 [.ref 0, .int (nI row), .null, .null, .null] [] S (fun r S' => r = none ∧ ∃ f' w' g, S' = sL S 7 f' ∧ 1 ≤ g ∧ (∀ c, c < 4 → w row c = g * w' c) ∧ Mx 4 f' n (va_up w row w') B) := by
  refine x_lc _ lc_0 dX11_shrink_0 ?_
  refine x_lstore_n dX11_shrink_1 rfl ?_
  refine x_ic _ ic_0 dX11_shrink_2 ?_
  refine x_istore dX11_shrink_3 rfl ?_
  refine k_shr_1 S n row w B hB hn hr hm _ ?_ 4 0 (by omega)
  have hg := gcdR_le (w row) hB.1 4 (fun c hc => (hm row c hr (by omega)).2)
  have hd := gcdR_dvd (w row) 4
  generalize gcdR (w row) 4 = g at hg hd
  refine x_ic _ ic_0 dX11_shrink_33 ?_
  refine x_istore dX11_shrink_34 rfl ?_
  by_cases h1 : 1 < g
  · refine x_st (sL_self S 7) ?_
    exact k_shr_2 S n row w B hB hn hr hm g h1 hg hd 4 0 _ w (by omega) hm (fun i c _ _ => by rw [if_neg (fun z => Nat.not_lt_zero c z.2)])
  · refine x_iload dX11_shrink_36 rfl ?_
    refine x_ic _ ic_4 dX11_shrink_38 ?_
    refine x_icmp_geN 69 dX11_shrink_39 rfl (by omega) (by omega) (fun c => ?_) (fun c => ?_)
    · omega
    · refine x_lload_n dX11_shrink_42 rfl ?_
      refine x_lc _ lc_1 dX11_shrink_43 ?_
      refine x_lcmp_le 69 dX11_shrink_44 dX11_shrink_45 rfl (by omega) (by omega) (fun c2 => ?_) (fun c2 => ?_)
      · refine x_ret dX11_shrink_69 rfl ?_
        refine ⟨rfl, S.2.2.2 7, w row, 1, sL_self S 7, by omega, fun c _ => by omega, hm.ext (fun i c hi hc => ?_)⟩
        by_cases e : i = row
        · subst e; rw [va_up_s]
        · rw [va_up_n _ _ e]
      · omega
end
section
/-! THE REFERENCE: rankBy -/
def rowsB (v : Nat → Row) (s : Nat) : Nat → List Row
  | 0 => []
  | i + 1 => if s.testBit i then rowsB v s i ++ [v i] else rowsB v s i
def rwf (l : List Row) : Nat → Row := fun a => l.getD a (fun _ => 0)
theorem rowsB_len (v : Nat → Row) (s i : Nat) : (rowsB v s i).length ≤ i := by
  induction i with
  | zero => exact Nat.le_refl _
  | succ i ih =>
    unfold rowsB
    split
    · simp; exact ih
    · omega
theorem rowsB_mem {v : Nat → Row} {s i : Nat} {x : Row} : x ∈ rowsB v s i ↔ ∃ a, a < i ∧ s.testBit a = true ∧ x = v a := by
  induction i with
  | zero => simp [rowsB]
  | succ i ih =>
    unfold rowsB
    split
    next h =>
      rw [List.mem_append, ih, List.mem_singleton]
      constructor
      · rintro (⟨a, h1, h2, h3⟩ | h1)
        · exact ⟨a, by omega, h2, h3⟩
        · exact ⟨i, by omega, h, h1⟩
      · rintro ⟨a, h1, h2, h3⟩
        by_cases e : a = i
        · subst e; exact Or.inr h3
        · exact Or.inl ⟨a, by omega, h2, h3⟩
    next h =>
      rw [ih]
      constructor
      · rintro ⟨a, h1, h2, h3⟩; exact ⟨a, by omega, h2, h3⟩
      · rintro ⟨a, h1, h2, h3⟩
        have : a ≠ i := fun e => by subst e; exact h h2
        exact ⟨a, by omega, h2, h3⟩
theorem rwf_app_lt {l : List Row} {x : Row} {a : Nat} (h : a < l.length) : rwf (l ++ [x]) a = rwf l a := by
  simp [rwf, List.getD, List.getElem?_append_left h]
theorem rwf_app_eq {l : List Row} {x : Row} : rwf (l ++ [x]) l.length = x := by
  simp [rwf, List.getD]
theorem rwf_mem {l : List Row} {a : Nat} (h : a < l.length) : rwf l a ∈ l := by
  simp [rwf, List.getD, h]
theorem mem_rwf {l : List Row} {x : Row} (h : x ∈ l) : ∃ a, a < l.length ∧ x = rwf l a := by
  obtain ⟨a, ha⟩ := List.getElem?_of_mem h
  have hl := (List.getElem?_eq_some_iff.mp ha).1
  exact ⟨a, hl, by simp [rwf, List.getD, ha]⟩
def bnd : Nat → Int
  | 0 => 3
  | t + 1 => 2 * (bnd t * bnd t)
set_option maxRecDepth 100000 in
set_option maxHeartbeats 4000000 in
theorem k_rb_2 (S : amS) (N s : Nat) (v : Nat → Row) (hN : N ≤ 9) (hs : s < 512) (hM : S.2.1 1 37 = nI N) (hv : ∀ i j, i < N → j < 4 → S.2.1 1 (4 * i + j) = i32 (v i j)) (hb : ∀ i j, i < N → -3 ≤ v i j ∧ v i j ≤ 3) (i m : Nat) (hi : i < N) (hm : m ≤ i) (w : Nat → Nat → Int) (Q : Option Value → amS → Prop) (hq : ∀ f, Mx 4 f m w 3 → (∀ c, c < 4 → f (4 * m + c) = i64 (v i c)) → X shM mX11_rankBy 61 [.ref 0, .int (nI s), .int (nI m), .int (nI i), .int (nI 4), .null, .null, .null, .null, .null, .null, .null] [] (sL S 7 f) Q) : ∀ (k j : Nat) (f : Nat → Int64), j + k = 4 → Mx 4 f m w 3 → (∀ c, c < j → f (4 * m + c) = i64 (v i c)) → X shM mX11_rankBy 26 [.ref 0, .int (nI s), .int (nI m), .int (nI i), .int (nI j), .null, .null, .null, .null, .null, .null, .null] [] (sL S 7 f) Q := by
  intro k
  induction k with
  | zero =>
    intro j f h1 h2 h3
    obtain rfl : j = 4 := by omega
    refine x_iload dX11_rankBy_26 rfl ?_
    refine x_ic _ ic_4 dX11_rankBy_28 ?_
    refine x_icmp_geN 61 dX11_rankBy_29 rfl (by omega) (by omega) (fun c29 => ?_) (fun c29 => ?_)
    · exact hq f h2 h3
    · exact absurd c29 (by omega)
  | succ k ih =>
    intro j f h1 h2 h3
    have hj : j < 4 := by omega
    have hbb := hb i j hi
    refine x_iload dX11_rankBy_26 rfl ?_
    refine x_ic _ ic_4 dX11_rankBy_28 ?_
    refine x_icmp_geN 61 dX11_rankBy_29 rfl (by omega) (by omega) (fun c29 => ?_) (fun c29 => ?_)
    · exact absurd c29 (by omega)
    · refine x_aload_n dX11_rankBy_32 rfl ?_
      refine x_getR dX11_rankBy_33 fl_X11_32 rfl ?_
      refine x_ic _ ic_4 dX11_rankBy_36 ?_
      refine x_iload_n dX11_rankBy_37 rfl ?_
      refine x_imulN dX11_rankBy_38 ?_
      refine x_iload dX11_rankBy_39 rfl ?_
      refine x_iaddN dX11_rankBy_41 ?_
      refine x_aload_n dX11_rankBy_42 rfl ?_
      refine x_getR dX11_rankBy_43 fl_X11_7 rfl ?_
      refine x_ic _ ic_4 dX11_rankBy_46 ?_
      refine x_iload_n dX11_rankBy_47 rfl ?_
      refine x_imulN dX11_rankBy_48 ?_
      refine x_iload dX11_rankBy_49 rfl ?_
      refine x_iaddN dX11_rankBy_51 ?_
      refine x_ialdN dX11_rankBy_52 rfl rfl (by omega) (hv i j hi hj) ?_
      refine x_i2lI dX11_rankBy_53 (by omega) (by omega) ?_
      refine x_lastN dX11_rankBy_54 rfl rfl (by omega) ?_
      refine x_iincN dX11_rankBy_55 rfl rfl ?_
      refine x_goto 26 dX11_rankBy_58 rfl ?_
      rw [sL_sL, sL_at]
      refine ih (j + 1) _ (by omega) (fun a c ha hc => ?_) (fun c hc => ?_)
      · have e : 4 * a + c ≠ 4 * m + j := by omega
        simp only [vp_updL, e, if_false]
        exact h2 a c ha hc
      · by_cases e : c = j
        · subst e; simp [vp_updL]
        · simp only [vp_updL, show 4 * m + c ≠ 4 * m + j by omega, if_false]
          exact h3 c (by omega)
set_option maxRecDepth 100000 in
set_option maxHeartbeats 4000000 in
theorem k_rb_1 (S : amS) (N s : Nat) (v : Nat → Row) (hN : N ≤ 9) (hs : s < 512) (hM : S.2.1 1 37 = nI N) (hv : ∀ i j, i < N → j < 4 → S.2.1 1 (4 * i + j) = i32 (v i j)) (hb : ∀ i j, i < N → -3 ≤ v i j ∧ v i j ≤ 3) (Q : Option Value → amS → Prop) (hq : ∀ f z4, Mx 4 f (rowsB v s N).length (rwf (rowsB v s N)) 3 → X shM mX11_rankBy 70 [.ref 0, .int (nI s), .int (nI (rowsB v s N).length), .int (nI N), z4, .null, .null, .null, .null, .null, .null, .null] [] (sL S 7 f) Q) : ∀ (k i : Nat) (f : Nat → Int64) (z4 : Value), i + k = N → Mx 4 f (rowsB v s i).length (rwf (rowsB v s i)) 3 → X shM mX11_rankBy 4 [.ref 0, .int (nI s), .int (nI (rowsB v s i).length), .int (nI i), z4, .null, .null, .null, .null, .null, .null, .null] [] (sL S 7 f) Q := by
  intro k
  induction k with
  | zero =>
    intro i f z4 h1 h2
    obtain rfl : i = N := by omega
    refine x_iload_n dX11_rankBy_4 rfl ?_
    refine x_aload_n dX11_rankBy_5 rfl ?_
    refine x_getR dX11_rankBy_6 fl_X11_7 rfl ?_
    refine x_bi _ bi_37 dX11_rankBy_9 ?_
    refine x_ialdN dX11_rankBy_11 rfl rfl (by omega) (hM) ?_
    refine x_icmp_geN 70 dX11_rankBy_12 rfl (by omega) (by omega) (fun c12 => ?_) (fun c12 => ?_)
    · exact hq f z4 h2
    · exact absurd c12 (by omega)
  | succ k ih =>
    intro i f z4 h1 h2
    have hl := rowsB_len v s i
    have hi : i < N := by omega
    refine x_iload_n dX11_rankBy_4 rfl ?_
    refine x_aload_n dX11_rankBy_5 rfl ?_
    refine x_getR dX11_rankBy_6 fl_X11_7 rfl ?_
    refine x_bi _ bi_37 dX11_rankBy_9 ?_
    refine x_ialdN dX11_rankBy_11 rfl rfl (by omega) (hM) ?_
    refine x_icmp_geN 70 dX11_rankBy_12 rfl (by omega) (by omega) (fun c12 => ?_) (fun c12 => ?_)
    · exact absurd c12 (by omega)
    · refine x_iload_n dX11_rankBy_15 rfl ?_
      refine x_iload_n dX11_rankBy_16 rfl ?_
      refine x_s2d (N := mX11_has) dX11_rankBy_17 ml_X11_97 ns_X11_has rfl (k_has (sL S 7 f) s i hs (by omega)) ?_
      refine x_if_eqB 64 dX11_rankBy_20 rfl (fun c20 => ?_) (fun c20 => ?_)
      · have e0 : rowsB v s (i + 1) = rowsB v s i := by simp [rowsB, c20]
        refine x_iincN dX11_rankBy_64 rfl rfl ?_
        refine x_goto 4 dX11_rankBy_67 rfl ?_
        have := ih (i + 1) f z4 (by omega) (by rw [e0]; exact h2)
        rw [e0] at this
        exact this
      · refine x_ic _ ic_0 dX11_rankBy_23 ?_
        refine x_istore dX11_rankBy_24 rfl ?_
        refine k_rb_2 S N s v hN hs hM hv hb i _ hi hl (rwf (rowsB v s i)) Q ?_ 4 0 f (by omega) h2 (fun c hc => absurd hc (Nat.not_lt_zero c))
        intro f1 g1 g2
        have e0 : rowsB v s (i + 1) = rowsB v s i ++ [v i] := by simp [rowsB, c20]
        have e1 : (rowsB v s (i + 1)).length = (rowsB v s i).length + 1 := by rw [e0]; simp
        refine x_iincN dX11_rankBy_61 rfl rfl ?_
        refine x_iincN dX11_rankBy_64 rfl rfl ?_
        refine x_goto 4 dX11_rankBy_67 rfl ?_
        have := ih (i + 1) f1 (.int (nI 4)) (by omega) (by
          rw [e1, e0]
          intro a c ha hc
          by_cases e : a < (rowsB v s i).length
          · rw [rwf_app_lt e]; exact g1 a c e hc
          · obtain rfl : a = (rowsB v s i).length := by omega
            rw [rwf_app_eq]
            exact ⟨g2 c hc, by have := hb i c hi; omega⟩)
        rw [e1] at this
        exact this
end
section
/-! THE REFERENCE: rankBy, elimination -/
theorem bnd_ok : ∀ t, t < 4 → 0 ≤ bnd t ∧ bnd t ≤ 1000000 ∧ bnd t ≤ bnd (t + 1) ∧ bnd (t + 1) ≤ 4611686018427387904 ∧ bnd (t + 1) = 2 * (bnd t * bnd t) := by
  intro t h
  rcases (show t = 0 ∨ t = 1 ∨ t = 2 ∨ t = 3 by omega) with rfl | rfl | rfl | rfl <;> decide
set_option maxRecDepth 100000 in
set_option maxHeartbeats 4000000 in
theorem k_rb_5 (S : amS) (s n rank row j at0 : Nat) (hn : n ≤ 9) (hr : rank < row) (hr2 : row < n) (hj : j < 4) (w : Nat → Nat → Int) (B C : Int) (hB : 0 ≤ B) (hBC : B ≤ C) (hC : C ≤ 4611686018427387904) (hC2 : C = 2 * (B * B)) (hw : ∀ i c, i < n → c < 4 → row ≤ i ∨ i ≤ rank → -B ≤ w i c ∧ w i c ≤ B) (Q : Option Value → amS → Prop) (hq : ∀ f u, Mx 4 f n u C → (∀ i c, i < n → c < 4 → u i c = if i = row then w row c * w rank j - w rank c * w row j else w i c) → X shM mX11_rankBy 221 [.ref 0, .int (nI s), .int (nI n), .int (nI rank), .int (nI j), .int (nI at0), .int (nI row), .long (i64 (w row j)), .null, .long (i64 (w rank j)), .null, .int (nI 4)] [] (sL S 7 f) Q) : ∀ (k c : Nat) (f : Nat → Int64) (u : Nat → Nat → Int), c + k = 4 → Mx 4 f n u C → (∀ i e, i < n → e < 4 → u i e = if i = row ∧ e < c then w row e * w rank j - w rank e * w row j else w i e) → X shM mX11_rankBy 167 [.ref 0, .int (nI s), .int (nI n), .int (nI rank), .int (nI j), .int (nI at0), .int (nI row), .long (i64 (w row j)), .null, .long (i64 (w rank j)), .null, .int (nI c)] [] (sL S 7 f) Q := by
  intro k
  induction k with
  | zero =>
    intro c f u h1 h2 h3
    obtain rfl : c = 4 := by omega
    refine x_iload dX11_rankBy_167 rfl ?_
    refine x_ic _ ic_4 dX11_rankBy_169 ?_
    refine x_icmp_geN 221 dX11_rankBy_170 rfl (by omega) (by omega) (fun c170 => ?_) (fun c170 => ?_)
    · refine hq f u h2 (fun i e hi he => ?_)
      have e0 := h3 i e hi he
      grind
    · exact absurd c170 (by omega)
  | succ k ih =>
    intro c f u h1 h2 h3
    have hc : c < 4 := by omega
    obtain ⟨q1, q2⟩ := h2 row c hr2 hc
    obtain ⟨q3, q4⟩ := h2 rank c (by omega) hc
    have e1 := h3 row c hr2 hc
    have e2 := h3 rank c (by omega) hc
    rw [if_neg (fun z => Nat.lt_irrefl _ z.2)] at e1
    rw [if_neg (fun z => by omega)] at e2
    rw [e1] at q1
    rw [e2] at q3
    have b1 := mul_bd (hw row c hr2 hc (Or.inl (Nat.le_refl _))) (hw rank j (by omega) hj (Or.inr (Nat.le_refl _)))
    have b2 := mul_bd (hw rank c (by omega) hc (Or.inr (Nat.le_refl _))) (hw row j hr2 hj (Or.inl (Nat.le_refl _)))
    refine x_iload dX11_rankBy_167 rfl ?_
    refine x_ic _ ic_4 dX11_rankBy_169 ?_
    refine x_icmp_geN 221 dX11_rankBy_170 rfl (by omega) (by omega) (fun c170 => ?_) (fun c170 => ?_)
    · exact absurd c170 (by omega)
    · refine x_aload_n dX11_rankBy_173 rfl ?_
      refine x_getR dX11_rankBy_174 fl_X11_32 rfl ?_
      refine x_ic _ ic_4 dX11_rankBy_177 ?_
      refine x_iload dX11_rankBy_178 rfl ?_
      refine x_imulN dX11_rankBy_180 ?_
      refine x_iload dX11_rankBy_181 rfl ?_
      refine x_iaddN dX11_rankBy_183 ?_
      refine x_aload_n dX11_rankBy_184 rfl ?_
      refine x_getR dX11_rankBy_185 fl_X11_32 rfl ?_
      refine x_ic _ ic_4 dX11_rankBy_188 ?_
      refine x_iload dX11_rankBy_189 rfl ?_
      refine x_imulN dX11_rankBy_191 ?_
      refine x_iload dX11_rankBy_192 rfl ?_
      refine x_iaddN dX11_rankBy_194 ?_
      refine x_laldN dX11_rankBy_195 rfl rfl (by omega) (q1) ?_
      refine x_lload dX11_rankBy_196 rfl ?_
      refine x_lmulI dX11_rankBy_198 ?_
      refine x_aload_n dX11_rankBy_199 rfl ?_
      refine x_getR dX11_rankBy_200 fl_X11_32 rfl ?_
      refine x_ic _ ic_4 dX11_rankBy_203 ?_
      refine x_iload_n dX11_rankBy_204 rfl ?_
      refine x_imulN dX11_rankBy_205 ?_
      refine x_iload dX11_rankBy_206 rfl ?_
      refine x_iaddN dX11_rankBy_208 ?_
      refine x_laldN dX11_rankBy_209 rfl rfl (by omega) (q3) ?_
      refine x_lload dX11_rankBy_210 rfl ?_
      refine x_lmulI dX11_rankBy_212 ?_
      refine x_lsubI dX11_rankBy_213 ?_
      refine x_lastN dX11_rankBy_214 rfl rfl (by omega) ?_
      refine x_iincN dX11_rankBy_215 rfl rfl ?_
      refine x_goto 167 dX11_rankBy_218 rfl ?_
      rw [sL_sL, sL_at]
      refine ih (c + 1) _ (set2 u row c (w row c * w rank j - w rank c * w row j)) (by omega) (h2.set hc ⟨by omega, by omega⟩) (fun i e hi he => ?_)
      have e0 := h3 i e hi he
      simp only [set2]
      grind
set_option maxRecDepth 100000 in
set_option maxHeartbeats 4000000 in
theorem k_rb_4 (S : amS) (s n rank j at0 : Nat) (hn : n ≤ 9) (hr : rank < n) (hj : j < 4) (w : Nat → Nat → Int) (B C : Int) (hB : 0 ≤ B) (hBC : B ≤ C) (hC : C ≤ 4611686018427387904) (hC2 : C = 2 * (B * B)) (hw : ∀ i c, i < n → c < 4 → -B ≤ w i c ∧ w i c ≤ B) (Q : Option Value → amS → Prop) (hq : ∀ f u z7 z8 z9 z10 z11, Mx 4 f n u C → (∀ i c, i ≤ rank → c < 4 → u i c = w i c) → (∀ a, rank < a → a < n → ∃ g : Int, 1 ≤ g ∧ ∀ c, c < 4 → g * u a c = w a c * w rank j - w rank c * w a j) → X shM mX11_rankBy 233 [.ref 0, .int (nI s), .int (nI n), .int (nI rank), .int (nI j), .int (nI at0), .int (nI n), z7, z8, z9, z10, z11] [] (sL S 7 f) Q) : ∀ (k row : Nat) (f : Nat → Int64) (u : Nat → Nat → Int) (z7 z8 z9 z10 z11 : Value), row + k = n → rank < row → Mx 4 f n u C → (∀ i c, i < n → c < 4 → row ≤ i ∨ i ≤ rank → u i c = w i c) → (∀ a, rank < a → a < row → ∃ g : Int, 1 ≤ g ∧ ∀ c, c < 4 → g * u a c = w a c * w rank j - w rank c * w a j) → X shM mX11_rankBy 131 [.ref 0, .int (nI s), .int (nI n), .int (nI rank), .int (nI j), .int (nI at0), .int (nI row), z7, z8, z9, z10, z11] [] (sL S 7 f) Q := by
  intro k
  induction k with
  | zero =>
    intro row f u z7 z8 z9 z10 z11 h1 h2 h3 h4 h5
    obtain rfl : row = n := by omega
    refine x_iload dX11_rankBy_131 rfl ?_
    refine x_iload_n dX11_rankBy_133 rfl ?_
    refine x_icmp_geN 233 dX11_rankBy_134 rfl (by omega) (by omega) (fun c134 => ?_) (fun c134 => ?_)
    · exact hq f u z7 z8 z9 z10 z11 h3 (fun i c hi hc => h4 i c (by omega) hc (Or.inr hi)) h5
    · exact absurd c134 (by omega)
  | succ k ih =>
    intro row f u z7 z8 z9 z10 z11 h1 h2 h3 h4 h5
    have hrow : row < n := by omega
    obtain ⟨q1, q2⟩ := h3 row j hrow hj
    obtain ⟨q3, q4⟩ := h3 rank j (by omega) hj
    rw [h4 row j hrow hj (Or.inl (Nat.le_refl _))] at q1
    rw [h4 rank j (by omega) hj (Or.inr (Nat.le_refl _))] at q3
    refine x_iload dX11_rankBy_131 rfl ?_
    refine x_iload_n dX11_rankBy_133 rfl ?_
    refine x_icmp_geN 233 dX11_rankBy_134 rfl (by omega) (by omega) (fun c134 => ?_) (fun c134 => ?_)
    · exact absurd c134 (by omega)
    · refine x_aload_n dX11_rankBy_137 rfl ?_
      refine x_getR dX11_rankBy_138 fl_X11_32 rfl ?_
      refine x_ic _ ic_4 dX11_rankBy_141 ?_
      refine x_iload dX11_rankBy_142 rfl ?_
      refine x_imulN dX11_rankBy_144 ?_
      refine x_iload dX11_rankBy_145 rfl ?_
      refine x_iaddN dX11_rankBy_147 ?_
      refine x_laldN dX11_rankBy_148 rfl rfl (by omega) (q1) ?_
      refine x_lstore dX11_rankBy_149 rfl ?_
      refine x_aload_n dX11_rankBy_151 rfl ?_
      refine x_getR dX11_rankBy_152 fl_X11_32 rfl ?_
      refine x_ic _ ic_4 dX11_rankBy_155 ?_
      refine x_iload_n dX11_rankBy_156 rfl ?_
      refine x_imulN dX11_rankBy_157 ?_
      refine x_iload dX11_rankBy_158 rfl ?_
      refine x_iaddN dX11_rankBy_160 ?_
      refine x_laldN dX11_rankBy_161 rfl rfl (by omega) (q3) ?_
      refine x_lstore dX11_rankBy_162 rfl ?_
      refine x_ic _ ic_0 dX11_rankBy_164 ?_
      refine x_istore dX11_rankBy_165 rfl ?_
      have p1 := h4 row j hrow hj (Or.inl (Nat.le_refl _))
      have p2 := h4 rank j (by omega) hj (Or.inr (Nat.le_refl _))
      have main := k_rb_5 S s n rank row j at0 hn h2 hrow hj u B C hB hBC hC hC2 (fun i c hi hc z => by rw [h4 i c hi hc z]; exact hw i c hi hc) Q ?_ 4 0 f u (by omega) h3 (fun i e _ _ => by rw [if_neg (fun z => Nat.not_lt_zero e z.2)])
      · rw [p1, p2] at main; exact main
      · intro f1 u1 g1 g2
        refine x_aload_n dX11_rankBy_221 rfl ?_
        refine x_iload dX11_rankBy_222 rfl ?_
        refine x_v1 (N := mX11_shrink) dX11_rankBy_224 ml_X11_105 nv_X11_shrink rfl rfl (k_shrink (sL S 7 f1) n row u1 C ⟨by omega, hC⟩ hn hrow g1) ?_
        rintro _ _ ⟨rfl, f2, w', g, rfl, e1, e2, e3⟩
        rw [sL_sL]
        refine x_iincN dX11_rankBy_227 rfl rfl ?_
        refine x_goto 131 dX11_rankBy_230 rfl ?_
        refine ih (row + 1) f2 (va_up u1 row w') _ _ _ _ _ (by omega) (by omega) e3 (fun i c hi hc z => ?_) (fun a ha1 ha2 => ?_)
        · rw [va_up_n _ _ (show i ≠ row by omega), g2 i c hi hc, if_neg (show i ≠ row by omega)]
          exact h4 i c hi hc (by omega)
        · by_cases e : a = row
          · subst e
            refine ⟨g, e1, fun c hc => ?_⟩
            rw [va_up_s, ← e2 c hc, g2 a c hrow hc, if_pos rfl, p1, p2, h4 a c hrow hc (Or.inl (Nat.le_refl _)), h4 rank c (by omega) hc (Or.inr (Nat.le_refl _))]
          · obtain ⟨g0, i1, i2⟩ := h5 a ha1 (by omega)
            refine ⟨g0, i1, fun c hc => ?_⟩
            rw [va_up_n _ _ e, g2 a c (by omega) hc, if_neg e]
            exact i2 c hc
set_option maxRecDepth 100000 in
set_option maxHeartbeats 4000000 in
theorem k_rb_3 (S : amS) (s n rank j : Nat) (hn : n ≤ 9) (hj : j < 4) (f : Nat → Int64) (u : Nat → Nat → Int) (C : Int) (hC : C ≤ 4611686018427387904) (hm : Mx 4 f n u C) (z6 z7 z8 z9 z10 z11 : Value) (Q : Option Value → amS → Prop) (hq : ∀ at0, rank ≤ at0 → at0 ≤ n → (∀ a, rank ≤ a → a < at0 → u a j = 0) → (at0 < n → u at0 j ≠ 0) → X shM mX11_rankBy 113 [.ref 0, .int (nI s), .int (nI n), .int (nI rank), .int (nI j), .int (nI at0), z6, z7, z8, z9, z10, z11] [] (sL S 7 f) Q) : ∀ (k at0 : Nat), at0 + k = n → rank ≤ at0 → (∀ a, rank ≤ a → a < at0 → u a j = 0) → X shM mX11_rankBy 84 [.ref 0, .int (nI s), .int (nI n), .int (nI rank), .int (nI j), .int (nI at0), z6, z7, z8, z9, z10, z11] [] (sL S 7 f) Q := by
  intro k
  induction k with
  | zero =>
    intro at0 h1 h2 h3
    obtain rfl : at0 = n := by omega
    refine x_iload dX11_rankBy_84 rfl ?_
    refine x_iload_n dX11_rankBy_86 rfl ?_
    refine x_icmp_geN 113 dX11_rankBy_87 rfl (by omega) (by omega) (fun c87 => ?_) (fun c87 => ?_)
    · exact hq at0 h2 (Nat.le_refl _) h3 (fun z => absurd z (Nat.lt_irrefl _))
    · exact absurd c87 (by omega)
  | succ k ih =>
    intro at0 h1 h2 h3
    have ha : at0 < n := by omega
    obtain ⟨q1, q2⟩ := hm at0 j ha hj
    refine x_iload dX11_rankBy_84 rfl ?_
    refine x_iload_n dX11_rankBy_86 rfl ?_
    refine x_icmp_geN 113 dX11_rankBy_87 rfl (by omega) (by omega) (fun c87 => ?_) (fun c87 => ?_)
    · exact absurd c87 (by omega)
    · refine x_aload_n dX11_rankBy_90 rfl ?_
      refine x_getR dX11_rankBy_91 fl_X11_32 rfl ?_
      refine x_ic _ ic_4 dX11_rankBy_94 ?_
      refine x_iload dX11_rankBy_95 rfl ?_
      refine x_imulN dX11_rankBy_97 ?_
      refine x_iload dX11_rankBy_98 rfl ?_
      refine x_iaddN dX11_rankBy_100 ?_
      refine x_laldN dX11_rankBy_101 rfl rfl (by omega) (q1) ?_
      refine x_lc _ lc_0 dX11_rankBy_102 ?_
      refine x_lcmp_ne 113 dX11_rankBy_103 dX11_rankBy_104 rfl (by omega) (by omega) (fun c104 => ?_) (fun c104 => ?_)
      · exact hq at0 h2 (by omega) h3 (fun _ => c104)
      · refine x_iincN dX11_rankBy_107 rfl rfl ?_
        refine x_goto 84 dX11_rankBy_110 rfl ?_
        refine ih (at0 + 1) (by omega) (by omega) (fun a ha1 ha2 => ?_)
        by_cases e : a = at0
        · subst e; exact c104
        · exact h3 a ha1 (by omega)
set_option maxRecDepth 100000 in
set_option maxHeartbeats 4000000 in
theorem k_rb_c (S : amS) (s n Rk : Nat) (hn : n ≤ 9) : ∀ (k j rank : Nat) (f : Nat → Int64) (u : Nat → Nat → Int) (z5 z6 z7 z8 z9 z10 z11 : Value), j + k = 4 → rank ≤ j → rank ≤ n → Mx 4 f n u (bnd rank) → rank + rkC 0 (cf k) (act u rank n) = Rk → X shM mX11_rankBy 75 [.ref 0, .int (nI s), .int (nI n), .int (nI rank), .int (nI j), z5, z6, z7, z8, z9, z10, z11] [] (sL S 7 f) (fun r S' => r = some (.int (nI Rk)) ∧ ∃ f', S' = sL S 7 f') := by
  intro k
  induction k with
  | zero =>
    intro j rank f u z5 z6 z7 z8 z9 z10 z11 h1 h2 h3 h4 h5
    obtain rfl : j = 4 := by omega
    simp only [cf, rkC, Nat.add_zero] at h5
    refine x_iload dX11_rankBy_75 rfl ?_
    refine x_ic _ ic_4 dX11_rankBy_77 ?_
    refine x_icmp_geN 242 dX11_rankBy_78 rfl (by omega) (by omega) (fun c78 => ?_) (fun c78 => ?_)
    · refine x_iload_n dX11_rankBy_242 rfl ?_
      refine x_iretI dX11_rankBy_243 rfl ?_
      exact ⟨by rw [h5], f, rfl⟩
    · exact absurd c78 (by omega)
  | succ k ih =>
    intro j rank f u z5 z6 z7 z8 z9 z10 z11 h1 h2 h3 h4 h5
    have hj : j < 4 := by omega
    have ej : 3 - k = j := by omega
    obtain ⟨b0, b1, b2, b3, b4⟩ := bnd_ok rank (by omega)
    rw [cf, ej] at h5
    have hcf := cf_mem k (by omega)
    refine x_iload dX11_rankBy_75 rfl ?_
    refine x_ic _ ic_4 dX11_rankBy_77 ?_
    refine x_icmp_geN 242 dX11_rankBy_78 rfl (by omega) (by omega) (fun c78 => ?_) (fun c78 => ?_)
    · exact absurd c78 (by omega)
    · refine x_iload_n dX11_rankBy_81 rfl ?_
      refine x_istore dX11_rankBy_82 rfl ?_
      refine k_rb_3 S s n rank j hn hj f u (bnd rank) (by omega) h4 _ _ _ _ _ _ _ ?_ (n - rank) rank (by omega) (Nat.le_refl _) (fun a h6 h7 => absurd h6 (by omega))
      intro at0 g1 g2 g3 g4
      refine x_iload dX11_rankBy_113 rfl ?_
      refine x_iload_n dX11_rankBy_115 rfl ?_
      refine x_icmp_geN 236 dX11_rankBy_116 rfl (by omega) (by omega) (fun c116 => ?_) (fun c116 => ?_)
      · obtain rfl : at0 = n := by omega
        rw [act_none (q := 0) (fun a h6 h7 => by rw [g3 a h6 h7]; exact Int.dvd_refl 0)] at h5
        refine x_iincN dX11_rankBy_236 rfl rfl ?_
        refine x_goto 75 dX11_rankBy_239 rfl ?_
        exact ih (j + 1) rank f u _ _ _ _ _ _ _ (by omega) (by omega) h3 h4 h5
      · refine x_aload_n dX11_rankBy_119 rfl ?_
        refine x_iload dX11_rankBy_120 rfl ?_
        refine x_iload_n dX11_rankBy_122 rfl ?_
        refine x_v2 (N := mX11_swapRows) dX11_rankBy_123 ml_X11_101 nv_X11_swapRows rfl rfl (k_swapRows (sL S 7 f) n at0 rank u (bnd rank) hn (by omega) (by omega) h4) ?_
        rintro _ _ ⟨rfl, f1, rfl, m1⟩
        rw [sL_sL]
        refine x_iload_n dX11_rankBy_126 rfl ?_
        refine x_ic _ ic_1 dX11_rankBy_127 ?_
        refine x_iaddN dX11_rankBy_128 ?_
        refine x_istore dX11_rankBy_129 rfl ?_
        refine k_rb_4 S s n rank j at0 hn (by omega) hj (fun i => if i = at0 then u rank else if i = rank then u at0 else u i) (bnd rank) (bnd (rank + 1)) b0 b2 b3 b4 (fun i c hi hc => (m1 i c hi hc).2) _ ?_ (n - (rank + 1)) (rank + 1) f1 _ _ _ _ _ _ (by omega) (by omega) (m1.mono b2) (fun i c _ _ _ => rfl) (fun a h6 h7 => absurd h6 (by omega))
        intro f2 u2 y7 y8 y9 y10 y11 t1 t2 t3
        refine x_iincN dX11_rankBy_233 rfl rfl ?_
        refine x_iincN dX11_rankBy_236 rfl rfl ?_
        refine x_goto 75 dX11_rankBy_239 rfl ?_
        refine ih (j + 1) (rank + 1) f2 u2 _ _ _ _ _ _ _ (by omega) (by omega) (by omega) t1 ?_
        rw [act_step dom0 (u := u2) (lo := rank) (p := at0) ⟨g1, c116⟩ (by rw [Int.zero_dvd]; exact g4 c116) (fun a h6 h7 => ?_)] at h5
        · omega
        · obtain ⟨g, i1, i2⟩ := t3 a h6 h7
          refine ⟨g, by rw [Int.zero_dvd]; omega, fun c hc => ?_⟩
          have i3 := i2 c (hcf c hc)
          simp only [if_true, show ∀ p q r : Row, (if rank = at0 then p else q) = (if rank = at0 then p else q) from fun _ _ _ => rfl] at i3
          rw [Int.zero_dvd, i3]
          simp only [el]
          have e1 : ∀ c, (if rank = at0 then u rank else if rank = rank then u at0 else u rank) c = u at0 c := by
            intro c
            by_cases e : rank = at0
            · rw [if_pos e, e]
            · rw [if_neg e, if_pos rfl]
          have e2 : (if a = at0 then u rank else if a = rank then u at0 else u a) = (if a = at0 then u rank else u a) := by
            rw [if_neg (show a ≠ rank by omega)]
          grind
end
section
theorem zz_last : True := trivial
end
