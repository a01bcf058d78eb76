-- ===== PART A: goes FIRST, ahead of the names: the tables' words, and 'selects' of the private methods out of them =====
/-- a private method of a class that the tables say can be made, by its rows of tables_1 -/
def lw_okq (q : MethodName × Nat) : Prop := (q.1.cls ≠ "java/lang/invoke/MethodHandle" ∧ q.1.cls ≠ "java/lang/invoke/VarHandle") ∧ Cond.instantiable q.1.cls q.2 ∈ tables_1 ∧ Cond.privateMethod q.1 ∈ tables_1 ∧ Cond.instanceMethod q.1 ∈ tables_1
theorem lw_p0 : lw_okq (⟨"RaceTuning$Race", "whyOver", "()I"⟩, 15) := ⟨⟨by decide +kernel, by decide +kernel⟩, List.mem_of_getElem? (i := 257) (by decide +kernel), List.mem_of_getElem? (i := 327) (by decide +kernel), List.mem_of_getElem? (i := 328) (by decide +kernel)⟩
theorem lw_p1 : lw_okq (⟨"RaceTuning$Race", "leftFrom", "(I)I"⟩, 15) := ⟨⟨by decide +kernel, by decide +kernel⟩, List.mem_of_getElem? (i := 257) (by decide +kernel), List.mem_of_getElem? (i := 353) (by decide +kernel), List.mem_of_getElem? (i := 354) (by decide +kernel)⟩
theorem lw_p2 : lw_okq (⟨"RaceTuning$Race", "endRound", "()V"⟩, 15) := ⟨⟨by decide +kernel, by decide +kernel⟩, List.mem_of_getElem? (i := 257) (by decide +kernel), List.mem_of_getElem? (i := 357) (by decide +kernel), List.mem_of_getElem? (i := 358) (by decide +kernel)⟩
theorem lw_p3 : lw_okq (⟨"RaceTuning$Race", "dropWorse", "()V"⟩, 15) := ⟨⟨by decide +kernel, by decide +kernel⟩, List.mem_of_getElem? (i := 257) (by decide +kernel), List.mem_of_getElem? (i := 361) (by decide +kernel), List.mem_of_getElem? (i := 362) (by decide +kernel)⟩
theorem lw_p4 : lw_okq (⟨"RaceTuning$Race", "arrange", "()I"⟩, 15) := ⟨⟨by decide +kernel, by decide +kernel⟩, List.mem_of_getElem? (i := 257) (by decide +kernel), List.mem_of_getElem? (i := 365) (by decide +kernel), List.mem_of_getElem? (i := 366) (by decide +kernel)⟩
theorem lw_p5 : lw_okq (⟨"RaceTuning$Race", "rankAgainst", "(II)I"⟩, 15) := ⟨⟨by decide +kernel, by decide +kernel⟩, List.mem_of_getElem? (i := 257) (by decide +kernel), List.mem_of_getElem? (i := 373) (by decide +kernel), List.mem_of_getElem? (i := 374) (by decide +kernel)⟩
theorem lw_p6 : lw_okq (⟨"RaceTuning$Odds", "weightOf", "(I)I"⟩, 6) := ⟨⟨by decide +kernel, by decide +kernel⟩, List.mem_of_getElem? (i := 63) (by decide +kernel), List.mem_of_getElem? (i := 406) (by decide +kernel), List.mem_of_getElem? (i := 407) (by decide +kernel)⟩
theorem lw_p7 : lw_okq (⟨"RaceTuning$Odds", "addSign", "(II)V"⟩, 6) := ⟨⟨by decide +kernel, by decide +kernel⟩, List.mem_of_getElem? (i := 63) (by decide +kernel), List.mem_of_getElem? (i := 411) (by decide +kernel), List.mem_of_getElem? (i := 412) (by decide +kernel)⟩
theorem lw_p8 : lw_okq (⟨"RaceTuning$Portfolio", "gatherWhole", "(LRaceTuning$Table;)V"⟩, 7) := ⟨⟨by decide +kernel, by decide +kernel⟩, List.mem_of_getElem? (i := 91) (by decide +kernel), List.mem_of_getElem? (i := 475) (by decide +kernel), List.mem_of_getElem? (i := 476) (by decide +kernel)⟩
theorem lw_p9 : lw_okq (⟨"RaceTuning$Portfolio", "placeFrom", "(LRaceTuning$Table;II)V"⟩, 7) := ⟨⟨by decide +kernel, by decide +kernel⟩, List.mem_of_getElem? (i := 91) (by decide +kernel), List.mem_of_getElem? (i := 487) (by decide +kernel), List.mem_of_getElem? (i := 488) (by decide +kernel)⟩
theorem lw_p10 : lw_okq (⟨"RaceTuning$Portfolio", "joinCosts", "(LRaceTuning$Table;II)V"⟩, 7) := ⟨⟨by decide +kernel, by decide +kernel⟩, List.mem_of_getElem? (i := 91) (by decide +kernel), List.mem_of_getElem? (i := 491) (by decide +kernel), List.mem_of_getElem? (i := 492) (by decide +kernel)⟩
theorem lw_p11 : lw_okq (⟨"RaceTuning$Portfolio", "keepIfLess", "(LRaceTuning$Table;)V"⟩, 7) := ⟨⟨by decide +kernel, by decide +kernel⟩, List.mem_of_getElem? (i := 91) (by decide +kernel), List.mem_of_getElem? (i := 496) (by decide +kernel), List.mem_of_getElem? (i := 497) (by decide +kernel)⟩
theorem lw_p12 : lw_okq (⟨"RaceTuning$Portfolio", "lastThatCanRise", "()I"⟩, 7) := ⟨⟨by decide +kernel, by decide +kernel⟩, List.mem_of_getElem? (i := 91) (by decide +kernel), List.mem_of_getElem? (i := 504) (by decide +kernel), List.mem_of_getElem? (i := 505) (by decide +kernel)⟩
theorem lw_p13 : lw_okq (⟨"RaceTuning", "pickFor", "(I)I"⟩, 5) := ⟨⟨by decide +kernel, by decide +kernel⟩, List.mem_of_getElem? (i := 16) (by decide +kernel), List.mem_of_getElem? (i := 516) (by decide +kernel), List.mem_of_getElem? (i := 517) (by decide +kernel)⟩
theorem lw_p14 : lw_okq (⟨"RaceTuning$Table", "distance", "(II)I"⟩, 6) := ⟨⟨by decide +kernel, by decide +kernel⟩, List.mem_of_getElem? (i := 24) (by decide +kernel), List.mem_of_getElem? (i := 525) (by decide +kernel), List.mem_of_getElem? (i := 526) (by decide +kernel)⟩
theorem lw_p15 : lw_okq (⟨"RaceTuning$Stump", "putAllFromCut", "(LRaceTuning$Table;)V"⟩, 7) := ⟨⟨by decide +kernel, by decide +kernel⟩, List.mem_of_getElem? (i := 121) (by decide +kernel), List.mem_of_getElem? (i := 548) (by decide +kernel), List.mem_of_getElem? (i := 549) (by decide +kernel)⟩
def lw_privs_1 : List (MethodName × Nat) := [(⟨"RaceTuning$Race", "whyOver", "()I"⟩, 15), (⟨"RaceTuning$Race", "leftFrom", "(I)I"⟩, 15), (⟨"RaceTuning$Race", "endRound", "()V"⟩, 15), (⟨"RaceTuning$Race", "dropWorse", "()V"⟩, 15), (⟨"RaceTuning$Race", "arrange", "()I"⟩, 15), (⟨"RaceTuning$Race", "rankAgainst", "(II)I"⟩, 15), (⟨"RaceTuning$Odds", "weightOf", "(I)I"⟩, 6), (⟨"RaceTuning$Odds", "addSign", "(II)V"⟩, 6), (⟨"RaceTuning$Portfolio", "gatherWhole", "(LRaceTuning$Table;)V"⟩, 7), (⟨"RaceTuning$Portfolio", "placeFrom", "(LRaceTuning$Table;II)V"⟩, 7), (⟨"RaceTuning$Portfolio", "joinCosts", "(LRaceTuning$Table;II)V"⟩, 7), (⟨"RaceTuning$Portfolio", "keepIfLess", "(LRaceTuning$Table;)V"⟩, 7), (⟨"RaceTuning$Portfolio", "lastThatCanRise", "()I"⟩, 7), (⟨"RaceTuning", "pickFor", "(I)I"⟩, 5), (⟨"RaceTuning$Table", "distance", "(II)I"⟩, 6), (⟨"RaceTuning$Stump", "putAllFromCut", "(LRaceTuning$Table;)V"⟩, 7)]
theorem lw_r1 : ∀ q ∈ lw_privs_1, lw_okq q := List.forall_mem_cons.mpr ⟨lw_p0, List.forall_mem_cons.mpr ⟨lw_p1, List.forall_mem_cons.mpr ⟨lw_p2, List.forall_mem_cons.mpr ⟨lw_p3, List.forall_mem_cons.mpr ⟨lw_p4, List.forall_mem_cons.mpr ⟨lw_p5, List.forall_mem_cons.mpr ⟨lw_p6, List.forall_mem_cons.mpr ⟨lw_p7, List.forall_mem_cons.mpr ⟨lw_p8, List.forall_mem_cons.mpr ⟨lw_p9, List.forall_mem_cons.mpr ⟨lw_p10, List.forall_mem_cons.mpr ⟨lw_p11, List.forall_mem_cons.mpr ⟨lw_p12, List.forall_mem_cons.mpr ⟨lw_p13, List.forall_mem_cons.mpr ⟨lw_p14, List.forall_mem_cons.mpr ⟨lw_p15, fun _ h => absurd h List.not_mem_nil⟩⟩⟩⟩⟩⟩⟩⟩⟩⟩⟩⟩⟩⟩⟩⟩
theorem lw_p16 : lw_okq (⟨"RaceTuning$Stump", "moveBelow", "(LRaceTuning$Table;II)V"⟩, 7) := ⟨⟨by decide +kernel, by decide +kernel⟩, List.mem_of_getElem? (i := 121) (by decide +kernel), List.mem_of_getElem? (i := 555) (by decide +kernel), List.mem_of_getElem? (i := 556) (by decide +kernel)⟩
theorem lw_p17 : lw_okq (⟨"RaceTuning$Stump", "keepIfLess", "(LRaceTuning$Table;II)V"⟩, 7) := ⟨⟨by decide +kernel, by decide +kernel⟩, List.mem_of_getElem? (i := 121) (by decide +kernel), List.mem_of_getElem? (i := 560) (by decide +kernel), List.mem_of_getElem? (i := 561) (by decide +kernel)⟩
theorem lw_p18 : lw_okq (⟨"RaceTuning", "findChoice", "(I)V"⟩, 5) := ⟨⟨by decide +kernel, by decide +kernel⟩, List.mem_of_getElem? (i := 16) (by decide +kernel), List.mem_of_getElem? (i := 572) (by decide +kernel), List.mem_of_getElem? (i := 573) (by decide +kernel)⟩
theorem lw_p19 : lw_okq (⟨"RaceTuning", "chosenFor", "(II)I"⟩, 5) := ⟨⟨by decide +kernel, by decide +kernel⟩, List.mem_of_getElem? (i := 16) (by decide +kernel), List.mem_of_getElem? (i := 577) (by decide +kernel), List.mem_of_getElem? (i := 578) (by decide +kernel)⟩
theorem lw_p20 : lw_okq (⟨"java/lang/Throwable", "fillInStackTrace", "(I)Ljava/lang/Throwable;"⟩, 6) := ⟨⟨by decide +kernel, by decide +kernel⟩, List.mem_of_getElem? (i := 629) (by decide +kernel), List.mem_of_getElem? (i := 627) (by decide +kernel), List.mem_of_getElem? (i := 628) (by decide +kernel)⟩
theorem lw_p21 : lw_okq (⟨"RaceTuningModel", "isSetting", "(I)Z"⟩, 34) := ⟨⟨by decide +kernel, by decide +kernel⟩, List.mem_of_getElem? (i := 663) (by decide +kernel), List.mem_of_getElem? (i := 791) (by decide +kernel), List.mem_of_getElem? (i := 792) (by decide +kernel)⟩
theorem lw_p22 : lw_okq (⟨"RaceTuningModel", "isInstance", "(I)Z"⟩, 34) := ⟨⟨by decide +kernel, by decide +kernel⟩, List.mem_of_getElem? (i := 663) (by decide +kernel), List.mem_of_getElem? (i := 795) (by decide +kernel), List.mem_of_getElem? (i := 796) (by decide +kernel)⟩
theorem lw_p23 : lw_okq (⟨"RaceTuningModel", "costAt", "(II)I"⟩, 34) := ⟨⟨by decide +kernel, by decide +kernel⟩, List.mem_of_getElem? (i := 663) (by decide +kernel), List.mem_of_getElem? (i := 805) (by decide +kernel), List.mem_of_getElem? (i := 806) (by decide +kernel)⟩
theorem lw_p24 : lw_okq (⟨"RaceTuningModel", "look", "()V"⟩, 34) := ⟨⟨by decide +kernel, by decide +kernel⟩, List.mem_of_getElem? (i := 663) (by decide +kernel), List.mem_of_getElem? (i := 814) (by decide +kernel), List.mem_of_getElem? (i := 815) (by decide +kernel)⟩
theorem lw_p25 : lw_okq (⟨"RaceTuningModel", "leftMany", "()I"⟩, 34) := ⟨⟨by decide +kernel, by decide +kernel⟩, List.mem_of_getElem? (i := 663) (by decide +kernel), List.mem_of_getElem? (i := 818) (by decide +kernel), List.mem_of_getElem? (i := 819) (by decide +kernel)⟩
theorem lw_p26 : lw_okq (⟨"RaceTuningModel", "isOn", "()Z"⟩, 34) := ⟨⟨by decide +kernel, by decide +kernel⟩, List.mem_of_getElem? (i := 663) (by decide +kernel), List.mem_of_getElem? (i := 826) (by decide +kernel), List.mem_of_getElem? (i := 827) (by decide +kernel)⟩
theorem lw_p27 : lw_okq (⟨"RaceTuningModel", "drop", "()V"⟩, 34) := ⟨⟨by decide +kernel, by decide +kernel⟩, List.mem_of_getElem? (i := 663) (by decide +kernel), List.mem_of_getElem? (i := 834) (by decide +kernel), List.mem_of_getElem? (i := 835) (by decide +kernel)⟩
theorem lw_p28 : lw_okq (⟨"RaceTuningModel", "leader", "()I"⟩, 34) := ⟨⟨by decide +kernel, by decide +kernel⟩, List.mem_of_getElem? (i := 663) (by decide +kernel), List.mem_of_getElem? (i := 838) (by decide +kernel), List.mem_of_getElem? (i := 839) (by decide +kernel)⟩
theorem lw_p29 : lw_okq (⟨"RaceTuningModel", "rankOf", "(I)I"⟩, 34) := ⟨⟨by decide +kernel, by decide +kernel⟩, List.mem_of_getElem? (i := 663) (by decide +kernel), List.mem_of_getElem? (i := 842) (by decide +kernel), List.mem_of_getElem? (i := 843) (by decide +kernel)⟩
theorem lw_p30 : lw_okq (⟨"RaceTuningModel", "findOdds", "(II)V"⟩, 34) := ⟨⟨by decide +kernel, by decide +kernel⟩, List.mem_of_getElem? (i := 663) (by decide +kernel), List.mem_of_getElem? (i := 846) (by decide +kernel), List.mem_of_getElem? (i := 847) (by decide +kernel)⟩
theorem lw_p31 : lw_okq (⟨"RaceTuningModel", "ranOf", "(I)I"⟩, 34) := ⟨⟨by decide +kernel, by decide +kernel⟩, List.mem_of_getElem? (i := 663) (by decide +kernel), List.mem_of_getElem? (i := 850) (by decide +kernel), List.mem_of_getElem? (i := 851) (by decide +kernel)⟩
def lw_privs_2 : List (MethodName × Nat) := [(⟨"RaceTuning$Stump", "moveBelow", "(LRaceTuning$Table;II)V"⟩, 7), (⟨"RaceTuning$Stump", "keepIfLess", "(LRaceTuning$Table;II)V"⟩, 7), (⟨"RaceTuning", "findChoice", "(I)V"⟩, 5), (⟨"RaceTuning", "chosenFor", "(II)I"⟩, 5), (⟨"java/lang/Throwable", "fillInStackTrace", "(I)Ljava/lang/Throwable;"⟩, 6), (⟨"RaceTuningModel", "isSetting", "(I)Z"⟩, 34), (⟨"RaceTuningModel", "isInstance", "(I)Z"⟩, 34), (⟨"RaceTuningModel", "costAt", "(II)I"⟩, 34), (⟨"RaceTuningModel", "look", "()V"⟩, 34), (⟨"RaceTuningModel", "leftMany", "()I"⟩, 34), (⟨"RaceTuningModel", "isOn", "()Z"⟩, 34), (⟨"RaceTuningModel", "drop", "()V"⟩, 34), (⟨"RaceTuningModel", "leader", "()I"⟩, 34), (⟨"RaceTuningModel", "rankOf", "(I)I"⟩, 34), (⟨"RaceTuningModel", "findOdds", "(II)V"⟩, 34), (⟨"RaceTuningModel", "ranOf", "(I)I"⟩, 34)]
theorem lw_r2 : ∀ q ∈ lw_privs_2, lw_okq q := List.forall_mem_cons.mpr ⟨lw_p16, List.forall_mem_cons.mpr ⟨lw_p17, List.forall_mem_cons.mpr ⟨lw_p18, List.forall_mem_cons.mpr ⟨lw_p19, List.forall_mem_cons.mpr ⟨lw_p20, List.forall_mem_cons.mpr ⟨lw_p21, List.forall_mem_cons.mpr ⟨lw_p22, List.forall_mem_cons.mpr ⟨lw_p23, List.forall_mem_cons.mpr ⟨lw_p24, List.forall_mem_cons.mpr ⟨lw_p25, List.forall_mem_cons.mpr ⟨lw_p26, List.forall_mem_cons.mpr ⟨lw_p27, List.forall_mem_cons.mpr ⟨lw_p28, List.forall_mem_cons.mpr ⟨lw_p29, List.forall_mem_cons.mpr ⟨lw_p30, List.forall_mem_cons.mpr ⟨lw_p31, fun _ h => absurd h List.not_mem_nil⟩⟩⟩⟩⟩⟩⟩⟩⟩⟩⟩⟩⟩⟩⟩⟩
theorem lw_p32 : lw_okq (⟨"RaceTuningModel", "wholes", "()I"⟩, 34) := ⟨⟨by decide +kernel, by decide +kernel⟩, List.mem_of_getElem? (i := 663) (by decide +kernel), List.mem_of_getElem? (i := 880) (by decide +kernel), List.mem_of_getElem? (i := 881) (by decide +kernel)⟩
theorem lw_p33 : lw_okq (⟨"RaceTuningModel", "isWhole", "(I)Z"⟩, 34) := ⟨⟨by decide +kernel, by decide +kernel⟩, List.mem_of_getElem? (i := 663) (by decide +kernel), List.mem_of_getElem? (i := 884) (by decide +kernel), List.mem_of_getElem? (i := 885) (by decide +kernel)⟩
theorem lw_p34 : lw_okq (⟨"RaceTuningModel", "findSet", "(I)V"⟩, 34) := ⟨⟨by decide +kernel, by decide +kernel⟩, List.mem_of_getElem? (i := 663) (by decide +kernel), List.mem_of_getElem? (i := 891) (by decide +kernel), List.mem_of_getElem? (i := 892) (by decide +kernel)⟩
theorem lw_p35 : lw_okq (⟨"RaceTuningModel", "leastOf", "(II)I"⟩, 34) := ⟨⟨by decide +kernel, by decide +kernel⟩, List.mem_of_getElem? (i := 663) (by decide +kernel), List.mem_of_getElem? (i := 895) (by decide +kernel), List.mem_of_getElem? (i := 896) (by decide +kernel)⟩
theorem lw_p36 : lw_okq (⟨"RaceTuningModel", "pickOf", "(I)I"⟩, 34) := ⟨⟨by decide +kernel, by decide +kernel⟩, List.mem_of_getElem? (i := 663) (by decide +kernel), List.mem_of_getElem? (i := 906) (by decide +kernel), List.mem_of_getElem? (i := 907) (by decide +kernel)⟩
theorem lw_p37 : lw_okq (⟨"RaceTuningModel", "farOf", "(II)I"⟩, 34) := ⟨⟨by decide +kernel, by decide +kernel⟩, List.mem_of_getElem? (i := 663) (by decide +kernel), List.mem_of_getElem? (i := 910) (by decide +kernel), List.mem_of_getElem? (i := 911) (by decide +kernel)⟩
theorem lw_p38 : lw_okq (⟨"RaceTuningModel", "findStump", "()V"⟩, 34) := ⟨⟨by decide +kernel, by decide +kernel⟩, List.mem_of_getElem? (i := 663) (by decide +kernel), List.mem_of_getElem? (i := 918) (by decide +kernel), List.mem_of_getElem? (i := 919) (by decide +kernel)⟩
theorem lw_p39 : lw_okq (⟨"RaceTuningModel", "sideBest", "(IIZ)I"⟩, 34) := ⟨⟨by decide +kernel, by decide +kernel⟩, List.mem_of_getElem? (i := 663) (by decide +kernel), List.mem_of_getElem? (i := 922) (by decide +kernel), List.mem_of_getElem? (i := 923) (by decide +kernel)⟩
theorem lw_p40 : lw_okq (⟨"RaceTuningModel", "runsOf", "(I)I"⟩, 34) := ⟨⟨by decide +kernel, by decide +kernel⟩, List.mem_of_getElem? (i := 663) (by decide +kernel), List.mem_of_getElem? (i := 934) (by decide +kernel), List.mem_of_getElem? (i := 935) (by decide +kernel)⟩
def lw_privs_3 : List (MethodName × Nat) := [(⟨"RaceTuningModel", "wholes", "()I"⟩, 34), (⟨"RaceTuningModel", "isWhole", "(I)Z"⟩, 34), (⟨"RaceTuningModel", "findSet", "(I)V"⟩, 34), (⟨"RaceTuningModel", "leastOf", "(II)I"⟩, 34), (⟨"RaceTuningModel", "pickOf", "(I)I"⟩, 34), (⟨"RaceTuningModel", "farOf", "(II)I"⟩, 34), (⟨"RaceTuningModel", "findStump", "()V"⟩, 34), (⟨"RaceTuningModel", "sideBest", "(IIZ)I"⟩, 34), (⟨"RaceTuningModel", "runsOf", "(I)I"⟩, 34)]
theorem lw_r3 : ∀ q ∈ lw_privs_3, lw_okq q := List.forall_mem_cons.mpr ⟨lw_p32, List.forall_mem_cons.mpr ⟨lw_p33, List.forall_mem_cons.mpr ⟨lw_p34, List.forall_mem_cons.mpr ⟨lw_p35, List.forall_mem_cons.mpr ⟨lw_p36, List.forall_mem_cons.mpr ⟨lw_p37, List.forall_mem_cons.mpr ⟨lw_p38, List.forall_mem_cons.mpr ⟨lw_p39, List.forall_mem_cons.mpr ⟨lw_p40, fun _ h => absurd h List.not_mem_nil⟩⟩⟩⟩⟩⟩⟩⟩⟩
def lw_privs : List (MethodName × Nat) := lw_privs_1 ++ (lw_privs_2 ++ (lw_privs_3))
def lw_tbl : List Cond := k2_sels lw_privs ++ tables_1
theorem lw_privs_ok : ∀ q ∈ lw_privs, lw_okq q := by
  show ∀ q ∈ lw_privs_1 ++ (lw_privs_2 ++ (lw_privs_3)), lw_okq q
  exact List.forall_mem_append.mpr ⟨lw_r1, List.forall_mem_append.mpr ⟨lw_r2, lw_r3⟩⟩
/-! ===== BEGIN words of one list among another's, by their places ===== -/
theorem goodIn_r {big : List Cond} (ws : List Cond) (ps : List Nat) (hp : ws = ps.filterMap (fun i => big[i]?)) (h : ws.all goodWord = true) : GoodIn big ws := by
  intro w hw
  have h1 := List.all_eq_true.mp h w hw
  rw [hp] at hw
  obtain ⟨i, -, hi⟩ := List.mem_filterMap.mp hw
  have hm : w ∈ big := by first | exact List.mem_of_getElem? hi | exact List.getElem?_mem hi
  exact ⟨hm, good_of_word h1⟩
theorem goodIn_app {big a b : List Cond} (ha : GoodIn big a) (hb : GoodIn big b) : GoodIn big (a ++ b) := fun w h => (List.mem_append.mp h).elim (ha w) (hb w)
theorem goodIn_ca {big a b : List Cond} {c : Cond} (ha : GoodIn big (c :: a)) (hb : GoodIn big b) : GoodIn big (c :: (a ++ b)) := fun w h => (List.mem_cons.mp h).elim (fun e => ha w (List.mem_cons.mpr (Or.inl e))) (fun h => (List.mem_append.mp h).elim (fun h => ha w (List.mem_cons.mpr (Or.inr h))) (hb w))
theorem goodIn_sub {big ws : List Cond} (hm : ∀ w ∈ ws, w ∈ big) (h : ws.all goodWord = true) : GoodIn big ws := fun w hw => ⟨hm w hw, good_of_word (List.all_eq_true.mp h w hw)⟩
/-! ===== END ===== -/

theorem vr_outer (c : ClassId) (N h0 : Nat) : ∀ i : Nat, Jvm.Free.Multi.outerC c N h0 i = arrV c N (fun j => va_rf (if j < i then some (h0 + 1 + j) else none))
  | 0 => by
    show ({ cls := c, slots := Array.replicate N .null, vm := .none } : Cell) = _
    rw [arrV_new]
    refine congrArg (arrV c N) (funext fun j => ?_)
    simp [va_rf]
  | i + 1 => by
    show (Jvm.Free.Multi.outerC c N h0 i).setSlot i (.ref (h0 + 1 + i)) = _
    rw [vr_outer c N h0 i, arrV_store]
    refine congrArg (arrV c N) (funext fun j => ?_)
    by_cases e : j = i
    · subst e
      simp [updV, va_rf]
    · by_cases h : j < i
      · simp [updV, e, h, Nat.lt_succ_of_lt h]
      · simp [updV, e, h, show ¬ j < i + 1 by omega]
/-! ===== BEGIN printed: names, fields, word lists, decode rows ===== -/
def RX0 : String := "RaceTuning$Odds"
def TX0 : u_T := fun k => match k with
  | 0 => ("RaceTuning$Odds", "gaps", "[I", true)
  | 1 => ("RaceTuning$Odds", "isForA", "[Z", true)
  | 2 => ("RaceTuning$Odds", "ways", "[J", true)
  | 3 => ("RaceTuning$Odds", "unlike", "I", false)
  | 4 => ("RaceTuning$Odds", "upper", "J", false)
  | _ => ("RaceTuning$Odds", "lower", "J", false)
def tyX0 : Nat → FieldType := fun k => match k with
  | 0 => .array .int
  | 1 => .array .boolean
  | 2 => .array .long
  | 3 => .int
  | 4 => .long
  | _ => .long
abbrev wsX00 : List Cond := u_ws RX0 TX0 6
theorem nmX0 : ∀ a, a < 6 → ∀ b, b < 6 → a ≠ b → (TX0 a).2.1 ≠ (TX0 b).2.1 := by decide +kernel
theorem tyX0_ok : ∀ k, k < 6 → parseFieldDescriptor (TX0 k).2.2.1 = some (tyX0 k) := by decide +kernel
abbrev cX0_init : ByteArray := prog_2_method_1_code
def yX0_init : MethodName := ⟨RX0, "<init>", "()V"⟩
abbrev cX0_clear : ByteArray := prog_2_method_2_code
def yX0_clear : MethodName := ⟨RX0, "clear", "()V"⟩
abbrev cX0_addRound : ByteArray := prog_2_method_3_code
def yX0_addRound : MethodName := ⟨RX0, "addRound", "(II)V"⟩
abbrev cX0_count : ByteArray := prog_2_method_4_code
def yX0_count : MethodName := ⟨RX0, "count", "(I)V"⟩
abbrev cX0_addSign : ByteArray := prog_2_method_5_code
def yX0_addSign : MethodName := ⟨RX0, "addSign", "(II)V"⟩
abbrev cX0_weightOf : ByteArray := prog_2_method_6_code
def yX0_weightOf : MethodName := ⟨RX0, "weightOf", "(I)I"⟩
abbrev cX0_areAbove : ByteArray := prog_2_method_7_code
def yX0_areAbove : MethodName := ⟨RX0, "areAbove", "(II)Z"⟩
def RX1 : String := "RaceTuning$Portfolio"
def TX1 : u_T := fun k => match k with
  | 0 => ("RaceTuning$Portfolio", "whole", "[I", true)
  | 1 => ("RaceTuning$Portfolio", "places", "[I", true)
  | 2 => ("RaceTuning$Portfolio", "best", "[I", true)
  | 3 => ("RaceTuning$Portfolio", "leastCosts", "[[I", true)
  | 4 => ("RaceTuning$Portfolio", "wholeCount", "I", false)
  | 5 => ("RaceTuning$Portfolio", "size", "I", false)
  | _ => ("RaceTuning$Portfolio", "leastSum", "I", false)
def tyX1 : Nat → FieldType := fun k => match k with
  | 0 => .array .int
  | 1 => .array .int
  | 2 => .array .int
  | 3 => .array (.array .int)
  | 4 => .int
  | 5 => .int
  | _ => .int
abbrev wsX10 : List Cond := u_ws RX1 TX1 7
theorem nmX1 : ∀ a, a < 7 → ∀ b, b < 7 → a ≠ b → (TX1 a).2.1 ≠ (TX1 b).2.1 := by decide +kernel
theorem tyX1_ok : ∀ k, k < 7 → parseFieldDescriptor (TX1 k).2.2.1 = some (tyX1 k) := by decide +kernel
abbrev cX1_init : ByteArray := prog_3_method_1_code
def yX1_init : MethodName := ⟨RX1, "<init>", "()V"⟩
abbrev cX1_find : ByteArray := prog_3_method_2_code
def yX1_find : MethodName := ⟨RX1, "find", "(LRaceTuning$Table;I)V"⟩
abbrev cX1_memberAt : ByteArray := prog_3_method_3_code
def yX1_memberAt : MethodName := ⟨RX1, "memberAt", "(I)I"⟩
abbrev cX1_gatherWhole : ByteArray := prog_3_method_4_code
def yX1_gatherWhole : MethodName := ⟨RX1, "gatherWhole", "(LRaceTuning$Table;)V"⟩
abbrev cX1_placeFrom : ByteArray := prog_3_method_5_code
def yX1_placeFrom : MethodName := ⟨RX1, "placeFrom", "(LRaceTuning$Table;II)V"⟩
abbrev cX1_joinCosts : ByteArray := prog_3_method_6_code
def yX1_joinCosts : MethodName := ⟨RX1, "joinCosts", "(LRaceTuning$Table;II)V"⟩
abbrev cX1_lastThatCanRise : ByteArray := prog_3_method_7_code
def yX1_lastThatCanRise : MethodName := ⟨RX1, "lastThatCanRise", "()I"⟩
abbrev cX1_keepIfLess : ByteArray := prog_3_method_8_code
def yX1_keepIfLess : MethodName := ⟨RX1, "keepIfLess", "(LRaceTuning$Table;)V"⟩
def RX2 : String := "RaceTuning$Race"
def TX2 : u_T := fun k => match k with
  | 0 => ("RaceTuning$Race", "table", "LRaceTuning$Table;", true)
  | 1 => ("RaceTuning$Race", "counter", "LRaceTuning$Odds;", true)
  | 2 => ("RaceTuning$Race", "rules", "LRaceTuning$Rules;", true)
  | 3 => ("RaceTuning$Race", "order", "[I", true)
  | 4 => ("RaceTuning$Race", "entered", "I", true)
  | 5 => ("RaceTuning$Race", "taken", "[[I", true)
  | 6 => ("RaceTuning$Race", "droppedBehind", "[I", true)
  | 7 => ("RaceTuning$Race", "ran", "[I", true)
  | 8 => ("RaceTuning$Race", "standing", "[I", true)
  | 9 => ("RaceTuning$Race", "standingRanks", "[I", true)
  | 10 => ("RaceTuning$Race", "remaining", "I", false)
  | 11 => ("RaceTuning$Race", "next", "I", false)
  | 12 => ("RaceTuning$Race", "rounds", "I", false)
  | 13 => ("RaceTuning$Race", "runs", "I", false)
  | _ => ("RaceTuning$Race", "why", "I", false)
def tyX2 : Nat → FieldType := fun k => match k with
  | 0 => .object "RaceTuning$Table"
  | 1 => .object "RaceTuning$Odds"
  | 2 => .object "RaceTuning$Rules"
  | 3 => .array .int
  | 4 => .int
  | 5 => .array (.array .int)
  | 6 => .array .int
  | 7 => .array .int
  | 8 => .array .int
  | 9 => .array .int
  | 10 => .int
  | 11 => .int
  | 12 => .int
  | 13 => .int
  | _ => .int
abbrev wsX20 : List Cond := u_ws RX2 TX2 15
theorem nmX2 : ∀ a, a < 15 → ∀ b, b < 15 → a ≠ b → (TX2 a).2.1 ≠ (TX2 b).2.1 := by decide +kernel
theorem tyX2_ok : ∀ k, k < 15 → parseFieldDescriptor (TX2 k).2.2.1 = some (tyX2 k) := by decide +kernel
abbrev cX2_init : ByteArray := prog_4_method_1_code
def yX2_init : MethodName := ⟨RX2, "<init>", "(LRaceTuning$Table;LRaceTuning$Odds;LRaceTuning$Rules;)V"⟩
abbrev cX2_begin : ByteArray := prog_4_method_2_code
def yX2_begin : MethodName := ⟨RX2, "begin", "(I)V"⟩
abbrev cX2_whyOver : ByteArray := prog_4_method_3_code
def yX2_whyOver : MethodName := ⟨RX2, "whyOver", "()I"⟩
abbrev cX2_isEntered : ByteArray := prog_4_method_4_code
def yX2_isEntered : MethodName := ⟨RX2, "isEntered", "(I)Z"⟩
abbrev cX2_isLeft : ByteArray := prog_4_method_5_code
def yX2_isLeft : MethodName := ⟨RX2, "isLeft", "(I)Z"⟩
abbrev cX2_instanceAt : ByteArray := prog_4_method_6_code
def yX2_instanceAt : MethodName := ⟨RX2, "instanceAt", "(I)I"⟩
abbrev cX2_remainingAt : ByteArray := prog_4_method_7_code
def yX2_remainingAt : MethodName := ⟨RX2, "remainingAt", "(I)I"⟩
abbrev cX2_leftFrom : ByteArray := prog_4_method_8_code
def yX2_leftFrom : MethodName := ⟨RX2, "leftFrom", "(I)I"⟩
abbrev cX2_runNext : ByteArray := prog_4_method_9_code
def yX2_runNext : MethodName := ⟨RX2, "runNext", "()I"⟩
abbrev cX2_endRound : ByteArray := prog_4_method_10_code
def yX2_endRound : MethodName := ⟨RX2, "endRound", "()V"⟩
abbrev cX2_dropWorse : ByteArray := prog_4_method_11_code
def yX2_dropWorse : MethodName := ⟨RX2, "dropWorse", "()V"⟩
abbrev cX2_leader : ByteArray := prog_4_method_12_code
def yX2_leader : MethodName := ⟨RX2, "leader", "()I"⟩
abbrev cX2_arrange : ByteArray := prog_4_method_13_code
def yX2_arrange : MethodName := ⟨RX2, "arrange", "()I"⟩
abbrev cX2_rankOf : ByteArray := prog_4_method_14_code
def yX2_rankOf : MethodName := ⟨RX2, "rankOf", "(I)I"⟩
abbrev cX2_rankAgainst : ByteArray := prog_4_method_15_code
def yX2_rankAgainst : MethodName := ⟨RX2, "rankAgainst", "(II)I"⟩
abbrev cX2_countOdds : ByteArray := prog_4_method_16_code
def yX2_countOdds : MethodName := ⟨RX2, "countOdds", "(II)V"⟩
abbrev cX2_sumOfFirst : ByteArray := prog_4_method_17_code
def yX2_sumOfFirst : MethodName := ⟨RX2, "sumOfFirst", "(II)J"⟩
def RX3 : String := "RaceTuning$Rules"
def TX3 : u_T := fun k => match k with
  | 0 => ("RaceTuning$Rules", "kind", "I", true)
  | 1 => ("RaceTuning$Rules", "first", "I", true)
  | 2 => ("RaceTuning$Rules", "up", "I", true)
  | 3 => ("RaceTuning$Rules", "down", "I", true)
  | 4 => ("RaceTuning$Rules", "least", "I", true)
  | _ => ("RaceTuning$Rules", "budget", "I", true)
def tyX3 : Nat → FieldType := fun k => match k with
  | 0 => .int
  | 1 => .int
  | 2 => .int
  | 3 => .int
  | 4 => .int
  | _ => .int
abbrev wsX30 : List Cond := u_ws RX3 TX3 6
theorem nmX3 : ∀ a, a < 6 → ∀ b, b < 6 → a ≠ b → (TX3 a).2.1 ≠ (TX3 b).2.1 := by decide +kernel
theorem tyX3_ok : ∀ k, k < 6 → parseFieldDescriptor (TX3 k).2.2.1 = some (tyX3 k) := by decide +kernel
abbrev cX3_init : ByteArray := prog_5_method_1_code
def yX3_init : MethodName := ⟨RX3, "<init>", "(IIIIII)V"⟩
abbrev cX3_areWithinBounds : ByteArray := prog_5_method_2_code
def yX3_areWithinBounds : MethodName := ⟨RX3, "areWithinBounds", "()Z"⟩
def RX4 : String := "RaceTuning$Stump"
def TX4 : u_T := fun k => match k with
  | 0 => ("RaceTuning$Stump", "sumsBelow", "[I", true)
  | 1 => ("RaceTuning$Stump", "sumsFromCut", "[I", true)
  | 2 => ("RaceTuning$Stump", "feature", "I", false)
  | 3 => ("RaceTuning$Stump", "cut", "I", false)
  | 4 => ("RaceTuning$Stump", "settingBelow", "I", false)
  | 5 => ("RaceTuning$Stump", "settingFromCut", "I", false)
  | _ => ("RaceTuning$Stump", "leastSum", "I", false)
def tyX4 : Nat → FieldType := fun k => match k with
  | 0 => .array .int
  | 1 => .array .int
  | 2 => .int
  | 3 => .int
  | 4 => .int
  | 5 => .int
  | _ => .int
abbrev wsX40 : List Cond := u_ws RX4 TX4 7
theorem nmX4 : ∀ a, a < 7 → ∀ b, b < 7 → a ≠ b → (TX4 a).2.1 ≠ (TX4 b).2.1 := by decide +kernel
theorem tyX4_ok : ∀ k, k < 7 → parseFieldDescriptor (TX4 k).2.2.1 = some (tyX4 k) := by decide +kernel
abbrev cX4_init : ByteArray := prog_6_method_1_code
def yX4_init : MethodName := ⟨RX4, "<init>", "()V"⟩
abbrev cX4_find : ByteArray := prog_6_method_2_code
def yX4_find : MethodName := ⟨RX4, "find", "(LRaceTuning$Table;)V"⟩
abbrev cX4_settingFor : ByteArray := prog_6_method_3_code
def yX4_settingFor : MethodName := ⟨RX4, "settingFor", "(LRaceTuning$Table;I)I"⟩
abbrev cX4_putAllFromCut : ByteArray := prog_6_method_4_code
def yX4_putAllFromCut : MethodName := ⟨RX4, "putAllFromCut", "(LRaceTuning$Table;)V"⟩
abbrev cX4_moveBelow : ByteArray := prog_6_method_5_code
def yX4_moveBelow : MethodName := ⟨RX4, "moveBelow", "(LRaceTuning$Table;II)V"⟩
abbrev cX4_keepIfLess : ByteArray := prog_6_method_6_code
def yX4_keepIfLess : MethodName := ⟨RX4, "keepIfLess", "(LRaceTuning$Table;II)V"⟩
abbrev cX4_leastOf : ByteArray := prog_6_method_7_code
def yX4_leastOf : MethodName := ⟨RX4, "leastOf", "(LRaceTuning$Table;[I)I"⟩
def RX5 : String := "RaceTuning$Table"
def TX5 : u_T := fun k => match k with
  | 0 => ("RaceTuning$Table", "costs", "[[I", true)
  | 1 => ("RaceTuning$Table", "toldOf", "[I", true)
  | 2 => ("RaceTuning$Table", "features", "[[I", true)
  | 3 => ("RaceTuning$Table", "learning", "[Z", true)
  | 4 => ("RaceTuning$Table", "settings", "I", false)
  | _ => ("RaceTuning$Table", "instances", "I", false)
def tyX5 : Nat → FieldType := fun k => match k with
  | 0 => .array (.array .int)
  | 1 => .array .int
  | 2 => .array (.array .int)
  | 3 => .array .boolean
  | 4 => .int
  | _ => .int
abbrev wsX50 : List Cond := u_ws RX5 TX5 6
theorem nmX5 : ∀ a, a < 6 → ∀ b, b < 6 → a ≠ b → (TX5 a).2.1 ≠ (TX5 b).2.1 := by decide +kernel
theorem tyX5_ok : ∀ k, k < 6 → parseFieldDescriptor (TX5 k).2.2.1 = some (tyX5 k) := by decide +kernel
abbrev cX5_init : ByteArray := prog_7_method_1_code
def yX5_init : MethodName := ⟨RX5, "<init>", "()V"⟩
abbrev cX5_addSetting : ByteArray := prog_7_method_2_code
def yX5_addSetting : MethodName := ⟨RX5, "addSetting", "()I"⟩
abbrev cX5_addInstance : ByteArray := prog_7_method_3_code
def yX5_addInstance : MethodName := ⟨RX5, "addInstance", "(IIZ)I"⟩
abbrev cX5_hasSetting : ByteArray := prog_7_method_4_code
def yX5_hasSetting : MethodName := ⟨RX5, "hasSetting", "(I)Z"⟩
abbrev cX5_hasInstance : ByteArray := prog_7_method_5_code
def yX5_hasInstance : MethodName := ⟨RX5, "hasInstance", "(I)Z"⟩
abbrev cX5_isLearning : ByteArray := prog_7_method_6_code
def yX5_isLearning : MethodName := ⟨RX5, "isLearning", "(I)Z"⟩
abbrev cX5_costAt : ByteArray := prog_7_method_7_code
def yX5_costAt : MethodName := ⟨RX5, "costAt", "(II)I"⟩
abbrev cX5_tell : ByteArray := prog_7_method_8_code
def yX5_tell : MethodName := ⟨RX5, "tell", "(III)I"⟩
abbrev cX5_isWhole : ByteArray := prog_7_method_9_code
def yX5_isWhole : MethodName := ⟨RX5, "isWhole", "(I)Z"⟩
abbrev cX5_countWhole : ByteArray := prog_7_method_10_code
def yX5_countWhole : MethodName := ⟨RX5, "countWhole", "()I"⟩
abbrev cX5_featureAt : ByteArray := prog_7_method_11_code
def yX5_featureAt : MethodName := ⟨RX5, "featureAt", "(II)I"⟩
abbrev cX5_learningOnes : ByteArray := prog_7_method_12_code
def yX5_learningOnes : MethodName := ⟨RX5, "learningOnes", "()[I"⟩
abbrev cX5_nearestLearning : ByteArray := prog_7_method_13_code
def yX5_nearestLearning : MethodName := ⟨RX5, "nearestLearning", "(I)I"⟩
abbrev cX5_distance : ByteArray := prog_7_method_14_code
def yX5_distance : MethodName := ⟨RX5, "distance", "(II)I"⟩
abbrev cX5_bestOn : ByteArray := prog_7_method_15_code
def yX5_bestOn : MethodName := ⟨RX5, "bestOn", "(I)I"⟩
def RX6 : String := "RaceTuning"
def TX6 : u_T := fun k => match k with
  | 0 => ("RaceTuning", "table", "LRaceTuning$Table;", true)
  | 1 => ("RaceTuning", "counter", "LRaceTuning$Odds;", true)
  | 2 => ("RaceTuning", "few", "LRaceTuning$Portfolio;", true)
  | 3 => ("RaceTuning", "split", "LRaceTuning$Stump;", true)
  | _ => ("RaceTuning", "current", "LRaceTuning$Race;", false)
def tyX6 : Nat → FieldType := fun k => match k with
  | 0 => .object "RaceTuning$Table"
  | 1 => .object "RaceTuning$Odds"
  | 2 => .object "RaceTuning$Portfolio"
  | 3 => .object "RaceTuning$Stump"
  | _ => .object "RaceTuning$Race"
abbrev wsX60 : List Cond := u_ws RX6 TX6 5
theorem nmX6 : ∀ a, a < 5 → ∀ b, b < 5 → a ≠ b → (TX6 a).2.1 ≠ (TX6 b).2.1 := by decide +kernel
theorem tyX6_ok : ∀ k, k < 5 → parseFieldDescriptor (TX6 k).2.2.1 = some (tyX6 k) := by decide +kernel
abbrev cX6_init : ByteArray := prog_1_method_1_code
def yX6_init : MethodName := ⟨RX6, "<init>", "()V"⟩
abbrev cX6_setting : ByteArray := prog_1_method_2_code
def yX6_setting : MethodName := ⟨RX6, "setting", "()I"⟩
abbrev cX6_instance : ByteArray := prog_1_method_3_code
def yX6_instance : MethodName := ⟨RX6, "instance", "(IIZ)I"⟩
abbrev cX6_cost : ByteArray := prog_1_method_4_code
def yX6_cost : MethodName := ⟨RX6, "cost", "(III)I"⟩
abbrev cX6_costOf : ByteArray := prog_1_method_5_code
def yX6_costOf : MethodName := ⟨RX6, "costOf", "(II)I"⟩
abbrev cX6_race : ByteArray := prog_1_method_6_code
def yX6_race : MethodName := ⟨RX6, "race", "(IIIIIII)I"⟩
abbrev cX6_wants : ByteArray := prog_1_method_7_code
def yX6_wants : MethodName := ⟨RX6, "wants", "(I)I"⟩
abbrev cX6_run : ByteArray := prog_1_method_8_code
def yX6_run : MethodName := ⟨RX6, "run", "()I"⟩
abbrev cX6_left : ByteArray := prog_1_method_9_code
def yX6_left : MethodName := ⟨RX6, "left", "(I)I"⟩
abbrev cX6_raceOf : ByteArray := prog_1_method_10_code
def yX6_raceOf : MethodName := ⟨RX6, "raceOf", "(I)I"⟩
abbrev cX6_rank : ByteArray := prog_1_method_11_code
def yX6_rank : MethodName := ⟨RX6, "rank", "(I)I"⟩
abbrev cX6_dropped : ByteArray := prog_1_method_12_code
def yX6_dropped : MethodName := ⟨RX6, "dropped", "(I)I"⟩
abbrev cX6_odds : ByteArray := prog_1_method_13_code
def yX6_odds : MethodName := ⟨RX6, "odds", "(III)J"⟩
abbrev cX6_portfolio : ByteArray := prog_1_method_14_code
def yX6_portfolio : MethodName := ⟨RX6, "portfolio", "(II)I"⟩
abbrev cX6_pick : ByteArray := prog_1_method_15_code
def yX6_pick : MethodName := ⟨RX6, "pick", "(I)I"⟩
abbrev cX6_stump : ByteArray := prog_1_method_16_code
def yX6_stump : MethodName := ⟨RX6, "stump", "(I)I"⟩
abbrev cX6_heldOut : ByteArray := prog_1_method_17_code
def yX6_heldOut : MethodName := ⟨RX6, "heldOut", "(I)I"⟩
abbrev cX6_mean : ByteArray := prog_1_method_18_code
def yX6_mean : MethodName := ⟨RX6, "mean", "(III)J"⟩
abbrev cX6_isWithin : ByteArray := prog_1_method_19_code
def yX6_isWithin : MethodName := ⟨RX6, "isWithin", "(III)Z"⟩
abbrev cX6_pickFor : ByteArray := prog_1_method_20_code
def yX6_pickFor : MethodName := ⟨RX6, "pickFor", "(I)I"⟩
abbrev cX6_findChoice : ByteArray := prog_1_method_21_code
def yX6_findChoice : MethodName := ⟨RX6, "findChoice", "(I)V"⟩
abbrev cX6_chosenFor : ByteArray := prog_1_method_22_code
def yX6_chosenFor : MethodName := ⟨RX6, "chosenFor", "(II)I"⟩
abbrev cX6_lowestTerms : ByteArray := prog_1_method_23_code
def yX6_lowestTerms : MethodName := ⟨RX6, "lowestTerms", "(JJI)J"⟩
abbrev cX6_greatestDivisor : ByteArray := prog_1_method_24_code
def yX6_greatestDivisor : MethodName := ⟨RX6, "greatestDivisor", "(JJ)J"⟩
def RX7 : String := "RaceTuningModel"
def TX7 : u_T := fun k => match k with
  | 0 => ("RaceTuningModel", "thrown", "I", false)
  | 1 => ("RaceTuningModel", "settings", "I", false)
  | 2 => ("RaceTuningModel", "instances", "I", false)
  | 3 => ("RaceTuningModel", "feature", "[I", true)
  | 4 => ("RaceTuningModel", "isHeld", "[Z", true)
  | 5 => ("RaceTuningModel", "told", "[I", true)
  | 6 => ("RaceTuningModel", "kind", "I", false)
  | 7 => ("RaceTuningModel", "firstRounds", "I", false)
  | 8 => ("RaceTuningModel", "up", "I", false)
  | 9 => ("RaceTuningModel", "down", "I", false)
  | 10 => ("RaceTuningModel", "least", "I", false)
  | 11 => ("RaceTuningModel", "budget", "I", false)
  | 12 => ("RaceTuningModel", "entered", "I", false)
  | 13 => ("RaceTuningModel", "places", "I", false)
  | 14 => ("RaceTuningModel", "order", "[I", true)
  | 15 => ("RaceTuningModel", "rounds", "I", false)
  | 16 => ("RaceTuningModel", "runs", "I", false)
  | 17 => ("RaceTuningModel", "over", "I", false)
  | 18 => ("RaceTuningModel", "turn", "I", false)
  | 19 => ("RaceTuningModel", "out", "[I", true)
  | 20 => ("RaceTuningModel", "ranks", "[I", true)
  | 21 => ("RaceTuningModel", "oddsUp", "J", false)
  | 22 => ("RaceTuningModel", "oddsDown", "J", false)
  | 23 => ("RaceTuningModel", "gap", "[I", true)
  | 24 => ("RaceTuningModel", "isLess", "[Z", true)
  | 25 => ("RaceTuningModel", "ways", "[J", true)
  | 26 => ("RaceTuningModel", "bestSet", "I", false)
  | 27 => ("RaceTuningModel", "bestSum", "I", false)
  | 28 => ("RaceTuningModel", "stumpFeature", "I", false)
  | 29 => ("RaceTuningModel", "stumpCut", "I", false)
  | 30 => ("RaceTuningModel", "stumpBelow", "I", false)
  | 31 => ("RaceTuningModel", "stumpOther", "I", false)
  | 32 => ("RaceTuningModel", "stumpSum", "I", false)
  | _ => ("RaceTuningModel", "sideSum", "I", false)
def tyX7 : Nat → FieldType := fun k => match k with
  | 0 => .int
  | 1 => .int
  | 2 => .int
  | 3 => .array .int
  | 4 => .array .boolean
  | 5 => .array .int
  | 6 => .int
  | 7 => .int
  | 8 => .int
  | 9 => .int
  | 10 => .int
  | 11 => .int
  | 12 => .int
  | 13 => .int
  | 14 => .array .int
  | 15 => .int
  | 16 => .int
  | 17 => .int
  | 18 => .int
  | 19 => .array .int
  | 20 => .array .int
  | 21 => .long
  | 22 => .long
  | 23 => .array .int
  | 24 => .array .boolean
  | 25 => .array .long
  | 26 => .int
  | 27 => .int
  | 28 => .int
  | 29 => .int
  | 30 => .int
  | 31 => .int
  | 32 => .int
  | _ => .int
abbrev wsX70 : List Cond := u_ws RX7 TX7 34
theorem nmX7 : ∀ a, a < 34 → ∀ b, b < 34 → a ≠ b → (TX7 a).2.1 ≠ (TX7 b).2.1 := by decide +kernel
theorem tyX7_ok : ∀ k, k < 34 → parseFieldDescriptor (TX7 k).2.2.1 = some (tyX7 k) := by decide +kernel
abbrev cX7_init : ByteArray := prog_9_method_1_code
def yX7_init : MethodName := ⟨RX7, "<init>", "()V"⟩
abbrev cX7_thrown : ByteArray := prog_9_method_2_code
def yX7_thrown : MethodName := ⟨RX7, "thrown", "()I"⟩
abbrev cX7_in : ByteArray := prog_9_method_3_code
def yX7_in : MethodName := ⟨RX7, "in", "(III)Z"⟩
abbrev cX7_isSetting : ByteArray := prog_9_method_4_code
def yX7_isSetting : MethodName := ⟨RX7, "isSetting", "(I)Z"⟩
abbrev cX7_isInstance : ByteArray := prog_9_method_5_code
def yX7_isInstance : MethodName := ⟨RX7, "isInstance", "(I)Z"⟩
abbrev cX7_costAt : ByteArray := prog_9_method_6_code
def yX7_costAt : MethodName := ⟨RX7, "costAt", "(II)I"⟩
abbrev cX7_setting : ByteArray := prog_9_method_7_code
def yX7_setting : MethodName := ⟨RX7, "setting", "()I"⟩
abbrev cX7_instance : ByteArray := prog_9_method_8_code
def yX7_instance : MethodName := ⟨RX7, "instance", "(IIZ)I"⟩
abbrev cX7_cost : ByteArray := prog_9_method_9_code
def yX7_cost : MethodName := ⟨RX7, "cost", "(III)I"⟩
abbrev cX7_costOf : ByteArray := prog_9_method_10_code
def yX7_costOf : MethodName := ⟨RX7, "costOf", "(II)I"⟩
abbrev cX7_leftMany : ByteArray := prog_9_method_11_code
def yX7_leftMany : MethodName := ⟨RX7, "leftMany", "()I"⟩
abbrev cX7_look : ByteArray := prog_9_method_12_code
def yX7_look : MethodName := ⟨RX7, "look", "()V"⟩
abbrev cX7_race : ByteArray := prog_9_method_13_code
def yX7_race : MethodName := ⟨RX7, "race", "(IIIIIII)I"⟩
abbrev cX7_isOn : ByteArray := prog_9_method_14_code
def yX7_isOn : MethodName := ⟨RX7, "isOn", "()Z"⟩
abbrev cX7_wants : ByteArray := prog_9_method_15_code
def yX7_wants : MethodName := ⟨RX7, "wants", "(I)I"⟩
abbrev cX7_run : ByteArray := prog_9_method_16_code
def yX7_run : MethodName := ⟨RX7, "run", "()I"⟩
abbrev cX7_rankOf : ByteArray := prog_9_method_17_code
def yX7_rankOf : MethodName := ⟨RX7, "rankOf", "(I)I"⟩
abbrev cX7_leader : ByteArray := prog_9_method_18_code
def yX7_leader : MethodName := ⟨RX7, "leader", "()I"⟩
abbrev cX7_drop : ByteArray := prog_9_method_19_code
def yX7_drop : MethodName := ⟨RX7, "drop", "()V"⟩
abbrev cX7_ranOf : ByteArray := prog_9_method_20_code
def yX7_ranOf : MethodName := ⟨RX7, "ranOf", "(I)I"⟩
abbrev cX7_findOdds : ByteArray := prog_9_method_21_code
def yX7_findOdds : MethodName := ⟨RX7, "findOdds", "(II)V"⟩
abbrev cX7_left : ByteArray := prog_9_method_22_code
def yX7_left : MethodName := ⟨RX7, "left", "(I)I"⟩
abbrev cX7_raceOf : ByteArray := prog_9_method_23_code
def yX7_raceOf : MethodName := ⟨RX7, "raceOf", "(I)I"⟩
abbrev cX7_rank : ByteArray := prog_9_method_24_code
def yX7_rank : MethodName := ⟨RX7, "rank", "(I)I"⟩
abbrev cX7_dropped : ByteArray := prog_9_method_25_code
def yX7_dropped : MethodName := ⟨RX7, "dropped", "(I)I"⟩
abbrev cX7_odds : ByteArray := prog_9_method_26_code
def yX7_odds : MethodName := ⟨RX7, "odds", "(III)J"⟩
abbrev cX7_isWhole : ByteArray := prog_9_method_27_code
def yX7_isWhole : MethodName := ⟨RX7, "isWhole", "(I)Z"⟩
abbrev cX7_wholes : ByteArray := prog_9_method_28_code
def yX7_wholes : MethodName := ⟨RX7, "wholes", "()I"⟩
abbrev cX7_many : ByteArray := prog_9_method_29_code
def yX7_many : MethodName := ⟨RX7, "many", "(I)I"⟩
abbrev cX7_isAhead : ByteArray := prog_9_method_30_code
def yX7_isAhead : MethodName := ⟨RX7, "isAhead", "(II)Z"⟩
abbrev cX7_findSet : ByteArray := prog_9_method_31_code
def yX7_findSet : MethodName := ⟨RX7, "findSet", "(I)V"⟩
abbrev cX7_leastOf : ByteArray := prog_9_method_32_code
def yX7_leastOf : MethodName := ⟨RX7, "leastOf", "(II)I"⟩
abbrev cX7_portfolio : ByteArray := prog_9_method_33_code
def yX7_portfolio : MethodName := ⟨RX7, "portfolio", "(II)I"⟩
abbrev cX7_farOf : ByteArray := prog_9_method_34_code
def yX7_farOf : MethodName := ⟨RX7, "farOf", "(II)I"⟩
abbrev cX7_pickOf : ByteArray := prog_9_method_35_code
def yX7_pickOf : MethodName := ⟨RX7, "pickOf", "(I)I"⟩
abbrev cX7_pick : ByteArray := prog_9_method_36_code
def yX7_pick : MethodName := ⟨RX7, "pick", "(I)I"⟩
abbrev cX7_sideBest : ByteArray := prog_9_method_37_code
def yX7_sideBest : MethodName := ⟨RX7, "sideBest", "(IIZ)I"⟩
abbrev cX7_findStump : ByteArray := prog_9_method_38_code
def yX7_findStump : MethodName := ⟨RX7, "findStump", "()V"⟩
abbrev cX7_stump : ByteArray := prog_9_method_39_code
def yX7_stump : MethodName := ⟨RX7, "stump", "(I)I"⟩
abbrev cX7_heldOut : ByteArray := prog_9_method_40_code
def yX7_heldOut : MethodName := ⟨RX7, "heldOut", "(I)I"⟩
abbrev cX7_runsOf : ByteArray := prog_9_method_41_code
def yX7_runsOf : MethodName := ⟨RX7, "runsOf", "(I)I"⟩
abbrev cX7_mean : ByteArray := prog_9_method_42_code
def yX7_mean : MethodName := ⟨RX7, "mean", "(III)J"⟩
def RJ9 : String := "java/lang/Math"
def TJ9 : u_T := fun k => match k with
  | _ => ("", "", "", false)
def tyJ9 : Nat → FieldType := fun k => match k with
  | _ => .int
abbrev wsJ90 : List Cond := u_ws RJ9 TJ9 0
theorem nmJ9 : ∀ a, a < 0 → ∀ b, b < 0 → a ≠ b → (TJ9 a).2.1 ≠ (TJ9 b).2.1 := by decide +kernel
theorem tyJ9_ok : ∀ k, k < 0 → parseFieldDescriptor (TJ9 k).2.2.1 = some (tyJ9 k) := by decide +kernel
abbrev cJ9_abs_0f7a4 : ByteArray := prog_12_method_59_code
def yJ9_abs_0f7a4 : MethodName := ⟨RJ9, "abs", "(I)I"⟩
abbrev cJ9_max_7cf53 : ByteArray := prog_12_method_65_code
def yJ9_max_7cf53 : MethodName := ⟨RJ9, "max", "(II)I"⟩
abbrev cJ9_min_7cf53 : ByteArray := prog_12_method_69_code
def yJ9_min_7cf53 : MethodName := ⟨RJ9, "min", "(II)I"⟩
def RJ0 : String := "java/lang/String"
def TJ0 : u_T := fun k => match k with
  | _ => ("", "", "", false)
def tyJ0 : Nat → FieldType := fun k => match k with
  | _ => .int
abbrev wsJ00 : List Cond := u_ws RJ0 TJ0 0
theorem nmJ0 : ∀ a, a < 0 → ∀ b, b < 0 → a ≠ b → (TJ0 a).2.1 ≠ (TJ0 b).2.1 := by decide +kernel
theorem tyJ0_ok : ∀ k, k < 0 → parseFieldDescriptor (TJ0 k).2.2.1 = some (tyJ0 k) := by decide +kernel
def RJ7 : String := "java/util/Arrays"
def TJ7 : u_T := fun k => match k with
  | _ => ("", "", "", false)
def tyJ7 : Nat → FieldType := fun k => match k with
  | _ => .int
abbrev wsJ70 : List Cond := u_ws RJ7 TJ7 0
theorem nmJ7 : ∀ a, a < 0 → ∀ b, b < 0 → a ≠ b → (TJ7 a).2.1 ≠ (TJ7 b).2.1 := by decide +kernel
theorem tyJ7_ok : ∀ k, k < 0 → parseFieldDescriptor (TJ7 k).2.2.1 = some (tyJ7 k) := by decide +kernel
abbrev cJ7_fill_d0a16 : ByteArray := prog_16_method_101_code
def yJ7_fill_d0a16 : MethodName := ⟨RJ7, "fill", "([JJ)V"⟩
abbrev cJ7_fill_53178 : ByteArray := prog_16_method_103_code
def yJ7_fill_53178 : MethodName := ⟨RJ7, "fill", "([II)V"⟩
def RL : String := "RaceTuningLaw"
abbrev cL_mean : ByteArray := method_3_code
def yL_mean : MethodName := ⟨RL, "mean", "(LRaceTuning;III[J)I"⟩
abbrev cL_law : ByteArray := code
def yL_law : MethodName := ⟨RL, "law", "([I)Z"⟩
abbrev vwCl : List vw_C := [(RX0, TX0, 6), (RX1, TX1, 7), (RX2, TX2, 15), (RX3, TX3, 6), (RX4, TX4, 7), (RX5, TX5, 6), (RX6, TX6, 5), (RX7, TX7, 34)]
