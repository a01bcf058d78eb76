section
-- ===== PART A: goes FIRST, ahead of the names: the tables' words, and 'selects' of the private methods out of them =====
/-- a private method of a class that the tables say can be made, by its rows of tables_1 -/
def lw_okq (q : MethodName × Nat) : Prop := (q.1.cls ≠ "java/lang/invoke/MethodHandle" ∧ q.1.cls ≠ "java/lang/invoke/VarHandle") ∧ Cond.instantiable q.1.cls q.2 ∈ tables_1 ∧ Cond.privateMethod q.1 ∈ tables_1 ∧ Cond.instanceMethod q.1 ∈ tables_1
theorem lw_p0 : lw_okq (⟨"RaceTuning$Race", "whyOver", "()I"⟩, 15) := ⟨⟨by decide +kernel, by decide +kernel⟩, List.mem_of_getElem? (i := 257) (by decide +kernel), List.mem_of_getElem? (i := 327) (by decide +kernel), List.mem_of_getElem? (i := 328) (by decide +kernel)⟩
theorem lw_p1 : lw_okq (⟨"RaceTuning$Race", "leftFrom", "(I)I"⟩, 15) := ⟨⟨by decide +kernel, by decide +kernel⟩, List.mem_of_getElem? (i := 257) (by decide +kernel), List.mem_of_getElem? (i := 353) (by decide +kernel), List.mem_of_getElem? (i := 354) (by decide +kernel)⟩
theorem lw_p2 : lw_okq (⟨"RaceTuning$Race", "endRound", "()V"⟩, 15) := ⟨⟨by decide +kernel, by decide +kernel⟩, List.mem_of_getElem? (i := 257) (by decide +kernel), List.mem_of_getElem? (i := 357) (by decide +kernel), List.mem_of_getElem? (i := 358) (by decide +kernel)⟩
theorem lw_p3 : lw_okq (⟨"RaceTuning$Race", "dropWorse", "()V"⟩, 15) := ⟨⟨by decide +kernel, by decide +kernel⟩, List.mem_of_getElem? (i := 257) (by decide +kernel), List.mem_of_getElem? (i := 361) (by decide +kernel), List.mem_of_getElem? (i := 362) (by decide +kernel)⟩
theorem lw_p4 : lw_okq (⟨"RaceTuning$Race", "arrange", "()I"⟩, 15) := ⟨⟨by decide +kernel, by decide +kernel⟩, List.mem_of_getElem? (i := 257) (by decide +kernel), List.mem_of_getElem? (i := 365) (by decide +kernel), List.mem_of_getElem? (i := 366) (by decide +kernel)⟩
theorem lw_p5 : lw_okq (⟨"RaceTuning$Race", "rankAgainst", "(II)I"⟩, 15) := ⟨⟨by decide +kernel, by decide +kernel⟩, List.mem_of_getElem? (i := 257) (by decide +kernel), List.mem_of_getElem? (i := 373) (by decide +kernel), List.mem_of_getElem? (i := 374) (by decide +kernel)⟩
theorem lw_p6 : lw_okq (⟨"RaceTuning$Odds", "weightOf", "(I)I"⟩, 6) := ⟨⟨by decide +kernel, by decide +kernel⟩, List.mem_of_getElem? (i := 63) (by decide +kernel), List.mem_of_getElem? (i := 406) (by decide +kernel), List.mem_of_getElem? (i := 407) (by decide +kernel)⟩
theorem lw_p7 : lw_okq (⟨"RaceTuning$Odds", "addSign", "(II)V"⟩, 6) := ⟨⟨by decide +kernel, by decide +kernel⟩, List.mem_of_getElem? (i := 63) (by decide +kernel), List.mem_of_getElem? (i := 411) (by decide +kernel), List.mem_of_getElem? (i := 412) (by decide +kernel)⟩
theorem lw_p8 : lw_okq (⟨"RaceTuning$Portfolio", "gatherWhole", "(LRaceTuning$Table;)V"⟩, 7) := ⟨⟨by decide +kernel, by decide +kernel⟩, List.mem_of_getElem? (i := 91) (by decide +kernel), List.mem_of_getElem? (i := 475) (by decide +kernel), List.mem_of_getElem? (i := 476) (by decide +kernel)⟩
theorem lw_p9 : lw_okq (⟨"RaceTuning$Portfolio", "placeFrom", "(LRaceTuning$Table;II)V"⟩, 7) := ⟨⟨by decide +kernel, by decide +kernel⟩, List.mem_of_getElem? (i := 91) (by decide +kernel), List.mem_of_getElem? (i := 487) (by decide +kernel), List.mem_of_getElem? (i := 488) (by decide +kernel)⟩
theorem lw_p10 : lw_okq (⟨"RaceTuning$Portfolio", "joinCosts", "(LRaceTuning$Table;II)V"⟩, 7) := ⟨⟨by decide +kernel, by decide +kernel⟩, List.mem_of_getElem? (i := 91) (by decide +kernel), List.mem_of_getElem? (i := 491) (by decide +kernel), List.mem_of_getElem? (i := 492) (by decide +kernel)⟩
theorem lw_p11 : lw_okq (⟨"RaceTuning$Portfolio", "keepIfLess", "(LRaceTuning$Table;)V"⟩, 7) := ⟨⟨by decide +kernel, by decide +kernel⟩, List.mem_of_getElem? (i := 91) (by decide +kernel), List.mem_of_getElem? (i := 496) (by decide +kernel), List.mem_of_getElem? (i := 497) (by decide +kernel)⟩
theorem lw_p12 : lw_okq (⟨"RaceTuning$Portfolio", "lastThatCanRise", "()I"⟩, 7) := ⟨⟨by decide +kernel, by decide +kernel⟩, List.mem_of_getElem? (i := 91) (by decide +kernel), List.mem_of_getElem? (i := 504) (by decide +kernel), List.mem_of_getElem? (i := 505) (by decide +kernel)⟩
theorem lw_p13 : lw_okq (⟨"RaceTuning", "pickFor", "(I)I"⟩, 5) := ⟨⟨by decide +kernel, by decide +kernel⟩, List.mem_of_getElem? (i := 16) (by decide +kernel), List.mem_of_getElem? (i := 516) (by decide +kernel), List.mem_of_getElem? (i := 517) (by decide +kernel)⟩
theorem lw_p14 : lw_okq (⟨"RaceTuning$Table", "distance", "(II)I"⟩, 6) := ⟨⟨by decide +kernel, by decide +kernel⟩, List.mem_of_getElem? (i := 24) (by decide +kernel), List.mem_of_getElem? (i := 525) (by decide +kernel), List.mem_of_getElem? (i := 526) (by decide +kernel)⟩
theorem lw_p15 : lw_okq (⟨"RaceTuning$Stump", "putAllFromCut", "(LRaceTuning$Table;)V"⟩, 7) := ⟨⟨by decide +kernel, by decide +kernel⟩, List.mem_of_getElem? (i := 121) (by decide +kernel), List.mem_of_getElem? (i := 548) (by decide +kernel), List.mem_of_getElem? (i := 549) (by decide +kernel)⟩
def lw_privs_1 : List (MethodName × Nat) := [(⟨"RaceTuning$Race", "whyOver", "()I"⟩, 15), (⟨"RaceTuning$Race", "leftFrom", "(I)I"⟩, 15), (⟨"RaceTuning$Race", "endRound", "()V"⟩, 15), (⟨"RaceTuning$Race", "dropWorse", "()V"⟩, 15), (⟨"RaceTuning$Race", "arrange", "()I"⟩, 15), (⟨"RaceTuning$Race", "rankAgainst", "(II)I"⟩, 15), (⟨"RaceTuning$Odds", "weightOf", "(I)I"⟩, 6), (⟨"RaceTuning$Odds", "addSign", "(II)V"⟩, 6), (⟨"RaceTuning$Portfolio", "gatherWhole", "(LRaceTuning$Table;)V"⟩, 7), (⟨"RaceTuning$Portfolio", "placeFrom", "(LRaceTuning$Table;II)V"⟩, 7), (⟨"RaceTuning$Portfolio", "joinCosts", "(LRaceTuning$Table;II)V"⟩, 7), (⟨"RaceTuning$Portfolio", "keepIfLess", "(LRaceTuning$Table;)V"⟩, 7), (⟨"RaceTuning$Portfolio", "lastThatCanRise", "()I"⟩, 7), (⟨"RaceTuning", "pickFor", "(I)I"⟩, 5), (⟨"RaceTuning$Table", "distance", "(II)I"⟩, 6), (⟨"RaceTuning$Stump", "putAllFromCut", "(LRaceTuning$Table;)V"⟩, 7)]
theorem lw_r1 : ∀ q ∈ lw_privs_1, lw_okq q := List.forall_mem_cons.mpr ⟨lw_p0, List.forall_mem_cons.mpr ⟨lw_p1, List.forall_mem_cons.mpr ⟨lw_p2, List.forall_mem_cons.mpr ⟨lw_p3, List.forall_mem_cons.mpr ⟨lw_p4, List.forall_mem_cons.mpr ⟨lw_p5, List.forall_mem_cons.mpr ⟨lw_p6, List.forall_mem_cons.mpr ⟨lw_p7, List.forall_mem_cons.mpr ⟨lw_p8, List.forall_mem_cons.mpr ⟨lw_p9, List.forall_mem_cons.mpr ⟨lw_p10, List.forall_mem_cons.mpr ⟨lw_p11, List.forall_mem_cons.mpr ⟨lw_p12, List.forall_mem_cons.mpr ⟨lw_p13, List.forall_mem_cons.mpr ⟨lw_p14, List.forall_mem_cons.mpr ⟨lw_p15, fun _ h => absurd h List.not_mem_nil⟩⟩⟩⟩⟩⟩⟩⟩⟩⟩⟩⟩⟩⟩⟩⟩
theorem lw_p16 : lw_okq (⟨"RaceTuning$Stump", "moveBelow", "(LRaceTuning$Table;II)V"⟩, 7) := ⟨⟨by decide +kernel, by decide +kernel⟩, List.mem_of_getElem? (i := 121) (by decide +kernel), List.mem_of_getElem? (i := 555) (by decide +kernel), List.mem_of_getElem? (i := 556) (by decide +kernel)⟩
theorem lw_p17 : lw_okq (⟨"RaceTuning$Stump", "keepIfLess", "(LRaceTuning$Table;II)V"⟩, 7) := ⟨⟨by decide +kernel, by decide +kernel⟩, List.mem_of_getElem? (i := 121) (by decide +kernel), List.mem_of_getElem? (i := 560) (by decide +kernel), List.mem_of_getElem? (i := 561) (by decide +kernel)⟩
theorem lw_p18 : lw_okq (⟨"RaceTuning", "findChoice", "(I)V"⟩, 5) := ⟨⟨by decide +kernel, by decide +kernel⟩, List.mem_of_getElem? (i := 16) (by decide +kernel), List.mem_of_getElem? (i := 572) (by decide +kernel), List.mem_of_getElem? (i := 573) (by decide +kernel)⟩
theorem lw_p19 : lw_okq (⟨"RaceTuning", "chosenFor", "(II)I"⟩, 5) := ⟨⟨by decide +kernel, by decide +kernel⟩, List.mem_of_getElem? (i := 16) (by decide +kernel), List.mem_of_getElem? (i := 577) (by decide +kernel), List.mem_of_getElem? (i := 578) (by decide +kernel)⟩
theorem lw_p20 : lw_okq (⟨"java/lang/Throwable", "fillInStackTrace", "(I)Ljava/lang/Throwable;"⟩, 6) := ⟨⟨by decide +kernel, by decide +kernel⟩, List.mem_of_getElem? (i := 629) (by decide +kernel), List.mem_of_getElem? (i := 627) (by decide +kernel), List.mem_of_getElem? (i := 628) (by decide +kernel)⟩
theorem lw_p21 : lw_okq (⟨"RaceTuningModel", "isSetting", "(I)Z"⟩, 34) := ⟨⟨by decide +kernel, by decide +kernel⟩, List.mem_of_getElem? (i := 663) (by decide +kernel), List.mem_of_getElem? (i := 791) (by decide +kernel), List.mem_of_getElem? (i := 792) (by decide +kernel)⟩
theorem lw_p22 : lw_okq (⟨"RaceTuningModel", "isInstance", "(I)Z"⟩, 34) := ⟨⟨by decide +kernel, by decide +kernel⟩, List.mem_of_getElem? (i := 663) (by decide +kernel), List.mem_of_getElem? (i := 795) (by decide +kernel), List.mem_of_getElem? (i := 796) (by decide +kernel)⟩
theorem lw_p23 : lw_okq (⟨"RaceTuningModel", "costAt", "(II)I"⟩, 34) := ⟨⟨by decide +kernel, by decide +kernel⟩, List.mem_of_getElem? (i := 663) (by decide +kernel), List.mem_of_getElem? (i := 805) (by decide +kernel), List.mem_of_getElem? (i := 806) (by decide +kernel)⟩
theorem lw_p24 : lw_okq (⟨"RaceTuningModel", "look", "()V"⟩, 34) := ⟨⟨by decide +kernel, by decide +kernel⟩, List.mem_of_getElem? (i := 663) (by decide +kernel), List.mem_of_getElem? (i := 814) (by decide +kernel), List.mem_of_getElem? (i := 815) (by decide +kernel)⟩
theorem lw_p25 : lw_okq (⟨"RaceTuningModel", "leftMany", "()I"⟩, 34) := ⟨⟨by decide +kernel, by decide +kernel⟩, List.mem_of_getElem? (i := 663) (by decide +kernel), List.mem_of_getElem? (i := 818) (by decide +kernel), List.mem_of_getElem? (i := 819) (by decide +kernel)⟩
theorem lw_p26 : lw_okq (⟨"RaceTuningModel", "isOn", "()Z"⟩, 34) := ⟨⟨by decide +kernel, by decide +kernel⟩, List.mem_of_getElem? (i := 663) (by decide +kernel), List.mem_of_getElem? (i := 826) (by decide +kernel), List.mem_of_getElem? (i := 827) (by decide +kernel)⟩
theorem lw_p27 : lw_okq (⟨"RaceTuningModel", "drop", "()V"⟩, 34) := ⟨⟨by decide +kernel, by decide +kernel⟩, List.mem_of_getElem? (i := 663) (by decide +kernel), List.mem_of_getElem? (i := 834) (by decide +kernel), List.mem_of_getElem? (i := 835) (by decide +kernel)⟩
theorem lw_p28 : lw_okq (⟨"RaceTuningModel", "leader", "()I"⟩, 34) := ⟨⟨by decide +kernel, by decide +kernel⟩, List.mem_of_getElem? (i := 663) (by decide +kernel), List.mem_of_getElem? (i := 838) (by decide +kernel), List.mem_of_getElem? (i := 839) (by decide +kernel)⟩
theorem lw_p29 : lw_okq (⟨"RaceTuningModel", "rankOf", "(I)I"⟩, 34) := ⟨⟨by decide +kernel, by decide +kernel⟩, List.mem_of_getElem? (i := 663) (by decide +kernel), List.mem_of_getElem? (i := 842) (by decide +kernel), List.mem_of_getElem? (i := 843) (by decide +kernel)⟩
theorem lw_p30 : lw_okq (⟨"RaceTuningModel", "findOdds", "(II)V"⟩, 34) := ⟨⟨by decide +kernel, by decide +kernel⟩, List.mem_of_getElem? (i := 663) (by decide +kernel), List.mem_of_getElem? (i := 846) (by decide +kernel), List.mem_of_getElem? (i := 847) (by decide +kernel)⟩
theorem lw_p31 : lw_okq (⟨"RaceTuningModel", "ranOf", "(I)I"⟩, 34) := ⟨⟨by decide +kernel, by decide +kernel⟩, List.mem_of_getElem? (i := 663) (by decide +kernel), List.mem_of_getElem? (i := 850) (by decide +kernel), List.mem_of_getElem? (i := 851) (by decide +kernel)⟩
def lw_privs_2 : List (MethodName × Nat) := [(⟨"RaceTuning$Stump", "moveBelow", "(LRaceTuning$Table;II)V"⟩, 7), (⟨"RaceTuning$Stump", "keepIfLess", "(LRaceTuning$Table;II)V"⟩, 7), (⟨"RaceTuning", "findChoice", "(I)V"⟩, 5), (⟨"RaceTuning", "chosenFor", "(II)I"⟩, 5), (⟨"java/lang/Throwable", "fillInStackTrace", "(I)Ljava/lang/Throwable;"⟩, 6), (⟨"RaceTuningModel", "isSetting", "(I)Z"⟩, 34), (⟨"RaceTuningModel", "isInstance", "(I)Z"⟩, 34), (⟨"RaceTuningModel", "costAt", "(II)I"⟩, 34), (⟨"RaceTuningModel", "look", "()V"⟩, 34), (⟨"RaceTuningModel", "leftMany", "()I"⟩, 34), (⟨"RaceTuningModel", "isOn", "()Z"⟩, 34), (⟨"RaceTuningModel", "drop", "()V"⟩, 34), (⟨"RaceTuningModel", "leader", "()I"⟩, 34), (⟨"RaceTuningModel", "rankOf", "(I)I"⟩, 34), (⟨"RaceTuningModel", "findOdds", "(II)V"⟩, 34), (⟨"RaceTuningModel", "ranOf", "(I)I"⟩, 34)]
theorem lw_r2 : ∀ q ∈ lw_privs_2, lw_okq q := List.forall_mem_cons.mpr ⟨lw_p16, List.forall_mem_cons.mpr ⟨lw_p17, List.forall_mem_cons.mpr ⟨lw_p18, List.forall_mem_cons.mpr ⟨lw_p19, List.forall_mem_cons.mpr ⟨lw_p20, List.forall_mem_cons.mpr ⟨lw_p21, List.forall_mem_cons.mpr ⟨lw_p22, List.forall_mem_cons.mpr ⟨lw_p23, List.forall_mem_cons.mpr ⟨lw_p24, List.forall_mem_cons.mpr ⟨lw_p25, List.forall_mem_cons.mpr ⟨lw_p26, List.forall_mem_cons.mpr ⟨lw_p27, List.forall_mem_cons.mpr ⟨lw_p28, List.forall_mem_cons.mpr ⟨lw_p29, List.forall_mem_cons.mpr ⟨lw_p30, List.forall_mem_cons.mpr ⟨lw_p31, fun _ h => absurd h List.not_mem_nil⟩⟩⟩⟩⟩⟩⟩⟩⟩⟩⟩⟩⟩⟩⟩⟩
theorem lw_p32 : lw_okq (⟨"RaceTuningModel", "wholes", "()I"⟩, 34) := ⟨⟨by decide +kernel, by decide +kernel⟩, List.mem_of_getElem? (i := 663) (by decide +kernel), List.mem_of_getElem? (i := 880) (by decide +kernel), List.mem_of_getElem? (i := 881) (by decide +kernel)⟩
theorem lw_p33 : lw_okq (⟨"RaceTuningModel", "isWhole", "(I)Z"⟩, 34) := ⟨⟨by decide +kernel, by decide +kernel⟩, List.mem_of_getElem? (i := 663) (by decide +kernel), List.mem_of_getElem? (i := 884) (by decide +kernel), List.mem_of_getElem? (i := 885) (by decide +kernel)⟩
theorem lw_p34 : lw_okq (⟨"RaceTuningModel", "findSet", "(I)V"⟩, 34) := ⟨⟨by decide +kernel, by decide +kernel⟩, List.mem_of_getElem? (i := 663) (by decide +kernel), List.mem_of_getElem? (i := 891) (by decide +kernel), List.mem_of_getElem? (i := 892) (by decide +kernel)⟩
theorem lw_p35 : lw_okq (⟨"RaceTuningModel", "leastOf", "(II)I"⟩, 34) := ⟨⟨by decide +kernel, by decide +kernel⟩, List.mem_of_getElem? (i := 663) (by decide +kernel), List.mem_of_getElem? (i := 895) (by decide +kernel), List.mem_of_getElem? (i := 896) (by decide +kernel)⟩
theorem lw_p36 : lw_okq (⟨"RaceTuningModel", "pickOf", "(I)I"⟩, 34) := ⟨⟨by decide +kernel, by decide +kernel⟩, List.mem_of_getElem? (i := 663) (by decide +kernel), List.mem_of_getElem? (i := 906) (by decide +kernel), List.mem_of_getElem? (i := 907) (by decide +kernel)⟩
theorem lw_p37 : lw_okq (⟨"RaceTuningModel", "farOf", "(II)I"⟩, 34) := ⟨⟨by decide +kernel, by decide +kernel⟩, List.mem_of_getElem? (i := 663) (by decide +kernel), List.mem_of_getElem? (i := 910) (by decide +kernel), List.mem_of_getElem? (i := 911) (by decide +kernel)⟩
theorem lw_p38 : lw_okq (⟨"RaceTuningModel", "findStump", "()V"⟩, 34) := ⟨⟨by decide +kernel, by decide +kernel⟩, List.mem_of_getElem? (i := 663) (by decide +kernel), List.mem_of_getElem? (i := 918) (by decide +kernel), List.mem_of_getElem? (i := 919) (by decide +kernel)⟩
theorem lw_p39 : lw_okq (⟨"RaceTuningModel", "sideBest", "(IIZ)I"⟩, 34) := ⟨⟨by decide +kernel, by decide +kernel⟩, List.mem_of_getElem? (i := 663) (by decide +kernel), List.mem_of_getElem? (i := 922) (by decide +kernel), List.mem_of_getElem? (i := 923) (by decide +kernel)⟩
theorem lw_p40 : lw_okq (⟨"RaceTuningModel", "runsOf", "(I)I"⟩, 34) := ⟨⟨by decide +kernel, by decide +kernel⟩, List.mem_of_getElem? (i := 663) (by decide +kernel), List.mem_of_getElem? (i := 934) (by decide +kernel), List.mem_of_getElem? (i := 935) (by decide +kernel)⟩
def lw_privs_3 : List (MethodName × Nat) := [(⟨"RaceTuningModel", "wholes", "()I"⟩, 34), (⟨"RaceTuningModel", "isWhole", "(I)Z"⟩, 34), (⟨"RaceTuningModel", "findSet", "(I)V"⟩, 34), (⟨"RaceTuningModel", "leastOf", "(II)I"⟩, 34), (⟨"RaceTuningModel", "pickOf", "(I)I"⟩, 34), (⟨"RaceTuningModel", "farOf", "(II)I"⟩, 34), (⟨"RaceTuningModel", "findStump", "()V"⟩, 34), (⟨"RaceTuningModel", "sideBest", "(IIZ)I"⟩, 34), (⟨"RaceTuningModel", "runsOf", "(I)I"⟩, 34)]
theorem lw_r3 : ∀ q ∈ lw_privs_3, lw_okq q := List.forall_mem_cons.mpr ⟨lw_p32, List.forall_mem_cons.mpr ⟨lw_p33, List.forall_mem_cons.mpr ⟨lw_p34, List.forall_mem_cons.mpr ⟨lw_p35, List.forall_mem_cons.mpr ⟨lw_p36, List.forall_mem_cons.mpr ⟨lw_p37, List.forall_mem_cons.mpr ⟨lw_p38, List.forall_mem_cons.mpr ⟨lw_p39, List.forall_mem_cons.mpr ⟨lw_p40, fun _ h => absurd h List.not_mem_nil⟩⟩⟩⟩⟩⟩⟩⟩⟩
def lw_privs : List (MethodName × Nat) := lw_privs_1 ++ (lw_privs_2 ++ (lw_privs_3))
def lw_tbl : List Cond := k2_sels lw_privs ++ tables_1
theorem lw_privs_ok : ∀ q ∈ lw_privs, lw_okq q := by
  show ∀ q ∈ lw_privs_1 ++ (lw_privs_2 ++ (lw_privs_3)), lw_okq q
  exact List.forall_mem_append.mpr ⟨lw_r1, List.forall_mem_append.mpr ⟨lw_r2, lw_r3⟩⟩
/-! ===== BEGIN words of one list among another's, by their places ===== -/
theorem goodIn_r {big : List Cond} (ws : List Cond) (ps : List Nat) (hp : ws = ps.filterMap (fun i => big[i]?)) (h : ws.all goodWord = true) : GoodIn big ws := by
  intro w hw
  have h1 := List.all_eq_true.mp h w hw
  rw [hp] at hw
  obtain ⟨i, -, hi⟩ := List.mem_filterMap.mp hw
  have hm : w ∈ big := by first | exact List.mem_of_getElem? hi | exact List.getElem?_mem hi
  exact ⟨hm, good_of_word h1⟩
theorem goodIn_app {big a b : List Cond} (ha : GoodIn big a) (hb : GoodIn big b) : GoodIn big (a ++ b) := fun w h => (List.mem_append.mp h).elim (ha w) (hb w)
theorem goodIn_ca {big a b : List Cond} {c : Cond} (ha : GoodIn big (c :: a)) (hb : GoodIn big b) : GoodIn big (c :: (a ++ b)) := fun w h => (List.mem_cons.mp h).elim (fun e => ha w (List.mem_cons.mpr (Or.inl e))) (fun h => (List.mem_append.mp h).elim (fun h => ha w (List.mem_cons.mpr (Or.inr h))) (hb w))
theorem goodIn_sub {big ws : List Cond} (hm : ∀ w ∈ ws, w ∈ big) (h : ws.all goodWord = true) : GoodIn big ws := fun w hw => ⟨hm w hw, good_of_word (List.all_eq_true.mp h w hw)⟩
/-! ===== END ===== -/

theorem vr_outer (c : ClassId) (N h0 : Nat) : ∀ i : Nat, Jvm.Free.Multi.outerC c N h0 i = arrV c N (fun j => va_rf (if j < i then some (h0 + 1 + j) else none))
  | 0 => by
    show ({ cls := c, slots := Array.replicate N .null, vm := .none } : Cell) = _
    rw [arrV_new]
    refine congrArg (arrV c N) (funext fun j => ?_)
    simp [va_rf]
  | i + 1 => by
    show (Jvm.Free.Multi.outerC c N h0 i).setSlot i (.ref (h0 + 1 + i)) = _
    rw [vr_outer c N h0 i, arrV_store]
    refine congrArg (arrV c N) (funext fun j => ?_)
    by_cases e : j = i
    · subst e
      simp [updV, va_rf]
    · by_cases h : j < i
      · simp [updV, e, h, Nat.lt_succ_of_lt h]
      · simp [updV, e, h, show ¬ j < i + 1 by omega]
/-! ===== BEGIN printed: names, fields, word lists, decode rows ===== -/
def RX0 : String := "RaceTuning$Odds"
def TX0 : u_T := fun k => match k with
  | 0 => ("RaceTuning$Odds", "gaps", "[I", true)
  | 1 => ("RaceTuning$Odds", "isForA", "[Z", true)
  | 2 => ("RaceTuning$Odds", "ways", "[J", true)
  | 3 => ("RaceTuning$Odds", "unlike", "I", false)
  | 4 => ("RaceTuning$Odds", "upper", "J", false)
  | _ => ("RaceTuning$Odds", "lower", "J", false)
def tyX0 : Nat → FieldType := fun k => match k with
  | 0 => .array .int
  | 1 => .array .boolean
  | 2 => .array .long
  | 3 => .int
  | 4 => .long
  | _ => .long
abbrev wsX00 : List Cond := u_ws RX0 TX0 6
theorem nmX0 : ∀ a, a < 6 → ∀ b, b < 6 → a ≠ b → (TX0 a).2.1 ≠ (TX0 b).2.1 := by decide +kernel
theorem tyX0_ok : ∀ k, k < 6 → parseFieldDescriptor (TX0 k).2.2.1 = some (tyX0 k) := by decide +kernel
abbrev cX0_init : ByteArray := prog_2_method_1_code
def yX0_init : MethodName := ⟨RX0, "<init>", "()V"⟩
abbrev cX0_clear : ByteArray := prog_2_method_2_code
def yX0_clear : MethodName := ⟨RX0, "clear", "()V"⟩
abbrev cX0_addRound : ByteArray := prog_2_method_3_code
def yX0_addRound : MethodName := ⟨RX0, "addRound", "(II)V"⟩
abbrev cX0_count : ByteArray := prog_2_method_4_code
def yX0_count : MethodName := ⟨RX0, "count", "(I)V"⟩
abbrev cX0_addSign : ByteArray := prog_2_method_5_code
def yX0_addSign : MethodName := ⟨RX0, "addSign", "(II)V"⟩
abbrev cX0_weightOf : ByteArray := prog_2_method_6_code
def yX0_weightOf : MethodName := ⟨RX0, "weightOf", "(I)I"⟩
abbrev cX0_areAbove : ByteArray := prog_2_method_7_code
def yX0_areAbove : MethodName := ⟨RX0, "areAbove", "(II)Z"⟩
def RX1 : String := "RaceTuning$Portfolio"
def TX1 : u_T := fun k => match k with
  | 0 => ("RaceTuning$Portfolio", "whole", "[I", true)
  | 1 => ("RaceTuning$Portfolio", "places", "[I", true)
  | 2 => ("RaceTuning$Portfolio", "best", "[I", true)
  | 3 => ("RaceTuning$Portfolio", "leastCosts", "[[I", true)
  | 4 => ("RaceTuning$Portfolio", "wholeCount", "I", false)
  | 5 => ("RaceTuning$Portfolio", "size", "I", false)
  | _ => ("RaceTuning$Portfolio", "leastSum", "I", false)
def tyX1 : Nat → FieldType := fun k => match k with
  | 0 => .array .int
  | 1 => .array .int
  | 2 => .array .int
  | 3 => .array (.array .int)
  | 4 => .int
  | 5 => .int
  | _ => .int
abbrev wsX10 : List Cond := u_ws RX1 TX1 7
theorem nmX1 : ∀ a, a < 7 → ∀ b, b < 7 → a ≠ b → (TX1 a).2.1 ≠ (TX1 b).2.1 := by decide +kernel
theorem tyX1_ok : ∀ k, k < 7 → parseFieldDescriptor (TX1 k).2.2.1 = some (tyX1 k) := by decide +kernel
abbrev cX1_init : ByteArray := prog_3_method_1_code
def yX1_init : MethodName := ⟨RX1, "<init>", "()V"⟩
abbrev cX1_find : ByteArray := prog_3_method_2_code
def yX1_find : MethodName := ⟨RX1, "find", "(LRaceTuning$Table;I)V"⟩
abbrev cX1_memberAt : ByteArray := prog_3_method_3_code
def yX1_memberAt : MethodName := ⟨RX1, "memberAt", "(I)I"⟩
abbrev cX1_gatherWhole : ByteArray := prog_3_method_4_code
def yX1_gatherWhole : MethodName := ⟨RX1, "gatherWhole", "(LRaceTuning$Table;)V"⟩
abbrev cX1_placeFrom : ByteArray := prog_3_method_5_code
def yX1_placeFrom : MethodName := ⟨RX1, "placeFrom", "(LRaceTuning$Table;II)V"⟩
abbrev cX1_joinCosts : ByteArray := prog_3_method_6_code
def yX1_joinCosts : MethodName := ⟨RX1, "joinCosts", "(LRaceTuning$Table;II)V"⟩
abbrev cX1_lastThatCanRise : ByteArray := prog_3_method_7_code
def yX1_lastThatCanRise : MethodName := ⟨RX1, "lastThatCanRise", "()I"⟩
abbrev cX1_keepIfLess : ByteArray := prog_3_method_8_code
def yX1_keepIfLess : MethodName := ⟨RX1, "keepIfLess", "(LRaceTuning$Table;)V"⟩
def RX2 : String := "RaceTuning$Race"
def TX2 : u_T := fun k => match k with
  | 0 => ("RaceTuning$Race", "table", "LRaceTuning$Table;", true)
  | 1 => ("RaceTuning$Race", "counter", "LRaceTuning$Odds;", true)
  | 2 => ("RaceTuning$Race", "rules", "LRaceTuning$Rules;", true)
  | 3 => ("RaceTuning$Race", "order", "[I", true)
  | 4 => ("RaceTuning$Race", "entered", "I", true)
  | 5 => ("RaceTuning$Race", "taken", "[[I", true)
  | 6 => ("RaceTuning$Race", "droppedBehind", "[I", true)
  | 7 => ("RaceTuning$Race", "ran", "[I", true)
  | 8 => ("RaceTuning$Race", "standing", "[I", true)
  | 9 => ("RaceTuning$Race", "standingRanks", "[I", true)
  | 10 => ("RaceTuning$Race", "remaining", "I", false)
  | 11 => ("RaceTuning$Race", "next", "I", false)
  | 12 => ("RaceTuning$Race", "rounds", "I", false)
  | 13 => ("RaceTuning$Race", "runs", "I", false)
  | _ => ("RaceTuning$Race", "why", "I", false)
def tyX2 : Nat → FieldType := fun k => match k with
  | 0 => .object "RaceTuning$Table"
  | 1 => .object "RaceTuning$Odds"
  | 2 => .object "RaceTuning$Rules"
  | 3 => .array .int
  | 4 => .int
  | 5 => .array (.array .int)
  | 6 => .array .int
  | 7 => .array .int
  | 8 => .array .int
  | 9 => .array .int
  | 10 => .int
  | 11 => .int
  | 12 => .int
  | 13 => .int
  | _ => .int
abbrev wsX20 : List Cond := u_ws RX2 TX2 15
theorem nmX2 : ∀ a, a < 15 → ∀ b, b < 15 → a ≠ b → (TX2 a).2.1 ≠ (TX2 b).2.1 := by decide +kernel
theorem tyX2_ok : ∀ k, k < 15 → parseFieldDescriptor (TX2 k).2.2.1 = some (tyX2 k) := by decide +kernel
abbrev cX2_init : ByteArray := prog_4_method_1_code
def yX2_init : MethodName := ⟨RX2, "<init>", "(LRaceTuning$Table;LRaceTuning$Odds;LRaceTuning$Rules;)V"⟩
abbrev cX2_begin : ByteArray := prog_4_method_2_code
def yX2_begin : MethodName := ⟨RX2, "begin", "(I)V"⟩
abbrev cX2_whyOver : ByteArray := prog_4_method_3_code
def yX2_whyOver : MethodName := ⟨RX2, "whyOver", "()I"⟩
abbrev cX2_isEntered : ByteArray := prog_4_method_4_code
def yX2_isEntered : MethodName := ⟨RX2, "isEntered", "(I)Z"⟩
abbrev cX2_isLeft : ByteArray := prog_4_method_5_code
def yX2_isLeft : MethodName := ⟨RX2, "isLeft", "(I)Z"⟩
abbrev cX2_instanceAt : ByteArray := prog_4_method_6_code
def yX2_instanceAt : MethodName := ⟨RX2, "instanceAt", "(I)I"⟩
abbrev cX2_remainingAt : ByteArray := prog_4_method_7_code
def yX2_remainingAt : MethodName := ⟨RX2, "remainingAt", "(I)I"⟩
abbrev cX2_leftFrom : ByteArray := prog_4_method_8_code
def yX2_leftFrom : MethodName := ⟨RX2, "leftFrom", "(I)I"⟩
abbrev cX2_runNext : ByteArray := prog_4_method_9_code
def yX2_runNext : MethodName := ⟨RX2, "runNext", "()I"⟩
abbrev cX2_endRound : ByteArray := prog_4_method_10_code
def yX2_endRound : MethodName := ⟨RX2, "endRound", "()V"⟩
abbrev cX2_dropWorse : ByteArray := prog_4_method_11_code
def yX2_dropWorse : MethodName := ⟨RX2, "dropWorse", "()V"⟩
abbrev cX2_leader : ByteArray := prog_4_method_12_code
def yX2_leader : MethodName := ⟨RX2, "leader", "()I"⟩
abbrev cX2_arrange : ByteArray := prog_4_method_13_code
def yX2_arrange : MethodName := ⟨RX2, "arrange", "()I"⟩
abbrev cX2_rankOf : ByteArray := prog_4_method_14_code
def yX2_rankOf : MethodName := ⟨RX2, "rankOf", "(I)I"⟩
abbrev cX2_rankAgainst : ByteArray := prog_4_method_15_code
def yX2_rankAgainst : MethodName := ⟨RX2, "rankAgainst", "(II)I"⟩
abbrev cX2_countOdds : ByteArray := prog_4_method_16_code
def yX2_countOdds : MethodName := ⟨RX2, "countOdds", "(II)V"⟩
abbrev cX2_sumOfFirst : ByteArray := prog_4_method_17_code
def yX2_sumOfFirst : MethodName := ⟨RX2, "sumOfFirst", "(II)J"⟩
def RX3 : String := "RaceTuning$Rules"
def TX3 : u_T := fun k => match k with
  | 0 => ("RaceTuning$Rules", "kind", "I", true)
  | 1 => ("RaceTuning$Rules", "first", "I", true)
  | 2 => ("RaceTuning$Rules", "up", "I", true)
  | 3 => ("RaceTuning$Rules", "down", "I", true)
  | 4 => ("RaceTuning$Rules", "least", "I", true)
  | _ => ("RaceTuning$Rules", "budget", "I", true)
def tyX3 : Nat → FieldType := fun k => match k with
  | 0 => .int
  | 1 => .int
  | 2 => .int
  | 3 => .int
  | 4 => .int
  | _ => .int
abbrev wsX30 : List Cond := u_ws RX3 TX3 6
theorem nmX3 : ∀ a, a < 6 → ∀ b, b < 6 → a ≠ b → (TX3 a).2.1 ≠ (TX3 b).2.1 := by decide +kernel
theorem tyX3_ok : ∀ k, k < 6 → parseFieldDescriptor (TX3 k).2.2.1 = some (tyX3 k) := by decide +kernel
abbrev cX3_init : ByteArray := prog_5_method_1_code
def yX3_init : MethodName := ⟨RX3, "<init>", "(IIIIII)V"⟩
abbrev cX3_areWithinBounds : ByteArray := prog_5_method_2_code
def yX3_areWithinBounds : MethodName := ⟨RX3, "areWithinBounds", "()Z"⟩
def RX4 : String := "RaceTuning$Stump"
def TX4 : u_T := fun k => match k with
  | 0 => ("RaceTuning$Stump", "sumsBelow", "[I", true)
  | 1 => ("RaceTuning$Stump", "sumsFromCut", "[I", true)
  | 2 => ("RaceTuning$Stump", "feature", "I", false)
  | 3 => ("RaceTuning$Stump", "cut", "I", false)
  | 4 => ("RaceTuning$Stump", "settingBelow", "I", false)
  | 5 => ("RaceTuning$Stump", "settingFromCut", "I", false)
  | _ => ("RaceTuning$Stump", "leastSum", "I", false)
def tyX4 : Nat → FieldType := fun k => match k with
  | 0 => .array .int
  | 1 => .array .int
  | 2 => .int
  | 3 => .int
  | 4 => .int
  | 5 => .int
  | _ => .int
abbrev wsX40 : List Cond := u_ws RX4 TX4 7
theorem nmX4 : ∀ a, a < 7 → ∀ b, b < 7 → a ≠ b → (TX4 a).2.1 ≠ (TX4 b).2.1 := by decide +kernel
theorem tyX4_ok : ∀ k, k < 7 → parseFieldDescriptor (TX4 k).2.2.1 = some (tyX4 k) := by decide +kernel
abbrev cX4_init : ByteArray := prog_6_method_1_code
def yX4_init : MethodName := ⟨RX4, "<init>", "()V"⟩
abbrev cX4_find : ByteArray := prog_6_method_2_code
def yX4_find : MethodName := ⟨RX4, "find", "(LRaceTuning$Table;)V"⟩
abbrev cX4_settingFor : ByteArray := prog_6_method_3_code
def yX4_settingFor : MethodName := ⟨RX4, "settingFor", "(LRaceTuning$Table;I)I"⟩
abbrev cX4_putAllFromCut : ByteArray := prog_6_method_4_code
def yX4_putAllFromCut : MethodName := ⟨RX4, "putAllFromCut", "(LRaceTuning$Table;)V"⟩
abbrev cX4_moveBelow : ByteArray := prog_6_method_5_code
def yX4_moveBelow : MethodName := ⟨RX4, "moveBelow", "(LRaceTuning$Table;II)V"⟩
abbrev cX4_keepIfLess : ByteArray := prog_6_method_6_code
def yX4_keepIfLess : MethodName := ⟨RX4, "keepIfLess", "(LRaceTuning$Table;II)V"⟩
abbrev cX4_leastOf : ByteArray := prog_6_method_7_code
def yX4_leastOf : MethodName := ⟨RX4, "leastOf", "(LRaceTuning$Table;[I)I"⟩
def RX5 : String := "RaceTuning$Table"
def TX5 : u_T := fun k => match k with
  | 0 => ("RaceTuning$Table", "costs", "[[I", true)
  | 1 => ("RaceTuning$Table", "toldOf", "[I", true)
  | 2 => ("RaceTuning$Table", "features", "[[I", true)
  | 3 => ("RaceTuning$Table", "learning", "[Z", true)
  | 4 => ("RaceTuning$Table", "settings", "I", false)
  | _ => ("RaceTuning$Table", "instances", "I", false)
def tyX5 : Nat → FieldType := fun k => match k with
  | 0 => .array (.array .int)
  | 1 => .array .int
  | 2 => .array (.array .int)
  | 3 => .array .boolean
  | 4 => .int
  | _ => .int
abbrev wsX50 : List Cond := u_ws RX5 TX5 6
theorem nmX5 : ∀ a, a < 6 → ∀ b, b < 6 → a ≠ b → (TX5 a).2.1 ≠ (TX5 b).2.1 := by decide +kernel
theorem tyX5_ok : ∀ k, k < 6 → parseFieldDescriptor (TX5 k).2.2.1 = some (tyX5 k) := by decide +kernel
abbrev cX5_init : ByteArray := prog_7_method_1_code
def yX5_init : MethodName := ⟨RX5, "<init>", "()V"⟩
abbrev cX5_addSetting : ByteArray := prog_7_method_2_code
def yX5_addSetting : MethodName := ⟨RX5, "addSetting", "()I"⟩
abbrev cX5_addInstance : ByteArray := prog_7_method_3_code
def yX5_addInstance : MethodName := ⟨RX5, "addInstance", "(IIZ)I"⟩
abbrev cX5_hasSetting : ByteArray := prog_7_method_4_code
def yX5_hasSetting : MethodName := ⟨RX5, "hasSetting", "(I)Z"⟩
abbrev cX5_hasInstance : ByteArray := prog_7_method_5_code
def yX5_hasInstance : MethodName := ⟨RX5, "hasInstance", "(I)Z"⟩
abbrev cX5_isLearning : ByteArray := prog_7_method_6_code
def yX5_isLearning : MethodName := ⟨RX5, "isLearning", "(I)Z"⟩
abbrev cX5_costAt : ByteArray := prog_7_method_7_code
def yX5_costAt : MethodName := ⟨RX5, "costAt", "(II)I"⟩
abbrev cX5_tell : ByteArray := prog_7_method_8_code
def yX5_tell : MethodName := ⟨RX5, "tell", "(III)I"⟩
abbrev cX5_isWhole : ByteArray := prog_7_method_9_code
def yX5_isWhole : MethodName := ⟨RX5, "isWhole", "(I)Z"⟩
abbrev cX5_countWhole : ByteArray := prog_7_method_10_code
def yX5_countWhole : MethodName := ⟨RX5, "countWhole", "()I"⟩
abbrev cX5_featureAt : ByteArray := prog_7_method_11_code
def yX5_featureAt : MethodName := ⟨RX5, "featureAt", "(II)I"⟩
abbrev cX5_learningOnes : ByteArray := prog_7_method_12_code
def yX5_learningOnes : MethodName := ⟨RX5, "learningOnes", "()[I"⟩
abbrev cX5_nearestLearning : ByteArray := prog_7_method_13_code
def yX5_nearestLearning : MethodName := ⟨RX5, "nearestLearning", "(I)I"⟩
abbrev cX5_distance : ByteArray := prog_7_method_14_code
def yX5_distance : MethodName := ⟨RX5, "distance", "(II)I"⟩
abbrev cX5_bestOn : ByteArray := prog_7_method_15_code
def yX5_bestOn : MethodName := ⟨RX5, "bestOn", "(I)I"⟩
def RX6 : String := "RaceTuning"
def TX6 : u_T := fun k => match k with
  | 0 => ("RaceTuning", "table", "LRaceTuning$Table;", true)
  | 1 => ("RaceTuning", "counter", "LRaceTuning$Odds;", true)
  | 2 => ("RaceTuning", "few", "LRaceTuning$Portfolio;", true)
  | 3 => ("RaceTuning", "split", "LRaceTuning$Stump;", true)
  | _ => ("RaceTuning", "current", "LRaceTuning$Race;", false)
def tyX6 : Nat → FieldType := fun k => match k with
  | 0 => .object "RaceTuning$Table"
  | 1 => .object "RaceTuning$Odds"
  | 2 => .object "RaceTuning$Portfolio"
  | 3 => .object "RaceTuning$Stump"
  | _ => .object "RaceTuning$Race"
abbrev wsX60 : List Cond := u_ws RX6 TX6 5
theorem nmX6 : ∀ a, a < 5 → ∀ b, b < 5 → a ≠ b → (TX6 a).2.1 ≠ (TX6 b).2.1 := by decide +kernel
theorem tyX6_ok : ∀ k, k < 5 → parseFieldDescriptor (TX6 k).2.2.1 = some (tyX6 k) := by decide +kernel
abbrev cX6_init : ByteArray := prog_1_method_1_code
def yX6_init : MethodName := ⟨RX6, "<init>", "()V"⟩
abbrev cX6_setting : ByteArray := prog_1_method_2_code
def yX6_setting : MethodName := ⟨RX6, "setting", "()I"⟩
abbrev cX6_instance : ByteArray := prog_1_method_3_code
def yX6_instance : MethodName := ⟨RX6, "instance", "(IIZ)I"⟩
abbrev cX6_cost : ByteArray := prog_1_method_4_code
def yX6_cost : MethodName := ⟨RX6, "cost", "(III)I"⟩
abbrev cX6_costOf : ByteArray := prog_1_method_5_code
def yX6_costOf : MethodName := ⟨RX6, "costOf", "(II)I"⟩
abbrev cX6_race : ByteArray := prog_1_method_6_code
def yX6_race : MethodName := ⟨RX6, "race", "(IIIIIII)I"⟩
abbrev cX6_wants : ByteArray := prog_1_method_7_code
def yX6_wants : MethodName := ⟨RX6, "wants", "(I)I"⟩
abbrev cX6_run : ByteArray := prog_1_method_8_code
def yX6_run : MethodName := ⟨RX6, "run", "()I"⟩
abbrev cX6_left : ByteArray := prog_1_method_9_code
def yX6_left : MethodName := ⟨RX6, "left", "(I)I"⟩
abbrev cX6_raceOf : ByteArray := prog_1_method_10_code
def yX6_raceOf : MethodName := ⟨RX6, "raceOf", "(I)I"⟩
abbrev cX6_rank : ByteArray := prog_1_method_11_code
def yX6_rank : MethodName := ⟨RX6, "rank", "(I)I"⟩
abbrev cX6_dropped : ByteArray := prog_1_method_12_code
def yX6_dropped : MethodName := ⟨RX6, "dropped", "(I)I"⟩
abbrev cX6_odds : ByteArray := prog_1_method_13_code
def yX6_odds : MethodName := ⟨RX6, "odds", "(III)J"⟩
abbrev cX6_portfolio : ByteArray := prog_1_method_14_code
def yX6_portfolio : MethodName := ⟨RX6, "portfolio", "(II)I"⟩
abbrev cX6_pick : ByteArray := prog_1_method_15_code
def yX6_pick : MethodName := ⟨RX6, "pick", "(I)I"⟩
abbrev cX6_stump : ByteArray := prog_1_method_16_code
def yX6_stump : MethodName := ⟨RX6, "stump", "(I)I"⟩
abbrev cX6_heldOut : ByteArray := prog_1_method_17_code
def yX6_heldOut : MethodName := ⟨RX6, "heldOut", "(I)I"⟩
abbrev cX6_mean : ByteArray := prog_1_method_18_code
def yX6_mean : MethodName := ⟨RX6, "mean", "(III)J"⟩
abbrev cX6_isWithin : ByteArray := prog_1_method_19_code
def yX6_isWithin : MethodName := ⟨RX6, "isWithin", "(III)Z"⟩
abbrev cX6_pickFor : ByteArray := prog_1_method_20_code
def yX6_pickFor : MethodName := ⟨RX6, "pickFor", "(I)I"⟩
abbrev cX6_findChoice : ByteArray := prog_1_method_21_code
def yX6_findChoice : MethodName := ⟨RX6, "findChoice", "(I)V"⟩
abbrev cX6_chosenFor : ByteArray := prog_1_method_22_code
def yX6_chosenFor : MethodName := ⟨RX6, "chosenFor", "(II)I"⟩
abbrev cX6_lowestTerms : ByteArray := prog_1_method_23_code
def yX6_lowestTerms : MethodName := ⟨RX6, "lowestTerms", "(JJI)J"⟩
abbrev cX6_greatestDivisor : ByteArray := prog_1_method_24_code
def yX6_greatestDivisor : MethodName := ⟨RX6, "greatestDivisor", "(JJ)J"⟩
def RX7 : String := "RaceTuningModel"
def TX7 : u_T := fun k => match k with
  | 0 => ("RaceTuningModel", "thrown", "I", false)
  | 1 => ("RaceTuningModel", "settings", "I", false)
  | 2 => ("RaceTuningModel", "instances", "I", false)
  | 3 => ("RaceTuningModel", "feature", "[I", true)
  | 4 => ("RaceTuningModel", "isHeld", "[Z", true)
  | 5 => ("RaceTuningModel", "told", "[I", true)
  | 6 => ("RaceTuningModel", "kind", "I", false)
  | 7 => ("RaceTuningModel", "firstRounds", "I", false)
  | 8 => ("RaceTuningModel", "up", "I", false)
  | 9 => ("RaceTuningModel", "down", "I", false)
  | 10 => ("RaceTuningModel", "least", "I", false)
  | 11 => ("RaceTuningModel", "budget", "I", false)
  | 12 => ("RaceTuningModel", "entered", "I", false)
  | 13 => ("RaceTuningModel", "places", "I", false)
  | 14 => ("RaceTuningModel", "order", "[I", true)
  | 15 => ("RaceTuningModel", "rounds", "I", false)
  | 16 => ("RaceTuningModel", "runs", "I", false)
  | 17 => ("RaceTuningModel", "over", "I", false)
  | 18 => ("RaceTuningModel", "turn", "I", false)
  | 19 => ("RaceTuningModel", "out", "[I", true)
  | 20 => ("RaceTuningModel", "ranks", "[I", true)
  | 21 => ("RaceTuningModel", "oddsUp", "J", false)
  | 22 => ("RaceTuningModel", "oddsDown", "J", false)
  | 23 => ("RaceTuningModel", "gap", "[I", true)
  | 24 => ("RaceTuningModel", "isLess", "[Z", true)
  | 25 => ("RaceTuningModel", "ways", "[J", true)
  | 26 => ("RaceTuningModel", "bestSet", "I", false)
  | 27 => ("RaceTuningModel", "bestSum", "I", false)
  | 28 => ("RaceTuningModel", "stumpFeature", "I", false)
  | 29 => ("RaceTuningModel", "stumpCut", "I", false)
  | 30 => ("RaceTuningModel", "stumpBelow", "I", false)
  | 31 => ("RaceTuningModel", "stumpOther", "I", false)
  | 32 => ("RaceTuningModel", "stumpSum", "I", false)
  | _ => ("RaceTuningModel", "sideSum", "I", false)
def tyX7 : Nat → FieldType := fun k => match k with
  | 0 => .int
  | 1 => .int
  | 2 => .int
  | 3 => .array .int
  | 4 => .array .boolean
  | 5 => .array .int
  | 6 => .int
  | 7 => .int
  | 8 => .int
  | 9 => .int
  | 10 => .int
  | 11 => .int
  | 12 => .int
  | 13 => .int
  | 14 => .array .int
  | 15 => .int
  | 16 => .int
  | 17 => .int
  | 18 => .int
  | 19 => .array .int
  | 20 => .array .int
  | 21 => .long
  | 22 => .long
  | 23 => .array .int
  | 24 => .array .boolean
  | 25 => .array .long
  | 26 => .int
  | 27 => .int
  | 28 => .int
  | 29 => .int
  | 30 => .int
  | 31 => .int
  | 32 => .int
  | _ => .int
abbrev wsX70 : List Cond := u_ws RX7 TX7 34
theorem nmX7 : ∀ a, a < 34 → ∀ b, b < 34 → a ≠ b → (TX7 a).2.1 ≠ (TX7 b).2.1 := by decide +kernel
theorem tyX7_ok : ∀ k, k < 34 → parseFieldDescriptor (TX7 k).2.2.1 = some (tyX7 k) := by decide +kernel
abbrev cX7_init : ByteArray := prog_9_method_1_code
def yX7_init : MethodName := ⟨RX7, "<init>", "()V"⟩
abbrev cX7_thrown : ByteArray := prog_9_method_2_code
def yX7_thrown : MethodName := ⟨RX7, "thrown", "()I"⟩
abbrev cX7_in : ByteArray := prog_9_method_3_code
def yX7_in : MethodName := ⟨RX7, "in", "(III)Z"⟩
abbrev cX7_isSetting : ByteArray := prog_9_method_4_code
def yX7_isSetting : MethodName := ⟨RX7, "isSetting", "(I)Z"⟩
abbrev cX7_isInstance : ByteArray := prog_9_method_5_code
def yX7_isInstance : MethodName := ⟨RX7, "isInstance", "(I)Z"⟩
abbrev cX7_costAt : ByteArray := prog_9_method_6_code
def yX7_costAt : MethodName := ⟨RX7, "costAt", "(II)I"⟩
abbrev cX7_setting : ByteArray := prog_9_method_7_code
def yX7_setting : MethodName := ⟨RX7, "setting", "()I"⟩
abbrev cX7_instance : ByteArray := prog_9_method_8_code
def yX7_instance : MethodName := ⟨RX7, "instance", "(IIZ)I"⟩
abbrev cX7_cost : ByteArray := prog_9_method_9_code
def yX7_cost : MethodName := ⟨RX7, "cost", "(III)I"⟩
abbrev cX7_costOf : ByteArray := prog_9_method_10_code
def yX7_costOf : MethodName := ⟨RX7, "costOf", "(II)I"⟩
abbrev cX7_leftMany : ByteArray := prog_9_method_11_code
def yX7_leftMany : MethodName := ⟨RX7, "leftMany", "()I"⟩
abbrev cX7_look : ByteArray := prog_9_method_12_code
def yX7_look : MethodName := ⟨RX7, "look", "()V"⟩
abbrev cX7_race : ByteArray := prog_9_method_13_code
def yX7_race : MethodName := ⟨RX7, "race", "(IIIIIII)I"⟩
abbrev cX7_isOn : ByteArray := prog_9_method_14_code
def yX7_isOn : MethodName := ⟨RX7, "isOn", "()Z"⟩
abbrev cX7_wants : ByteArray := prog_9_method_15_code
def yX7_wants : MethodName := ⟨RX7, "wants", "(I)I"⟩
abbrev cX7_run : ByteArray := prog_9_method_16_code
def yX7_run : MethodName := ⟨RX7, "run", "()I"⟩
abbrev cX7_rankOf : ByteArray := prog_9_method_17_code
def yX7_rankOf : MethodName := ⟨RX7, "rankOf", "(I)I"⟩
abbrev cX7_leader : ByteArray := prog_9_method_18_code
def yX7_leader : MethodName := ⟨RX7, "leader", "()I"⟩
abbrev cX7_drop : ByteArray := prog_9_method_19_code
def yX7_drop : MethodName := ⟨RX7, "drop", "()V"⟩
abbrev cX7_ranOf : ByteArray := prog_9_method_20_code
def yX7_ranOf : MethodName := ⟨RX7, "ranOf", "(I)I"⟩
abbrev cX7_findOdds : ByteArray := prog_9_method_21_code
def yX7_findOdds : MethodName := ⟨RX7, "findOdds", "(II)V"⟩
abbrev cX7_left : ByteArray := prog_9_method_22_code
def yX7_left : MethodName := ⟨RX7, "left", "(I)I"⟩
abbrev cX7_raceOf : ByteArray := prog_9_method_23_code
def yX7_raceOf : MethodName := ⟨RX7, "raceOf", "(I)I"⟩
abbrev cX7_rank : ByteArray := prog_9_method_24_code
def yX7_rank : MethodName := ⟨RX7, "rank", "(I)I"⟩
abbrev cX7_dropped : ByteArray := prog_9_method_25_code
def yX7_dropped : MethodName := ⟨RX7, "dropped", "(I)I"⟩
abbrev cX7_odds : ByteArray := prog_9_method_26_code
def yX7_odds : MethodName := ⟨RX7, "odds", "(III)J"⟩
abbrev cX7_isWhole : ByteArray := prog_9_method_27_code
def yX7_isWhole : MethodName := ⟨RX7, "isWhole", "(I)Z"⟩
abbrev cX7_wholes : ByteArray := prog_9_method_28_code
def yX7_wholes : MethodName := ⟨RX7, "wholes", "()I"⟩
abbrev cX7_many : ByteArray := prog_9_method_29_code
def yX7_many : MethodName := ⟨RX7, "many", "(I)I"⟩
abbrev cX7_isAhead : ByteArray := prog_9_method_30_code
def yX7_isAhead : MethodName := ⟨RX7, "isAhead", "(II)Z"⟩
abbrev cX7_findSet : ByteArray := prog_9_method_31_code
def yX7_findSet : MethodName := ⟨RX7, "findSet", "(I)V"⟩
abbrev cX7_leastOf : ByteArray := prog_9_method_32_code
def yX7_leastOf : MethodName := ⟨RX7, "leastOf", "(II)I"⟩
abbrev cX7_portfolio : ByteArray := prog_9_method_33_code
def yX7_portfolio : MethodName := ⟨RX7, "portfolio", "(II)I"⟩
abbrev cX7_farOf : ByteArray := prog_9_method_34_code
def yX7_farOf : MethodName := ⟨RX7, "farOf", "(II)I"⟩
abbrev cX7_pickOf : ByteArray := prog_9_method_35_code
def yX7_pickOf : MethodName := ⟨RX7, "pickOf", "(I)I"⟩
abbrev cX7_pick : ByteArray := prog_9_method_36_code
def yX7_pick : MethodName := ⟨RX7, "pick", "(I)I"⟩
abbrev cX7_sideBest : ByteArray := prog_9_method_37_code
def yX7_sideBest : MethodName := ⟨RX7, "sideBest", "(IIZ)I"⟩
abbrev cX7_findStump : ByteArray := prog_9_method_38_code
def yX7_findStump : MethodName := ⟨RX7, "findStump", "()V"⟩
abbrev cX7_stump : ByteArray := prog_9_method_39_code
def yX7_stump : MethodName := ⟨RX7, "stump", "(I)I"⟩
abbrev cX7_heldOut : ByteArray := prog_9_method_40_code
def yX7_heldOut : MethodName := ⟨RX7, "heldOut", "(I)I"⟩
abbrev cX7_runsOf : ByteArray := prog_9_method_41_code
def yX7_runsOf : MethodName := ⟨RX7, "runsOf", "(I)I"⟩
abbrev cX7_mean : ByteArray := prog_9_method_42_code
def yX7_mean : MethodName := ⟨RX7, "mean", "(III)J"⟩
def RJ9 : String := "java/lang/Math"
def TJ9 : u_T := fun k => match k with
  | _ => ("", "", "", false)
def tyJ9 : Nat → FieldType := fun k => match k with
  | _ => .int
abbrev wsJ90 : List Cond := u_ws RJ9 TJ9 0
theorem nmJ9 : ∀ a, a < 0 → ∀ b, b < 0 → a ≠ b → (TJ9 a).2.1 ≠ (TJ9 b).2.1 := by decide +kernel
theorem tyJ9_ok : ∀ k, k < 0 → parseFieldDescriptor (TJ9 k).2.2.1 = some (tyJ9 k) := by decide +kernel
abbrev cJ9_abs_0f7a4 : ByteArray := prog_12_method_59_code
def yJ9_abs_0f7a4 : MethodName := ⟨RJ9, "abs", "(I)I"⟩
abbrev cJ9_max_7cf53 : ByteArray := prog_12_method_65_code
def yJ9_max_7cf53 : MethodName := ⟨RJ9, "max", "(II)I"⟩
abbrev cJ9_min_7cf53 : ByteArray := prog_12_method_69_code
def yJ9_min_7cf53 : MethodName := ⟨RJ9, "min", "(II)I"⟩
def RJ0 : String := "java/lang/String"
def TJ0 : u_T := fun k => match k with
  | _ => ("", "", "", false)
def tyJ0 : Nat → FieldType := fun k => match k with
  | _ => .int
abbrev wsJ00 : List Cond := u_ws RJ0 TJ0 0
theorem nmJ0 : ∀ a, a < 0 → ∀ b, b < 0 → a ≠ b → (TJ0 a).2.1 ≠ (TJ0 b).2.1 := by decide +kernel
theorem tyJ0_ok : ∀ k, k < 0 → parseFieldDescriptor (TJ0 k).2.2.1 = some (tyJ0 k) := by decide +kernel
def RJ7 : String := "java/util/Arrays"
def TJ7 : u_T := fun k => match k with
  | _ => ("", "", "", false)
def tyJ7 : Nat → FieldType := fun k => match k with
  | _ => .int
abbrev wsJ70 : List Cond := u_ws RJ7 TJ7 0
theorem nmJ7 : ∀ a, a < 0 → ∀ b, b < 0 → a ≠ b → (TJ7 a).2.1 ≠ (TJ7 b).2.1 := by decide +kernel
theorem tyJ7_ok : ∀ k, k < 0 → parseFieldDescriptor (TJ7 k).2.2.1 = some (tyJ7 k) := by decide +kernel
abbrev cJ7_fill_d0a16 : ByteArray := prog_16_method_101_code
def yJ7_fill_d0a16 : MethodName := ⟨RJ7, "fill", "([JJ)V"⟩
abbrev cJ7_fill_53178 : ByteArray := prog_16_method_103_code
def yJ7_fill_53178 : MethodName := ⟨RJ7, "fill", "([II)V"⟩
def RL : String := "RaceTuningLaw"
abbrev cL_mean : ByteArray := method_3_code
def yL_mean : MethodName := ⟨RL, "mean", "(LRaceTuning;III[J)I"⟩
abbrev cL_law : ByteArray := code
def yL_law : MethodName := ⟨RL, "law", "([I)Z"⟩
abbrev vwCl : List vw_C := [(RX0, TX0, 6), (RX1, TX1, 7), (RX2, TX2, 15), (RX3, TX3, 6), (RX4, TX4, 7), (RX5, TX5, 6), (RX6, TX6, 5), (RX7, TX7, 34)]
end
section
theorem dX0_init_0 : decode cX0_init 0 = .ok (.aload_n 0, 1) := by decide +kernel
theorem dX0_init_1 : decode cX0_init 1 = .ok (.invokespecial 3, 3) := by decide +kernel
theorem dX0_init_4 : decode cX0_init 4 = .ok (.aload_n 0, 1) := by decide +kernel
theorem dX0_init_5 : decode cX0_init 5 = .ok (.bipush 24, 2) := by decide +kernel
theorem dX0_init_7 : decode cX0_init 7 = .ok (.newarray .int, 2) := by decide +kernel
theorem dX0_init_9 : decode cX0_init 9 = .ok (.putfield 9, 3) := by decide +kernel
theorem dX0_init_12 : decode cX0_init 12 = .ok (.aload_n 0, 1) := by decide +kernel
theorem dX0_init_13 : decode cX0_init 13 = .ok (.bipush 24, 2) := by decide +kernel
theorem dX0_init_15 : decode cX0_init 15 = .ok (.newarray .boolean, 2) := by decide +kernel
theorem dX0_init_17 : decode cX0_init 17 = .ok (.putfield 15, 3) := by decide +kernel
theorem dX0_init_20 : decode cX0_init 20 = .ok (.aload_n 0, 1) := by decide +kernel
theorem dX0_init_21 : decode cX0_init 21 = .ok (.sipush 601, 3) := by decide +kernel
theorem dX0_init_24 : decode cX0_init 24 = .ok (.newarray .long, 2) := by decide +kernel
theorem dX0_init_26 : decode cX0_init 26 = .ok (.putfield 19, 3) := by decide +kernel
theorem dX0_init_29 : decode cX0_init 29 = .ok (.aload_n 0, 1) := by decide +kernel
theorem dX0_init_30 : decode cX0_init 30 = .ok (.iconst 0, 1) := by decide +kernel
theorem dX0_init_31 : decode cX0_init 31 = .ok (.putfield 23, 3) := by decide +kernel
theorem dX0_init_34 : decode cX0_init 34 = .ok (.aload_n 0, 1) := by decide +kernel
theorem dX0_init_35 : decode cX0_init 35 = .ok (.lconst 1, 1) := by decide +kernel
theorem dX0_init_36 : decode cX0_init 36 = .ok (.putfield 27, 3) := by decide +kernel
theorem dX0_init_39 : decode cX0_init 39 = .ok (.aload_n 0, 1) := by decide +kernel
theorem dX0_init_40 : decode cX0_init 40 = .ok (.lconst 1, 1) := by decide +kernel
theorem dX0_init_41 : decode cX0_init 41 = .ok (.putfield 31, 3) := by decide +kernel
theorem dX0_init_44 : decode cX0_init 44 = .ok (.return_, 1) := by decide +kernel
theorem dX0_clear_0 : decode cX0_clear 0 = .ok (.aload_n 0, 1) := by decide +kernel
theorem dX0_clear_1 : decode cX0_clear 1 = .ok (.iconst 0, 1) := by decide +kernel
theorem dX0_clear_2 : decode cX0_clear 2 = .ok (.putfield 23, 3) := by decide +kernel
theorem dX0_clear_5 : decode cX0_clear 5 = .ok (.return_, 1) := by decide +kernel
theorem dX0_addRound_0 : decode cX0_addRound 0 = .ok (.iload_n 1, 1) := by decide +kernel
theorem dX0_addRound_1 : decode cX0_addRound 1 = .ok (.iload_n 2, 1) := by decide +kernel
theorem dX0_addRound_2 : decode cX0_addRound 2 = .ok (.if_icmp .eq 56, 3) := by decide +kernel
theorem dX0_addRound_5 : decode cX0_addRound 5 = .ok (.aload_n 0, 1) := by decide +kernel
theorem dX0_addRound_6 : decode cX0_addRound 6 = .ok (.getfield 23, 3) := by decide +kernel
theorem dX0_addRound_9 : decode cX0_addRound 9 = .ok (.bipush 24, 2) := by decide +kernel
theorem dX0_addRound_11 : decode cX0_addRound 11 = .ok (.if_icmp .ge 47, 3) := by decide +kernel
theorem dX0_addRound_14 : decode cX0_addRound 14 = .ok (.aload_n 0, 1) := by decide +kernel
theorem dX0_addRound_15 : decode cX0_addRound 15 = .ok (.getfield 9, 3) := by decide +kernel
theorem dX0_addRound_18 : decode cX0_addRound 18 = .ok (.aload_n 0, 1) := by decide +kernel
theorem dX0_addRound_19 : decode cX0_addRound 19 = .ok (.getfield 23, 3) := by decide +kernel
theorem dX0_addRound_22 : decode cX0_addRound 22 = .ok (.iload_n 1, 1) := by decide +kernel
theorem dX0_addRound_23 : decode cX0_addRound 23 = .ok (.iload_n 2, 1) := by decide +kernel
theorem dX0_addRound_24 : decode cX0_addRound 24 = .ok (.isub, 1) := by decide +kernel
theorem dX0_addRound_25 : decode cX0_addRound 25 = .ok (.invokestatic 34, 3) := by decide +kernel
theorem dX0_addRound_28 : decode cX0_addRound 28 = .ok (.iastore, 1) := by decide +kernel
theorem dX0_addRound_29 : decode cX0_addRound 29 = .ok (.aload_n 0, 1) := by decide +kernel
theorem dX0_addRound_30 : decode cX0_addRound 30 = .ok (.getfield 15, 3) := by decide +kernel
theorem dX0_addRound_33 : decode cX0_addRound 33 = .ok (.aload_n 0, 1) := by decide +kernel
theorem dX0_addRound_34 : decode cX0_addRound 34 = .ok (.getfield 23, 3) := by decide +kernel
theorem dX0_addRound_37 : decode cX0_addRound 37 = .ok (.iload_n 1, 1) := by decide +kernel
theorem dX0_addRound_38 : decode cX0_addRound 38 = .ok (.iload_n 2, 1) := by decide +kernel
theorem dX0_addRound_39 : decode cX0_addRound 39 = .ok (.if_icmp .ge 7, 3) := by decide +kernel
theorem dX0_addRound_42 : decode cX0_addRound 42 = .ok (.iconst 1, 1) := by decide +kernel
theorem dX0_addRound_43 : decode cX0_addRound 43 = .ok (.goto 4, 3) := by decide +kernel
theorem dX0_addRound_46 : decode cX0_addRound 46 = .ok (.iconst 0, 1) := by decide +kernel
theorem dX0_addRound_47 : decode cX0_addRound 47 = .ok (.bastore, 1) := by decide +kernel
theorem dX0_addRound_48 : decode cX0_addRound 48 = .ok (.aload_n 0, 1) := by decide +kernel
theorem dX0_addRound_49 : decode cX0_addRound 49 = .ok (.dup, 1) := by decide +kernel
theorem dX0_addRound_50 : decode cX0_addRound 50 = .ok (.getfield 23, 3) := by decide +kernel
theorem dX0_addRound_53 : decode cX0_addRound 53 = .ok (.iconst 1, 1) := by decide +kernel
theorem dX0_addRound_54 : decode cX0_addRound 54 = .ok (.iadd, 1) := by decide +kernel
theorem dX0_addRound_55 : decode cX0_addRound 55 = .ok (.putfield 23, 3) := by decide +kernel
theorem dX0_addRound_58 : decode cX0_addRound 58 = .ok (.return_, 1) := by decide +kernel
theorem dX0_count_0 : decode cX0_count 0 = .ok (.aload_n 0, 1) := by decide +kernel
theorem dX0_count_1 : decode cX0_count 1 = .ok (.getfield 19, 3) := by decide +kernel
theorem dX0_count_4 : decode cX0_count 4 = .ok (.lconst 0, 1) := by decide +kernel
theorem dX0_count_5 : decode cX0_count 5 = .ok (.invokestatic 40, 3) := by decide +kernel
theorem dX0_count_8 : decode cX0_count 8 = .ok (.aload_n 0, 1) := by decide +kernel
theorem dX0_count_9 : decode cX0_count 9 = .ok (.getfield 19, 3) := by decide +kernel
theorem dX0_count_12 : decode cX0_count 12 = .ok (.iconst 0, 1) := by decide +kernel
theorem dX0_count_13 : decode cX0_count 13 = .ok (.lconst 1, 1) := by decide +kernel
theorem dX0_count_14 : decode cX0_count 14 = .ok (.lastore, 1) := by decide +kernel
theorem dX0_count_15 : decode cX0_count 15 = .ok (.iconst 0, 1) := by decide +kernel
theorem dX0_count_16 : decode cX0_count 16 = .ok (.istore_n 2, 1) := by decide +kernel
theorem dX0_count_17 : decode cX0_count 17 = .ok (.iconst 0, 1) := by decide +kernel
theorem dX0_count_18 : decode cX0_count 18 = .ok (.istore_n 3, 1) := by decide +kernel
theorem dX0_count_19 : decode cX0_count 19 = .ok (.aload_n 0, 1) := by decide +kernel
theorem dX0_count_20 : decode cX0_count 20 = .ok (.lconst 1, 1) := by decide +kernel
theorem dX0_count_21 : decode cX0_count 21 = .ok (.putfield 31, 3) := by decide +kernel
theorem dX0_count_24 : decode cX0_count 24 = .ok (.iconst 0, 1) := by decide +kernel
theorem dX0_count_25 : decode cX0_count 25 = .ok (.istore 4, 2) := by decide +kernel
theorem dX0_count_27 : decode cX0_count 27 = .ok (.iload 4, 2) := by decide +kernel
theorem dX0_count_29 : decode cX0_count 29 = .ok (.aload_n 0, 1) := by decide +kernel
theorem dX0_count_30 : decode cX0_count 30 = .ok (.getfield 23, 3) := by decide +kernel
theorem dX0_count_33 : decode cX0_count 33 = .ok (.if_icmp .ge 70, 3) := by decide +kernel
theorem dX0_count_36 : decode cX0_count 36 = .ok (.iload_n 1, 1) := by decide +kernel
theorem dX0_count_37 : decode cX0_count 37 = .ok (.ifCond .ne 7, 3) := by decide +kernel
theorem dX0_count_40 : decode cX0_count 40 = .ok (.iconst 1, 1) := by decide +kernel
theorem dX0_count_41 : decode cX0_count 41 = .ok (.goto 9, 3) := by decide +kernel
theorem dX0_count_44 : decode cX0_count 44 = .ok (.aload_n 0, 1) := by decide +kernel
theorem dX0_count_45 : decode cX0_count 45 = .ok (.iload 4, 2) := by decide +kernel
theorem dX0_count_47 : decode cX0_count 47 = .ok (.invokevirtual 46, 3) := by decide +kernel
theorem dX0_count_50 : decode cX0_count 50 = .ok (.istore 5, 2) := by decide +kernel
theorem dX0_count_52 : decode cX0_count 52 = .ok (.iload_n 2, 1) := by decide +kernel
theorem dX0_count_53 : decode cX0_count 53 = .ok (.iload 5, 2) := by decide +kernel
theorem dX0_count_55 : decode cX0_count 55 = .ok (.iadd, 1) := by decide +kernel
theorem dX0_count_56 : decode cX0_count 56 = .ok (.sipush 600, 3) := by decide +kernel
theorem dX0_count_59 : decode cX0_count 59 = .ok (.invokestatic 49, 3) := by decide +kernel
theorem dX0_count_62 : decode cX0_count 62 = .ok (.istore_n 2, 1) := by decide +kernel
theorem dX0_count_63 : decode cX0_count 63 = .ok (.aload_n 0, 1) := by decide +kernel
theorem dX0_count_64 : decode cX0_count 64 = .ok (.iload 5, 2) := by decide +kernel
theorem dX0_count_66 : decode cX0_count 66 = .ok (.iload_n 2, 1) := by decide +kernel
theorem dX0_count_67 : decode cX0_count 67 = .ok (.invokevirtual 53, 3) := by decide +kernel
theorem dX0_count_70 : decode cX0_count 70 = .ok (.aload_n 0, 1) := by decide +kernel
theorem dX0_count_71 : decode cX0_count 71 = .ok (.getfield 15, 3) := by decide +kernel
theorem dX0_count_74 : decode cX0_count 74 = .ok (.iload 4, 2) := by decide +kernel
theorem dX0_count_76 : decode cX0_count 76 = .ok (.baload, 1) := by decide +kernel
theorem dX0_count_77 : decode cX0_count 77 = .ok (.ifCond .eq 8, 3) := by decide +kernel
theorem dX0_count_80 : decode cX0_count 80 = .ok (.iload_n 3, 1) := by decide +kernel
theorem dX0_count_81 : decode cX0_count 81 = .ok (.iload 5, 2) := by decide +kernel
theorem dX0_count_83 : decode cX0_count 83 = .ok (.iadd, 1) := by decide +kernel
theorem dX0_count_84 : decode cX0_count 84 = .ok (.istore_n 3, 1) := by decide +kernel
theorem dX0_count_85 : decode cX0_count 85 = .ok (.aload_n 0, 1) := by decide +kernel
theorem dX0_count_86 : decode cX0_count 86 = .ok (.dup, 1) := by decide +kernel
theorem dX0_count_87 : decode cX0_count 87 = .ok (.getfield 31, 3) := by decide +kernel
theorem dX0_count_90 : decode cX0_count 90 = .ok (.ldc2_w 57, 3) := by decide +kernel
theorem dX0_count_93 : decode cX0_count 93 = .ok (.lmul, 1) := by decide +kernel
theorem dX0_count_94 : decode cX0_count 94 = .ok (.putfield 31, 3) := by decide +kernel
theorem dX0_count_97 : decode cX0_count 97 = .ok (.iinc 4 1, 3) := by decide +kernel
theorem dX0_count_100 : decode cX0_count 100 = .ok (.goto (-73), 3) := by decide +kernel
theorem dX0_count_103 : decode cX0_count 103 = .ok (.aload_n 0, 1) := by decide +kernel
theorem dX0_count_104 : decode cX0_count 104 = .ok (.lconst 0, 1) := by decide +kernel
theorem dX0_count_105 : decode cX0_count 105 = .ok (.putfield 27, 3) := by decide +kernel
theorem dX0_count_108 : decode cX0_count 108 = .ok (.iload_n 3, 1) := by decide +kernel
theorem dX0_count_109 : decode cX0_count 109 = .ok (.istore 4, 2) := by decide +kernel
theorem dX0_count_111 : decode cX0_count 111 = .ok (.iload 4, 2) := by decide +kernel
theorem dX0_count_113 : decode cX0_count 113 = .ok (.iload_n 2, 1) := by decide +kernel
theorem dX0_count_114 : decode cX0_count 114 = .ok (.if_icmp .gt 25, 3) := by decide +kernel
theorem dX0_count_117 : decode cX0_count 117 = .ok (.aload_n 0, 1) := by decide +kernel
theorem dX0_count_118 : decode cX0_count 118 = .ok (.dup, 1) := by decide +kernel
theorem dX0_count_119 : decode cX0_count 119 = .ok (.getfield 27, 3) := by decide +kernel
theorem dX0_count_122 : decode cX0_count 122 = .ok (.aload_n 0, 1) := by decide +kernel
theorem dX0_count_123 : decode cX0_count 123 = .ok (.getfield 19, 3) := by decide +kernel
theorem dX0_count_126 : decode cX0_count 126 = .ok (.iload 4, 2) := by decide +kernel
theorem dX0_count_128 : decode cX0_count 128 = .ok (.laload, 1) := by decide +kernel
theorem dX0_count_129 : decode cX0_count 129 = .ok (.ladd, 1) := by decide +kernel
theorem dX0_count_130 : decode cX0_count 130 = .ok (.putfield 27, 3) := by decide +kernel
theorem dX0_count_133 : decode cX0_count 133 = .ok (.iinc 4 1, 3) := by decide +kernel
theorem dX0_count_136 : decode cX0_count 136 = .ok (.goto (-25), 3) := by decide +kernel
theorem dX0_count_139 : decode cX0_count 139 = .ok (.return_, 1) := by decide +kernel
theorem dX0_addSign_0 : decode cX0_addSign 0 = .ok (.iload_n 2, 1) := by decide +kernel
theorem dX0_addSign_1 : decode cX0_addSign 1 = .ok (.istore_n 3, 1) := by decide +kernel
theorem dX0_addSign_2 : decode cX0_addSign 2 = .ok (.iload_n 3, 1) := by decide +kernel
theorem dX0_addSign_3 : decode cX0_addSign 3 = .ok (.iload_n 1, 1) := by decide +kernel
theorem dX0_addSign_4 : decode cX0_addSign 4 = .ok (.if_icmp .lt 26, 3) := by decide +kernel
theorem dX0_addSign_7 : decode cX0_addSign 7 = .ok (.aload_n 0, 1) := by decide +kernel
theorem dX0_addSign_8 : decode cX0_addSign 8 = .ok (.getfield 19, 3) := by decide +kernel
theorem dX0_addSign_11 : decode cX0_addSign 11 = .ok (.iload_n 3, 1) := by decide +kernel
theorem dX0_addSign_12 : decode cX0_addSign 12 = .ok (.dup2, 1) := by decide +kernel
theorem dX0_addSign_13 : decode cX0_addSign 13 = .ok (.laload, 1) := by decide +kernel
theorem dX0_addSign_14 : decode cX0_addSign 14 = .ok (.aload_n 0, 1) := by decide +kernel
theorem dX0_addSign_15 : decode cX0_addSign 15 = .ok (.getfield 19, 3) := by decide +kernel
theorem dX0_addSign_18 : decode cX0_addSign 18 = .ok (.iload_n 3, 1) := by decide +kernel
theorem dX0_addSign_19 : decode cX0_addSign 19 = .ok (.iload_n 1, 1) := by decide +kernel
theorem dX0_addSign_20 : decode cX0_addSign 20 = .ok (.isub, 1) := by decide +kernel
theorem dX0_addSign_21 : decode cX0_addSign 21 = .ok (.laload, 1) := by decide +kernel
theorem dX0_addSign_22 : decode cX0_addSign 22 = .ok (.ladd, 1) := by decide +kernel
theorem dX0_addSign_23 : decode cX0_addSign 23 = .ok (.lastore, 1) := by decide +kernel
theorem dX0_addSign_24 : decode cX0_addSign 24 = .ok (.iinc 3 (-1), 3) := by decide +kernel
theorem dX0_addSign_27 : decode cX0_addSign 27 = .ok (.goto (-25), 3) := by decide +kernel
theorem dX0_addSign_30 : decode cX0_addSign 30 = .ok (.return_, 1) := by decide +kernel
theorem dX0_weightOf_0 : decode cX0_weightOf 0 = .ok (.iconst 2, 1) := by decide +kernel
theorem dX0_weightOf_1 : decode cX0_weightOf 1 = .ok (.istore_n 2, 1) := by decide +kernel
theorem dX0_weightOf_2 : decode cX0_weightOf 2 = .ok (.iconst 0, 1) := by decide +kernel
theorem dX0_weightOf_3 : decode cX0_weightOf 3 = .ok (.istore_n 3, 1) := by decide +kernel
theorem dX0_weightOf_4 : decode cX0_weightOf 4 = .ok (.iload_n 3, 1) := by decide +kernel
theorem dX0_weightOf_5 : decode cX0_weightOf 5 = .ok (.aload_n 0, 1) := by decide +kernel
theorem dX0_weightOf_6 : decode cX0_weightOf 6 = .ok (.getfield 23, 3) := by decide +kernel
theorem dX0_weightOf_9 : decode cX0_weightOf 9 = .ok (.if_icmp .ge 53, 3) := by decide +kernel
theorem dX0_weightOf_12 : decode cX0_weightOf 12 = .ok (.aload_n 0, 1) := by decide +kernel
theorem dX0_weightOf_13 : decode cX0_weightOf 13 = .ok (.getfield 9, 3) := by decide +kernel
theorem dX0_weightOf_16 : decode cX0_weightOf 16 = .ok (.iload_n 3, 1) := by decide +kernel
theorem dX0_weightOf_17 : decode cX0_weightOf 17 = .ok (.iaload, 1) := by decide +kernel
theorem dX0_weightOf_18 : decode cX0_weightOf 18 = .ok (.aload_n 0, 1) := by decide +kernel
theorem dX0_weightOf_19 : decode cX0_weightOf 19 = .ok (.getfield 9, 3) := by decide +kernel
theorem dX0_weightOf_22 : decode cX0_weightOf 22 = .ok (.iload_n 1, 1) := by decide +kernel
theorem dX0_weightOf_23 : decode cX0_weightOf 23 = .ok (.iaload, 1) := by decide +kernel
theorem dX0_weightOf_24 : decode cX0_weightOf 24 = .ok (.if_icmp .ge 9, 3) := by decide +kernel
theorem dX0_weightOf_27 : decode cX0_weightOf 27 = .ok (.iinc 2 2, 3) := by decide +kernel
theorem dX0_weightOf_30 : decode cX0_weightOf 30 = .ok (.goto 26, 3) := by decide +kernel
theorem dX0_weightOf_33 : decode cX0_weightOf 33 = .ok (.iload_n 3, 1) := by decide +kernel
theorem dX0_weightOf_34 : decode cX0_weightOf 34 = .ok (.iload_n 1, 1) := by decide +kernel
theorem dX0_weightOf_35 : decode cX0_weightOf 35 = .ok (.if_icmp .eq 21, 3) := by decide +kernel
theorem dX0_weightOf_38 : decode cX0_weightOf 38 = .ok (.aload_n 0, 1) := by decide +kernel
theorem dX0_weightOf_39 : decode cX0_weightOf 39 = .ok (.getfield 9, 3) := by decide +kernel
theorem dX0_weightOf_42 : decode cX0_weightOf 42 = .ok (.iload_n 3, 1) := by decide +kernel
theorem dX0_weightOf_43 : decode cX0_weightOf 43 = .ok (.iaload, 1) := by decide +kernel
theorem dX0_weightOf_44 : decode cX0_weightOf 44 = .ok (.aload_n 0, 1) := by decide +kernel
theorem dX0_weightOf_45 : decode cX0_weightOf 45 = .ok (.getfield 9, 3) := by decide +kernel
theorem dX0_weightOf_48 : decode cX0_weightOf 48 = .ok (.iload_n 1, 1) := by decide +kernel
theorem dX0_weightOf_49 : decode cX0_weightOf 49 = .ok (.iaload, 1) := by decide +kernel
theorem dX0_weightOf_50 : decode cX0_weightOf 50 = .ok (.if_icmp .ne 6, 3) := by decide +kernel
theorem dX0_weightOf_53 : decode cX0_weightOf 53 = .ok (.iinc 2 1, 3) := by decide +kernel
theorem dX0_weightOf_56 : decode cX0_weightOf 56 = .ok (.iinc 3 1, 3) := by decide +kernel
theorem dX0_weightOf_59 : decode cX0_weightOf 59 = .ok (.goto (-55), 3) := by decide +kernel
theorem dX0_weightOf_62 : decode cX0_weightOf 62 = .ok (.iload_n 2, 1) := by decide +kernel
theorem dX0_weightOf_63 : decode cX0_weightOf 63 = .ok (.ireturn, 1) := by decide +kernel
theorem dX0_areAbove_0 : decode cX0_areAbove 0 = .ok (.aload_n 0, 1) := by decide +kernel
theorem dX0_areAbove_1 : decode cX0_areAbove 1 = .ok (.getfield 27, 3) := by decide +kernel
theorem dX0_areAbove_4 : decode cX0_areAbove 4 = .ok (.iload_n 2, 1) := by decide +kernel
theorem dX0_areAbove_5 : decode cX0_areAbove 5 = .ok (.i2l, 1) := by decide +kernel
theorem dX0_areAbove_6 : decode cX0_areAbove 6 = .ok (.lmul, 1) := by decide +kernel
theorem dX0_areAbove_7 : decode cX0_areAbove 7 = .ok (.iload_n 1, 1) := by decide +kernel
theorem dX0_areAbove_8 : decode cX0_areAbove 8 = .ok (.i2l, 1) := by decide +kernel
theorem dX0_areAbove_9 : decode cX0_areAbove 9 = .ok (.aload_n 0, 1) := by decide +kernel
theorem dX0_areAbove_10 : decode cX0_areAbove 10 = .ok (.getfield 31, 3) := by decide +kernel
theorem dX0_areAbove_13 : decode cX0_areAbove 13 = .ok (.lmul, 1) := by decide +kernel
theorem dX0_areAbove_14 : decode cX0_areAbove 14 = .ok (.lcmp, 1) := by decide +kernel
theorem dX0_areAbove_15 : decode cX0_areAbove 15 = .ok (.ifCond .le 7, 3) := by decide +kernel
theorem dX0_areAbove_18 : decode cX0_areAbove 18 = .ok (.iconst 1, 1) := by decide +kernel
theorem dX0_areAbove_19 : decode cX0_areAbove 19 = .ok (.goto 4, 3) := by decide +kernel
theorem dX0_areAbove_22 : decode cX0_areAbove 22 = .ok (.iconst 0, 1) := by decide +kernel
theorem dX0_areAbove_23 : decode cX0_areAbove 23 = .ok (.ireturn, 1) := by decide +kernel
theorem dX1_init_0 : decode cX1_init 0 = .ok (.aload_n 0, 1) := by decide +kernel
theorem dX1_init_1 : decode cX1_init 1 = .ok (.invokespecial 3, 3) := by decide +kernel
theorem dX1_init_4 : decode cX1_init 4 = .ok (.aload_n 0, 1) := by decide +kernel
theorem dX1_init_5 : decode cX1_init 5 = .ok (.bipush 12, 2) := by decide +kernel
theorem dX1_init_7 : decode cX1_init 7 = .ok (.newarray .int, 2) := by decide +kernel
theorem dX1_init_9 : decode cX1_init 9 = .ok (.putfield 9, 3) := by decide +kernel
theorem dX1_init_12 : decode cX1_init 12 = .ok (.aload_n 0, 1) := by decide +kernel
theorem dX1_init_13 : decode cX1_init 13 = .ok (.bipush 12, 2) := by decide +kernel
theorem dX1_init_15 : decode cX1_init 15 = .ok (.newarray .int, 2) := by decide +kernel
theorem dX1_init_17 : decode cX1_init 17 = .ok (.putfield 15, 3) := by decide +kernel
theorem dX1_init_20 : decode cX1_init 20 = .ok (.aload_n 0, 1) := by decide +kernel
theorem dX1_init_21 : decode cX1_init 21 = .ok (.bipush 12, 2) := by decide +kernel
theorem dX1_init_23 : decode cX1_init 23 = .ok (.newarray .int, 2) := by decide +kernel
theorem dX1_init_25 : decode cX1_init 25 = .ok (.putfield 18, 3) := by decide +kernel
theorem dX1_init_28 : decode cX1_init 28 = .ok (.aload_n 0, 1) := by decide +kernel
theorem dX1_init_29 : decode cX1_init 29 = .ok (.bipush 13, 2) := by decide +kernel
theorem dX1_init_31 : decode cX1_init 31 = .ok (.bipush 24, 2) := by decide +kernel
theorem dX1_init_33 : decode cX1_init 33 = .ok (.multianewarray 21 2, 4) := by decide +kernel
theorem dX1_init_37 : decode cX1_init 37 = .ok (.putfield 23, 3) := by decide +kernel
theorem dX1_init_40 : decode cX1_init 40 = .ok (.aload_n 0, 1) := by decide +kernel
theorem dX1_init_41 : decode cX1_init 41 = .ok (.iconst 0, 1) := by decide +kernel
theorem dX1_init_42 : decode cX1_init 42 = .ok (.putfield 26, 3) := by decide +kernel
theorem dX1_init_45 : decode cX1_init 45 = .ok (.aload_n 0, 1) := by decide +kernel
theorem dX1_init_46 : decode cX1_init 46 = .ok (.iconst 0, 1) := by decide +kernel
theorem dX1_init_47 : decode cX1_init 47 = .ok (.putfield 30, 3) := by decide +kernel
theorem dX1_init_50 : decode cX1_init 50 = .ok (.aload_n 0, 1) := by decide +kernel
theorem dX1_init_51 : decode cX1_init 51 = .ok (.iconst 0, 1) := by decide +kernel
theorem dX1_init_52 : decode cX1_init 52 = .ok (.putfield 33, 3) := by decide +kernel
theorem dX1_init_55 : decode cX1_init 55 = .ok (.return_, 1) := by decide +kernel
theorem dX1_find_0 : decode cX1_find 0 = .ok (.aload_n 0, 1) := by decide +kernel
theorem dX1_find_1 : decode cX1_find 1 = .ok (.aload_n 1, 1) := by decide +kernel
theorem dX1_find_2 : decode cX1_find 2 = .ok (.invokevirtual 36, 3) := by decide +kernel
theorem dX1_find_5 : decode cX1_find 5 = .ok (.aload_n 0, 1) := by decide +kernel
theorem dX1_find_6 : decode cX1_find 6 = .ok (.iconst 0, 1) := by decide +kernel
theorem dX1_find_7 : decode cX1_find 7 = .ok (.iload_n 2, 1) := by decide +kernel
theorem dX1_find_8 : decode cX1_find 8 = .ok (.aload_n 0, 1) := by decide +kernel
theorem dX1_find_9 : decode cX1_find 9 = .ok (.getfield 26, 3) := by decide +kernel
theorem dX1_find_12 : decode cX1_find 12 = .ok (.invokestatic 40, 3) := by decide +kernel
theorem dX1_find_15 : decode cX1_find 15 = .ok (.invokestatic 46, 3) := by decide +kernel
theorem dX1_find_18 : decode cX1_find 18 = .ok (.putfield 30, 3) := by decide +kernel
theorem dX1_find_21 : decode cX1_find 21 = .ok (.aload_n 0, 1) := by decide +kernel
theorem dX1_find_22 : decode cX1_find 22 = .ok (.ldc 51, 2) := by decide +kernel
theorem dX1_find_24 : decode cX1_find 24 = .ok (.putfield 33, 3) := by decide +kernel
theorem dX1_find_27 : decode cX1_find 27 = .ok (.aload_n 0, 1) := by decide +kernel
theorem dX1_find_28 : decode cX1_find 28 = .ok (.getfield 23, 3) := by decide +kernel
theorem dX1_find_31 : decode cX1_find 31 = .ok (.iconst 0, 1) := by decide +kernel
theorem dX1_find_32 : decode cX1_find 32 = .ok (.aaload, 1) := by decide +kernel
theorem dX1_find_33 : decode cX1_find 33 = .ok (.ldc 52, 2) := by decide +kernel
theorem dX1_find_35 : decode cX1_find 35 = .ok (.invokestatic 53, 3) := by decide +kernel
theorem dX1_find_38 : decode cX1_find 38 = .ok (.aload_n 0, 1) := by decide +kernel
theorem dX1_find_39 : decode cX1_find 39 = .ok (.aload_n 1, 1) := by decide +kernel
theorem dX1_find_40 : decode cX1_find 40 = .ok (.iconst 0, 1) := by decide +kernel
theorem dX1_find_41 : decode cX1_find 41 = .ok (.iconst 0, 1) := by decide +kernel
theorem dX1_find_42 : decode cX1_find 42 = .ok (.invokevirtual 59, 3) := by decide +kernel
theorem dX1_find_45 : decode cX1_find 45 = .ok (.iconst 0, 1) := by decide +kernel
theorem dX1_find_46 : decode cX1_find 46 = .ok (.istore_n 3, 1) := by decide +kernel
theorem dX1_find_47 : decode cX1_find 47 = .ok (.iconst 0, 1) := by decide +kernel
theorem dX1_find_48 : decode cX1_find 48 = .ok (.istore 4, 2) := by decide +kernel
theorem dX1_find_50 : decode cX1_find 50 = .ok (.iload 4, 2) := by decide +kernel
theorem dX1_find_52 : decode cX1_find 52 = .ok (.sipush 4096, 3) := by decide +kernel
theorem dX1_find_55 : decode cX1_find 55 = .ok (.if_icmp .ge 43, 3) := by decide +kernel
theorem dX1_find_58 : decode cX1_find 58 = .ok (.iload_n 3, 1) := by decide +kernel
theorem dX1_find_59 : decode cX1_find 59 = .ok (.iconst (-1), 1) := by decide +kernel
theorem dX1_find_60 : decode cX1_find 60 = .ok (.if_icmp .eq 38, 3) := by decide +kernel
theorem dX1_find_63 : decode cX1_find 63 = .ok (.aload_n 0, 1) := by decide +kernel
theorem dX1_find_64 : decode cX1_find 64 = .ok (.aload_n 1, 1) := by decide +kernel
theorem dX1_find_65 : decode cX1_find 65 = .ok (.invokevirtual 63, 3) := by decide +kernel
theorem dX1_find_68 : decode cX1_find 68 = .ok (.aload_n 0, 1) := by decide +kernel
theorem dX1_find_69 : decode cX1_find 69 = .ok (.invokevirtual 66, 3) := by decide +kernel
theorem dX1_find_72 : decode cX1_find 72 = .ok (.istore_n 3, 1) := by decide +kernel
theorem dX1_find_73 : decode cX1_find 73 = .ok (.iload_n 3, 1) := by decide +kernel
theorem dX1_find_74 : decode cX1_find 74 = .ok (.iconst (-1), 1) := by decide +kernel
theorem dX1_find_75 : decode cX1_find 75 = .ok (.if_icmp .eq 17, 3) := by decide +kernel
theorem dX1_find_78 : decode cX1_find 78 = .ok (.aload_n 0, 1) := by decide +kernel
theorem dX1_find_79 : decode cX1_find 79 = .ok (.aload_n 1, 1) := by decide +kernel
theorem dX1_find_80 : decode cX1_find 80 = .ok (.iload_n 3, 1) := by decide +kernel
theorem dX1_find_81 : decode cX1_find 81 = .ok (.aload_n 0, 1) := by decide +kernel
theorem dX1_find_82 : decode cX1_find 82 = .ok (.getfield 15, 3) := by decide +kernel
theorem dX1_find_85 : decode cX1_find 85 = .ok (.iload_n 3, 1) := by decide +kernel
theorem dX1_find_86 : decode cX1_find 86 = .ok (.iaload, 1) := by decide +kernel
theorem dX1_find_87 : decode cX1_find 87 = .ok (.iconst 1, 1) := by decide +kernel
theorem dX1_find_88 : decode cX1_find 88 = .ok (.iadd, 1) := by decide +kernel
theorem dX1_find_89 : decode cX1_find 89 = .ok (.invokevirtual 59, 3) := by decide +kernel
theorem dX1_find_92 : decode cX1_find 92 = .ok (.iinc 4 1, 3) := by decide +kernel
theorem dX1_find_95 : decode cX1_find 95 = .ok (.goto (-45), 3) := by decide +kernel
theorem dX1_find_98 : decode cX1_find 98 = .ok (.return_, 1) := by decide +kernel
theorem dX1_memberAt_0 : decode cX1_memberAt 0 = .ok (.iload_n 1, 1) := by decide +kernel
theorem dX1_memberAt_1 : decode cX1_memberAt 1 = .ok (.ifCond .lt 20, 3) := by decide +kernel
theorem dX1_memberAt_4 : decode cX1_memberAt 4 = .ok (.iload_n 1, 1) := by decide +kernel
theorem dX1_memberAt_5 : decode cX1_memberAt 5 = .ok (.aload_n 0, 1) := by decide +kernel
theorem dX1_memberAt_6 : decode cX1_memberAt 6 = .ok (.getfield 30, 3) := by decide +kernel
theorem dX1_memberAt_9 : decode cX1_memberAt 9 = .ok (.if_icmp .ge 12, 3) := by decide +kernel
theorem dX1_memberAt_12 : decode cX1_memberAt 12 = .ok (.aload_n 0, 1) := by decide +kernel
theorem dX1_memberAt_13 : decode cX1_memberAt 13 = .ok (.getfield 18, 3) := by decide +kernel
theorem dX1_memberAt_16 : decode cX1_memberAt 16 = .ok (.iload_n 1, 1) := by decide +kernel
theorem dX1_memberAt_17 : decode cX1_memberAt 17 = .ok (.iaload, 1) := by decide +kernel
theorem dX1_memberAt_18 : decode cX1_memberAt 18 = .ok (.goto 4, 3) := by decide +kernel
theorem dX1_memberAt_21 : decode cX1_memberAt 21 = .ok (.iconst (-1), 1) := by decide +kernel
theorem dX1_memberAt_22 : decode cX1_memberAt 22 = .ok (.ireturn, 1) := by decide +kernel
theorem dX1_gatherWhole_0 : decode cX1_gatherWhole 0 = .ok (.aload_n 0, 1) := by decide +kernel
theorem dX1_gatherWhole_1 : decode cX1_gatherWhole 1 = .ok (.iconst 0, 1) := by decide +kernel
theorem dX1_gatherWhole_2 : decode cX1_gatherWhole 2 = .ok (.putfield 26, 3) := by decide +kernel
theorem dX1_gatherWhole_5 : decode cX1_gatherWhole 5 = .ok (.iconst 0, 1) := by decide +kernel
theorem dX1_gatherWhole_6 : decode cX1_gatherWhole 6 = .ok (.istore_n 2, 1) := by decide +kernel
theorem dX1_gatherWhole_7 : decode cX1_gatherWhole 7 = .ok (.iload_n 2, 1) := by decide +kernel
theorem dX1_gatherWhole_8 : decode cX1_gatherWhole 8 = .ok (.aload_n 1, 1) := by decide +kernel
theorem dX1_gatherWhole_9 : decode cX1_gatherWhole 9 = .ok (.getfield 70, 3) := by decide +kernel
theorem dX1_gatherWhole_12 : decode cX1_gatherWhole 12 = .ok (.if_icmp .ge 37, 3) := by decide +kernel
theorem dX1_gatherWhole_15 : decode cX1_gatherWhole 15 = .ok (.aload_n 1, 1) := by decide +kernel
theorem dX1_gatherWhole_16 : decode cX1_gatherWhole 16 = .ok (.iload_n 2, 1) := by decide +kernel
theorem dX1_gatherWhole_17 : decode cX1_gatherWhole 17 = .ok (.invokevirtual 75, 3) := by decide +kernel
theorem dX1_gatherWhole_20 : decode cX1_gatherWhole 20 = .ok (.ifCond .eq 23, 3) := by decide +kernel
theorem dX1_gatherWhole_23 : decode cX1_gatherWhole 23 = .ok (.aload_n 0, 1) := by decide +kernel
theorem dX1_gatherWhole_24 : decode cX1_gatherWhole 24 = .ok (.getfield 9, 3) := by decide +kernel
theorem dX1_gatherWhole_27 : decode cX1_gatherWhole 27 = .ok (.aload_n 0, 1) := by decide +kernel
theorem dX1_gatherWhole_28 : decode cX1_gatherWhole 28 = .ok (.getfield 26, 3) := by decide +kernel
theorem dX1_gatherWhole_31 : decode cX1_gatherWhole 31 = .ok (.iload_n 2, 1) := by decide +kernel
theorem dX1_gatherWhole_32 : decode cX1_gatherWhole 32 = .ok (.iastore, 1) := by decide +kernel
theorem dX1_gatherWhole_33 : decode cX1_gatherWhole 33 = .ok (.aload_n 0, 1) := by decide +kernel
theorem dX1_gatherWhole_34 : decode cX1_gatherWhole 34 = .ok (.dup, 1) := by decide +kernel
theorem dX1_gatherWhole_35 : decode cX1_gatherWhole 35 = .ok (.getfield 26, 3) := by decide +kernel
theorem dX1_gatherWhole_38 : decode cX1_gatherWhole 38 = .ok (.iconst 1, 1) := by decide +kernel
theorem dX1_gatherWhole_39 : decode cX1_gatherWhole 39 = .ok (.iadd, 1) := by decide +kernel
theorem dX1_gatherWhole_40 : decode cX1_gatherWhole 40 = .ok (.putfield 26, 3) := by decide +kernel
theorem dX1_gatherWhole_43 : decode cX1_gatherWhole 43 = .ok (.iinc 2 1, 3) := by decide +kernel
theorem dX1_gatherWhole_46 : decode cX1_gatherWhole 46 = .ok (.goto (-39), 3) := by decide +kernel
theorem dX1_gatherWhole_49 : decode cX1_gatherWhole 49 = .ok (.return_, 1) := by decide +kernel
theorem dX1_placeFrom_0 : decode cX1_placeFrom 0 = .ok (.iload_n 2, 1) := by decide +kernel
theorem dX1_placeFrom_1 : decode cX1_placeFrom 1 = .ok (.istore 4, 2) := by decide +kernel
theorem dX1_placeFrom_3 : decode cX1_placeFrom 3 = .ok (.iload 4, 2) := by decide +kernel
theorem dX1_placeFrom_5 : decode cX1_placeFrom 5 = .ok (.aload_n 0, 1) := by decide +kernel
theorem dX1_placeFrom_6 : decode cX1_placeFrom 6 = .ok (.getfield 30, 3) := by decide +kernel
theorem dX1_placeFrom_9 : decode cX1_placeFrom 9 = .ok (.if_icmp .ge 54, 3) := by decide +kernel
theorem dX1_placeFrom_12 : decode cX1_placeFrom 12 = .ok (.iload_n 3, 1) := by decide +kernel
theorem dX1_placeFrom_13 : decode cX1_placeFrom 13 = .ok (.iload 4, 2) := by decide +kernel
theorem dX1_placeFrom_15 : decode cX1_placeFrom 15 = .ok (.iadd, 1) := by decide +kernel
theorem dX1_placeFrom_16 : decode cX1_placeFrom 16 = .ok (.iload_n 2, 1) := by decide +kernel
theorem dX1_placeFrom_17 : decode cX1_placeFrom 17 = .ok (.isub, 1) := by decide +kernel
theorem dX1_placeFrom_18 : decode cX1_placeFrom 18 = .ok (.aload_n 0, 1) := by decide +kernel
theorem dX1_placeFrom_19 : decode cX1_placeFrom 19 = .ok (.getfield 26, 3) := by decide +kernel
theorem dX1_placeFrom_22 : decode cX1_placeFrom 22 = .ok (.if_icmp .ge 41, 3) := by decide +kernel
theorem dX1_placeFrom_25 : decode cX1_placeFrom 25 = .ok (.aload_n 0, 1) := by decide +kernel
theorem dX1_placeFrom_26 : decode cX1_placeFrom 26 = .ok (.getfield 15, 3) := by decide +kernel
theorem dX1_placeFrom_29 : decode cX1_placeFrom 29 = .ok (.iload 4, 2) := by decide +kernel
theorem dX1_placeFrom_31 : decode cX1_placeFrom 31 = .ok (.iload_n 3, 1) := by decide +kernel
theorem dX1_placeFrom_32 : decode cX1_placeFrom 32 = .ok (.iload 4, 2) := by decide +kernel
theorem dX1_placeFrom_34 : decode cX1_placeFrom 34 = .ok (.iadd, 1) := by decide +kernel
theorem dX1_placeFrom_35 : decode cX1_placeFrom 35 = .ok (.iload_n 2, 1) := by decide +kernel
theorem dX1_placeFrom_36 : decode cX1_placeFrom 36 = .ok (.isub, 1) := by decide +kernel
theorem dX1_placeFrom_37 : decode cX1_placeFrom 37 = .ok (.iastore, 1) := by decide +kernel
theorem dX1_placeFrom_38 : decode cX1_placeFrom 38 = .ok (.aload_n 0, 1) := by decide +kernel
theorem dX1_placeFrom_39 : decode cX1_placeFrom 39 = .ok (.aload_n 1, 1) := by decide +kernel
theorem dX1_placeFrom_40 : decode cX1_placeFrom 40 = .ok (.iload 4, 2) := by decide +kernel
theorem dX1_placeFrom_42 : decode cX1_placeFrom 42 = .ok (.aload_n 0, 1) := by decide +kernel
theorem dX1_placeFrom_43 : decode cX1_placeFrom 43 = .ok (.getfield 9, 3) := by decide +kernel
theorem dX1_placeFrom_46 : decode cX1_placeFrom 46 = .ok (.aload_n 0, 1) := by decide +kernel
theorem dX1_placeFrom_47 : decode cX1_placeFrom 47 = .ok (.getfield 15, 3) := by decide +kernel
theorem dX1_placeFrom_50 : decode cX1_placeFrom 50 = .ok (.iload 4, 2) := by decide +kernel
theorem dX1_placeFrom_52 : decode cX1_placeFrom 52 = .ok (.iaload, 1) := by decide +kernel
theorem dX1_placeFrom_53 : decode cX1_placeFrom 53 = .ok (.iaload, 1) := by decide +kernel
theorem dX1_placeFrom_54 : decode cX1_placeFrom 54 = .ok (.invokevirtual 79, 3) := by decide +kernel
theorem dX1_placeFrom_57 : decode cX1_placeFrom 57 = .ok (.iinc 4 1, 3) := by decide +kernel
theorem dX1_placeFrom_60 : decode cX1_placeFrom 60 = .ok (.goto (-57), 3) := by decide +kernel
theorem dX1_placeFrom_63 : decode cX1_placeFrom 63 = .ok (.return_, 1) := by decide +kernel
theorem dX1_joinCosts_0 : decode cX1_joinCosts 0 = .ok (.iconst 0, 1) := by decide +kernel
theorem dX1_joinCosts_1 : decode cX1_joinCosts 1 = .ok (.istore 4, 2) := by decide +kernel
theorem dX1_joinCosts_3 : decode cX1_joinCosts 3 = .ok (.iload 4, 2) := by decide +kernel
theorem dX1_joinCosts_5 : decode cX1_joinCosts 5 = .ok (.aload_n 1, 1) := by decide +kernel
theorem dX1_joinCosts_6 : decode cX1_joinCosts 6 = .ok (.getfield 82, 3) := by decide +kernel
theorem dX1_joinCosts_9 : decode cX1_joinCosts 9 = .ok (.if_icmp .ge 39, 3) := by decide +kernel
theorem dX1_joinCosts_12 : decode cX1_joinCosts 12 = .ok (.aload_n 0, 1) := by decide +kernel
theorem dX1_joinCosts_13 : decode cX1_joinCosts 13 = .ok (.getfield 23, 3) := by decide +kernel
theorem dX1_joinCosts_16 : decode cX1_joinCosts 16 = .ok (.iload_n 2, 1) := by decide +kernel
theorem dX1_joinCosts_17 : decode cX1_joinCosts 17 = .ok (.iconst 1, 1) := by decide +kernel
theorem dX1_joinCosts_18 : decode cX1_joinCosts 18 = .ok (.iadd, 1) := by decide +kernel
theorem dX1_joinCosts_19 : decode cX1_joinCosts 19 = .ok (.aaload, 1) := by decide +kernel
theorem dX1_joinCosts_20 : decode cX1_joinCosts 20 = .ok (.iload 4, 2) := by decide +kernel
theorem dX1_joinCosts_22 : decode cX1_joinCosts 22 = .ok (.aload_n 0, 1) := by decide +kernel
theorem dX1_joinCosts_23 : decode cX1_joinCosts 23 = .ok (.getfield 23, 3) := by decide +kernel
theorem dX1_joinCosts_26 : decode cX1_joinCosts 26 = .ok (.iload_n 2, 1) := by decide +kernel
theorem dX1_joinCosts_27 : decode cX1_joinCosts 27 = .ok (.aaload, 1) := by decide +kernel
theorem dX1_joinCosts_28 : decode cX1_joinCosts 28 = .ok (.iload 4, 2) := by decide +kernel
theorem dX1_joinCosts_30 : decode cX1_joinCosts 30 = .ok (.iaload, 1) := by decide +kernel
theorem dX1_joinCosts_31 : decode cX1_joinCosts 31 = .ok (.aload_n 1, 1) := by decide +kernel
theorem dX1_joinCosts_32 : decode cX1_joinCosts 32 = .ok (.iload_n 3, 1) := by decide +kernel
theorem dX1_joinCosts_33 : decode cX1_joinCosts 33 = .ok (.iload 4, 2) := by decide +kernel
theorem dX1_joinCosts_35 : decode cX1_joinCosts 35 = .ok (.invokevirtual 85, 3) := by decide +kernel
theorem dX1_joinCosts_38 : decode cX1_joinCosts 38 = .ok (.invokestatic 40, 3) := by decide +kernel
theorem dX1_joinCosts_41 : decode cX1_joinCosts 41 = .ok (.iastore, 1) := by decide +kernel
theorem dX1_joinCosts_42 : decode cX1_joinCosts 42 = .ok (.iinc 4 1, 3) := by decide +kernel
theorem dX1_joinCosts_45 : decode cX1_joinCosts 45 = .ok (.goto (-42), 3) := by decide +kernel
theorem dX1_joinCosts_48 : decode cX1_joinCosts 48 = .ok (.return_, 1) := by decide +kernel
theorem dX1_lastThatCanRise_0 : decode cX1_lastThatCanRise 0 = .ok (.aload_n 0, 1) := by decide +kernel
theorem dX1_lastThatCanRise_1 : decode cX1_lastThatCanRise 1 = .ok (.getfield 30, 3) := by decide +kernel
theorem dX1_lastThatCanRise_4 : decode cX1_lastThatCanRise 4 = .ok (.iconst 1, 1) := by decide +kernel
theorem dX1_lastThatCanRise_5 : decode cX1_lastThatCanRise 5 = .ok (.isub, 1) := by decide +kernel
theorem dX1_lastThatCanRise_6 : decode cX1_lastThatCanRise 6 = .ok (.istore_n 1, 1) := by decide +kernel
theorem dX1_lastThatCanRise_7 : decode cX1_lastThatCanRise 7 = .ok (.iload_n 1, 1) := by decide +kernel
theorem dX1_lastThatCanRise_8 : decode cX1_lastThatCanRise 8 = .ok (.ifCond .lt 31, 3) := by decide +kernel
theorem dX1_lastThatCanRise_11 : decode cX1_lastThatCanRise 11 = .ok (.aload_n 0, 1) := by decide +kernel
theorem dX1_lastThatCanRise_12 : decode cX1_lastThatCanRise 12 = .ok (.getfield 15, 3) := by decide +kernel
theorem dX1_lastThatCanRise_15 : decode cX1_lastThatCanRise 15 = .ok (.iload_n 1, 1) := by decide +kernel
theorem dX1_lastThatCanRise_16 : decode cX1_lastThatCanRise 16 = .ok (.iaload, 1) := by decide +kernel
theorem dX1_lastThatCanRise_17 : decode cX1_lastThatCanRise 17 = .ok (.aload_n 0, 1) := by decide +kernel
theorem dX1_lastThatCanRise_18 : decode cX1_lastThatCanRise 18 = .ok (.getfield 26, 3) := by decide +kernel
theorem dX1_lastThatCanRise_21 : decode cX1_lastThatCanRise 21 = .ok (.aload_n 0, 1) := by decide +kernel
theorem dX1_lastThatCanRise_22 : decode cX1_lastThatCanRise 22 = .ok (.getfield 30, 3) := by decide +kernel
theorem dX1_lastThatCanRise_25 : decode cX1_lastThatCanRise 25 = .ok (.isub, 1) := by decide +kernel
theorem dX1_lastThatCanRise_26 : decode cX1_lastThatCanRise 26 = .ok (.iload_n 1, 1) := by decide +kernel
theorem dX1_lastThatCanRise_27 : decode cX1_lastThatCanRise 27 = .ok (.iadd, 1) := by decide +kernel
theorem dX1_lastThatCanRise_28 : decode cX1_lastThatCanRise 28 = .ok (.if_icmp .ge 5, 3) := by decide +kernel
theorem dX1_lastThatCanRise_31 : decode cX1_lastThatCanRise 31 = .ok (.iload_n 1, 1) := by decide +kernel
theorem dX1_lastThatCanRise_32 : decode cX1_lastThatCanRise 32 = .ok (.ireturn, 1) := by decide +kernel
theorem dX1_lastThatCanRise_33 : decode cX1_lastThatCanRise 33 = .ok (.iinc 1 (-1), 3) := by decide +kernel
theorem dX1_lastThatCanRise_36 : decode cX1_lastThatCanRise 36 = .ok (.goto (-29), 3) := by decide +kernel
theorem dX1_lastThatCanRise_39 : decode cX1_lastThatCanRise 39 = .ok (.iconst (-1), 1) := by decide +kernel
theorem dX1_lastThatCanRise_40 : decode cX1_lastThatCanRise 40 = .ok (.ireturn, 1) := by decide +kernel
theorem dX1_keepIfLess_0 : decode cX1_keepIfLess 0 = .ok (.iconst 0, 1) := by decide +kernel
theorem dX1_keepIfLess_1 : decode cX1_keepIfLess 1 = .ok (.istore_n 2, 1) := by decide +kernel
theorem dX1_keepIfLess_2 : decode cX1_keepIfLess 2 = .ok (.iconst 0, 1) := by decide +kernel
theorem dX1_keepIfLess_3 : decode cX1_keepIfLess 3 = .ok (.istore_n 3, 1) := by decide +kernel
theorem dX1_keepIfLess_4 : decode cX1_keepIfLess 4 = .ok (.iload_n 3, 1) := by decide +kernel
theorem dX1_keepIfLess_5 : decode cX1_keepIfLess 5 = .ok (.aload_n 1, 1) := by decide +kernel
theorem dX1_keepIfLess_6 : decode cX1_keepIfLess 6 = .ok (.getfield 82, 3) := by decide +kernel
theorem dX1_keepIfLess_9 : decode cX1_keepIfLess 9 = .ok (.if_icmp .ge 31, 3) := by decide +kernel
theorem dX1_keepIfLess_12 : decode cX1_keepIfLess 12 = .ok (.aload_n 1, 1) := by decide +kernel
theorem dX1_keepIfLess_13 : decode cX1_keepIfLess 13 = .ok (.iload_n 3, 1) := by decide +kernel
theorem dX1_keepIfLess_14 : decode cX1_keepIfLess 14 = .ok (.invokevirtual 88, 3) := by decide +kernel
theorem dX1_keepIfLess_17 : decode cX1_keepIfLess 17 = .ok (.ifCond .eq 17, 3) := by decide +kernel
theorem dX1_keepIfLess_20 : decode cX1_keepIfLess 20 = .ok (.iload_n 2, 1) := by decide +kernel
theorem dX1_keepIfLess_21 : decode cX1_keepIfLess 21 = .ok (.aload_n 0, 1) := by decide +kernel
theorem dX1_keepIfLess_22 : decode cX1_keepIfLess 22 = .ok (.getfield 23, 3) := by decide +kernel
theorem dX1_keepIfLess_25 : decode cX1_keepIfLess 25 = .ok (.aload_n 0, 1) := by decide +kernel
theorem dX1_keepIfLess_26 : decode cX1_keepIfLess 26 = .ok (.getfield 30, 3) := by decide +kernel
theorem dX1_keepIfLess_29 : decode cX1_keepIfLess 29 = .ok (.aaload, 1) := by decide +kernel
theorem dX1_keepIfLess_30 : decode cX1_keepIfLess 30 = .ok (.iload_n 3, 1) := by decide +kernel
theorem dX1_keepIfLess_31 : decode cX1_keepIfLess 31 = .ok (.iaload, 1) := by decide +kernel
theorem dX1_keepIfLess_32 : decode cX1_keepIfLess 32 = .ok (.iadd, 1) := by decide +kernel
theorem dX1_keepIfLess_33 : decode cX1_keepIfLess 33 = .ok (.istore_n 2, 1) := by decide +kernel
theorem dX1_keepIfLess_34 : decode cX1_keepIfLess 34 = .ok (.iinc 3 1, 3) := by decide +kernel
theorem dX1_keepIfLess_37 : decode cX1_keepIfLess 37 = .ok (.goto (-33), 3) := by decide +kernel
theorem dX1_keepIfLess_40 : decode cX1_keepIfLess 40 = .ok (.iload_n 2, 1) := by decide +kernel
theorem dX1_keepIfLess_41 : decode cX1_keepIfLess 41 = .ok (.aload_n 0, 1) := by decide +kernel
theorem dX1_keepIfLess_42 : decode cX1_keepIfLess 42 = .ok (.getfield 33, 3) := by decide +kernel
theorem dX1_keepIfLess_45 : decode cX1_keepIfLess 45 = .ok (.if_icmp .ge 41, 3) := by decide +kernel
theorem dX1_keepIfLess_48 : decode cX1_keepIfLess 48 = .ok (.aload_n 0, 1) := by decide +kernel
theorem dX1_keepIfLess_49 : decode cX1_keepIfLess 49 = .ok (.iload_n 2, 1) := by decide +kernel
theorem dX1_keepIfLess_50 : decode cX1_keepIfLess 50 = .ok (.putfield 33, 3) := by decide +kernel
theorem dX1_keepIfLess_53 : decode cX1_keepIfLess 53 = .ok (.iconst 0, 1) := by decide +kernel
theorem dX1_keepIfLess_54 : decode cX1_keepIfLess 54 = .ok (.istore_n 3, 1) := by decide +kernel
theorem dX1_keepIfLess_55 : decode cX1_keepIfLess 55 = .ok (.iload_n 3, 1) := by decide +kernel
theorem dX1_keepIfLess_56 : decode cX1_keepIfLess 56 = .ok (.aload_n 0, 1) := by decide +kernel
theorem dX1_keepIfLess_57 : decode cX1_keepIfLess 57 = .ok (.getfield 30, 3) := by decide +kernel
theorem dX1_keepIfLess_60 : decode cX1_keepIfLess 60 = .ok (.if_icmp .ge 26, 3) := by decide +kernel
theorem dX1_keepIfLess_63 : decode cX1_keepIfLess 63 = .ok (.aload_n 0, 1) := by decide +kernel
theorem dX1_keepIfLess_64 : decode cX1_keepIfLess 64 = .ok (.getfield 18, 3) := by decide +kernel
theorem dX1_keepIfLess_67 : decode cX1_keepIfLess 67 = .ok (.iload_n 3, 1) := by decide +kernel
theorem dX1_keepIfLess_68 : decode cX1_keepIfLess 68 = .ok (.aload_n 0, 1) := by decide +kernel
theorem dX1_keepIfLess_69 : decode cX1_keepIfLess 69 = .ok (.getfield 9, 3) := by decide +kernel
theorem dX1_keepIfLess_72 : decode cX1_keepIfLess 72 = .ok (.aload_n 0, 1) := by decide +kernel
theorem dX1_keepIfLess_73 : decode cX1_keepIfLess 73 = .ok (.getfield 15, 3) := by decide +kernel
theorem dX1_keepIfLess_76 : decode cX1_keepIfLess 76 = .ok (.iload_n 3, 1) := by decide +kernel
theorem dX1_keepIfLess_77 : decode cX1_keepIfLess 77 = .ok (.iaload, 1) := by decide +kernel
theorem dX1_keepIfLess_78 : decode cX1_keepIfLess 78 = .ok (.iaload, 1) := by decide +kernel
theorem dX1_keepIfLess_79 : decode cX1_keepIfLess 79 = .ok (.iastore, 1) := by decide +kernel
theorem dX1_keepIfLess_80 : decode cX1_keepIfLess 80 = .ok (.iinc 3 1, 3) := by decide +kernel
theorem dX1_keepIfLess_83 : decode cX1_keepIfLess 83 = .ok (.goto (-28), 3) := by decide +kernel
theorem dX1_keepIfLess_86 : decode cX1_keepIfLess 86 = .ok (.return_, 1) := by decide +kernel
theorem dX2_init_0 : decode cX2_init 0 = .ok (.aload_n 0, 1) := by decide +kernel
theorem dX2_init_1 : decode cX2_init 1 = .ok (.invokespecial 3, 3) := by decide +kernel
theorem dX2_init_4 : decode cX2_init 4 = .ok (.aload_n 0, 1) := by decide +kernel
theorem dX2_init_5 : decode cX2_init 5 = .ok (.bipush 12, 2) := by decide +kernel
theorem dX2_init_7 : decode cX2_init 7 = .ok (.bipush 24, 2) := by decide +kernel
theorem dX2_init_9 : decode cX2_init 9 = .ok (.multianewarray 9 2, 4) := by decide +kernel
theorem dX2_init_13 : decode cX2_init 13 = .ok (.putfield 11, 3) := by decide +kernel
theorem dX2_init_16 : decode cX2_init 16 = .ok (.aload_n 0, 1) := by decide +kernel
theorem dX2_init_17 : decode cX2_init 17 = .ok (.bipush 12, 2) := by decide +kernel
theorem dX2_init_19 : decode cX2_init 19 = .ok (.newarray .int, 2) := by decide +kernel
theorem dX2_init_21 : decode cX2_init 21 = .ok (.putfield 16, 3) := by decide +kernel
theorem dX2_init_24 : decode cX2_init 24 = .ok (.aload_n 0, 1) := by decide +kernel
theorem dX2_init_25 : decode cX2_init 25 = .ok (.bipush 12, 2) := by decide +kernel
theorem dX2_init_27 : decode cX2_init 27 = .ok (.newarray .int, 2) := by decide +kernel
theorem dX2_init_29 : decode cX2_init 29 = .ok (.putfield 20, 3) := by decide +kernel
theorem dX2_init_32 : decode cX2_init 32 = .ok (.aload_n 0, 1) := by decide +kernel
theorem dX2_init_33 : decode cX2_init 33 = .ok (.bipush 12, 2) := by decide +kernel
theorem dX2_init_35 : decode cX2_init 35 = .ok (.newarray .int, 2) := by decide +kernel
theorem dX2_init_37 : decode cX2_init 37 = .ok (.putfield 23, 3) := by decide +kernel
theorem dX2_init_40 : decode cX2_init 40 = .ok (.aload_n 0, 1) := by decide +kernel
theorem dX2_init_41 : decode cX2_init 41 = .ok (.bipush 12, 2) := by decide +kernel
theorem dX2_init_43 : decode cX2_init 43 = .ok (.newarray .int, 2) := by decide +kernel
theorem dX2_init_45 : decode cX2_init 45 = .ok (.putfield 26, 3) := by decide +kernel
theorem dX2_init_48 : decode cX2_init 48 = .ok (.aload_n 0, 1) := by decide +kernel
theorem dX2_init_49 : decode cX2_init 49 = .ok (.iconst 0, 1) := by decide +kernel
theorem dX2_init_50 : decode cX2_init 50 = .ok (.putfield 29, 3) := by decide +kernel
theorem dX2_init_53 : decode cX2_init 53 = .ok (.aload_n 0, 1) := by decide +kernel
theorem dX2_init_54 : decode cX2_init 54 = .ok (.iconst 0, 1) := by decide +kernel
theorem dX2_init_55 : decode cX2_init 55 = .ok (.putfield 33, 3) := by decide +kernel
theorem dX2_init_58 : decode cX2_init 58 = .ok (.aload_n 0, 1) := by decide +kernel
theorem dX2_init_59 : decode cX2_init 59 = .ok (.iconst 0, 1) := by decide +kernel
theorem dX2_init_60 : decode cX2_init 60 = .ok (.putfield 36, 3) := by decide +kernel
theorem dX2_init_63 : decode cX2_init 63 = .ok (.aload_n 0, 1) := by decide +kernel
theorem dX2_init_64 : decode cX2_init 64 = .ok (.iconst 0, 1) := by decide +kernel
theorem dX2_init_65 : decode cX2_init 65 = .ok (.putfield 39, 3) := by decide +kernel
theorem dX2_init_68 : decode cX2_init 68 = .ok (.aload_n 0, 1) := by decide +kernel
theorem dX2_init_69 : decode cX2_init 69 = .ok (.aload_n 1, 1) := by decide +kernel
theorem dX2_init_70 : decode cX2_init 70 = .ok (.putfield 42, 3) := by decide +kernel
theorem dX2_init_73 : decode cX2_init 73 = .ok (.aload_n 0, 1) := by decide +kernel
theorem dX2_init_74 : decode cX2_init 74 = .ok (.aload_n 2, 1) := by decide +kernel
theorem dX2_init_75 : decode cX2_init 75 = .ok (.putfield 46, 3) := by decide +kernel
theorem dX2_init_78 : decode cX2_init 78 = .ok (.aload_n 0, 1) := by decide +kernel
theorem dX2_init_79 : decode cX2_init 79 = .ok (.aload_n 3, 1) := by decide +kernel
theorem dX2_init_80 : decode cX2_init 80 = .ok (.putfield 50, 3) := by decide +kernel
theorem dX2_init_83 : decode cX2_init 83 = .ok (.aload_n 0, 1) := by decide +kernel
theorem dX2_init_84 : decode cX2_init 84 = .ok (.aload_n 1, 1) := by decide +kernel
theorem dX2_init_85 : decode cX2_init 85 = .ok (.invokevirtual 54, 3) := by decide +kernel
theorem dX2_init_88 : decode cX2_init 88 = .ok (.putfield 60, 3) := by decide +kernel
theorem dX2_init_91 : decode cX2_init 91 = .ok (.aload_n 0, 1) := by decide +kernel
theorem dX2_init_92 : decode cX2_init 92 = .ok (.aload_n 1, 1) := by decide +kernel
theorem dX2_init_93 : decode cX2_init 93 = .ok (.getfield 63, 3) := by decide +kernel
theorem dX2_init_96 : decode cX2_init 96 = .ok (.putfield 66, 3) := by decide +kernel
theorem dX2_init_99 : decode cX2_init 99 = .ok (.aload_n 0, 1) := by decide +kernel
theorem dX2_init_100 : decode cX2_init 100 = .ok (.aload_n 1, 1) := by decide +kernel
theorem dX2_init_101 : decode cX2_init 101 = .ok (.getfield 63, 3) := by decide +kernel
theorem dX2_init_104 : decode cX2_init 104 = .ok (.putfield 69, 3) := by decide +kernel
theorem dX2_init_107 : decode cX2_init 107 = .ok (.return_, 1) := by decide +kernel
theorem dX2_begin_0 : decode cX2_begin 0 = .ok (.iload_n 1, 1) := by decide +kernel
theorem dX2_begin_1 : decode cX2_begin 1 = .ok (.istore_n 2, 1) := by decide +kernel
theorem dX2_begin_2 : decode cX2_begin 2 = .ok (.aload_n 0, 1) := by decide +kernel
theorem dX2_begin_3 : decode cX2_begin 3 = .ok (.getfield 60, 3) := by decide +kernel
theorem dX2_begin_6 : decode cX2_begin 6 = .ok (.arraylength, 1) := by decide +kernel
theorem dX2_begin_7 : decode cX2_begin 7 = .ok (.iconst 1, 1) := by decide +kernel
theorem dX2_begin_8 : decode cX2_begin 8 = .ok (.isub, 1) := by decide +kernel
theorem dX2_begin_9 : decode cX2_begin 9 = .ok (.istore_n 3, 1) := by decide +kernel
theorem dX2_begin_10 : decode cX2_begin 10 = .ok (.iload_n 3, 1) := by decide +kernel
theorem dX2_begin_11 : decode cX2_begin 11 = .ok (.iconst 1, 1) := by decide +kernel
theorem dX2_begin_12 : decode cX2_begin 12 = .ok (.if_icmp .lt 58, 3) := by decide +kernel
theorem dX2_begin_15 : decode cX2_begin 15 = .ok (.iload_n 2, 1) := by decide +kernel
theorem dX2_begin_16 : decode cX2_begin 16 = .ok (.ldc 72, 2) := by decide +kernel
theorem dX2_begin_18 : decode cX2_begin 18 = .ok (.imul, 1) := by decide +kernel
theorem dX2_begin_19 : decode cX2_begin 19 = .ok (.sipush 12345, 3) := by decide +kernel
theorem dX2_begin_22 : decode cX2_begin 22 = .ok (.iadd, 1) := by decide +kernel
theorem dX2_begin_23 : decode cX2_begin 23 = .ok (.istore_n 2, 1) := by decide +kernel
theorem dX2_begin_24 : decode cX2_begin 24 = .ok (.iload_n 2, 1) := by decide +kernel
theorem dX2_begin_25 : decode cX2_begin 25 = .ok (.bipush 16, 2) := by decide +kernel
theorem dX2_begin_27 : decode cX2_begin 27 = .ok (.iushr, 1) := by decide +kernel
theorem dX2_begin_28 : decode cX2_begin 28 = .ok (.iload_n 3, 1) := by decide +kernel
theorem dX2_begin_29 : decode cX2_begin 29 = .ok (.iconst 1, 1) := by decide +kernel
theorem dX2_begin_30 : decode cX2_begin 30 = .ok (.iadd, 1) := by decide +kernel
theorem dX2_begin_31 : decode cX2_begin 31 = .ok (.irem, 1) := by decide +kernel
theorem dX2_begin_32 : decode cX2_begin 32 = .ok (.istore 4, 2) := by decide +kernel
theorem dX2_begin_34 : decode cX2_begin 34 = .ok (.aload_n 0, 1) := by decide +kernel
theorem dX2_begin_35 : decode cX2_begin 35 = .ok (.getfield 60, 3) := by decide +kernel
theorem dX2_begin_38 : decode cX2_begin 38 = .ok (.iload_n 3, 1) := by decide +kernel
theorem dX2_begin_39 : decode cX2_begin 39 = .ok (.iaload, 1) := by decide +kernel
theorem dX2_begin_40 : decode cX2_begin 40 = .ok (.istore 5, 2) := by decide +kernel
theorem dX2_begin_42 : decode cX2_begin 42 = .ok (.aload_n 0, 1) := by decide +kernel
theorem dX2_begin_43 : decode cX2_begin 43 = .ok (.getfield 60, 3) := by decide +kernel
theorem dX2_begin_46 : decode cX2_begin 46 = .ok (.iload_n 3, 1) := by decide +kernel
theorem dX2_begin_47 : decode cX2_begin 47 = .ok (.aload_n 0, 1) := by decide +kernel
theorem dX2_begin_48 : decode cX2_begin 48 = .ok (.getfield 60, 3) := by decide +kernel
theorem dX2_begin_51 : decode cX2_begin 51 = .ok (.iload 4, 2) := by decide +kernel
theorem dX2_begin_53 : decode cX2_begin 53 = .ok (.iaload, 1) := by decide +kernel
theorem dX2_begin_54 : decode cX2_begin 54 = .ok (.iastore, 1) := by decide +kernel
theorem dX2_begin_55 : decode cX2_begin 55 = .ok (.aload_n 0, 1) := by decide +kernel
theorem dX2_begin_56 : decode cX2_begin 56 = .ok (.getfield 60, 3) := by decide +kernel
theorem dX2_begin_59 : decode cX2_begin 59 = .ok (.iload 4, 2) := by decide +kernel
theorem dX2_begin_61 : decode cX2_begin 61 = .ok (.iload 5, 2) := by decide +kernel
theorem dX2_begin_63 : decode cX2_begin 63 = .ok (.iastore, 1) := by decide +kernel
theorem dX2_begin_64 : decode cX2_begin 64 = .ok (.iinc 3 (-1), 3) := by decide +kernel
theorem dX2_begin_67 : decode cX2_begin 67 = .ok (.goto (-57), 3) := by decide +kernel
theorem dX2_begin_70 : decode cX2_begin 70 = .ok (.aload_n 0, 1) := by decide +kernel
theorem dX2_begin_71 : decode cX2_begin 71 = .ok (.aload_n 0, 1) := by decide +kernel
theorem dX2_begin_72 : decode cX2_begin 72 = .ok (.invokevirtual 73, 3) := by decide +kernel
theorem dX2_begin_75 : decode cX2_begin 75 = .ok (.putfield 39, 3) := by decide +kernel
theorem dX2_begin_78 : decode cX2_begin 78 = .ok (.return_, 1) := by decide +kernel
theorem dX2_whyOver_0 : decode cX2_whyOver 0 = .ok (.aload_n 0, 1) := by decide +kernel
theorem dX2_whyOver_1 : decode cX2_whyOver 1 = .ok (.getfield 69, 3) := by decide +kernel
theorem dX2_whyOver_4 : decode cX2_whyOver 4 = .ok (.iconst 1, 1) := by decide +kernel
theorem dX2_whyOver_5 : decode cX2_whyOver 5 = .ok (.if_icmp .le 17, 3) := by decide +kernel
theorem dX2_whyOver_8 : decode cX2_whyOver 8 = .ok (.aload_n 0, 1) := by decide +kernel
theorem dX2_whyOver_9 : decode cX2_whyOver 9 = .ok (.getfield 69, 3) := by decide +kernel
theorem dX2_whyOver_12 : decode cX2_whyOver 12 = .ok (.aload_n 0, 1) := by decide +kernel
theorem dX2_whyOver_13 : decode cX2_whyOver 13 = .ok (.getfield 50, 3) := by decide +kernel
theorem dX2_whyOver_16 : decode cX2_whyOver 16 = .ok (.getfield 77, 3) := by decide +kernel
theorem dX2_whyOver_19 : decode cX2_whyOver 19 = .ok (.if_icmp .gt 5, 3) := by decide +kernel
theorem dX2_whyOver_22 : decode cX2_whyOver 22 = .ok (.iconst 1, 1) := by decide +kernel
theorem dX2_whyOver_23 : decode cX2_whyOver 23 = .ok (.ireturn, 1) := by decide +kernel
theorem dX2_whyOver_24 : decode cX2_whyOver 24 = .ok (.aload_n 0, 1) := by decide +kernel
theorem dX2_whyOver_25 : decode cX2_whyOver 25 = .ok (.getfield 33, 3) := by decide +kernel
theorem dX2_whyOver_28 : decode cX2_whyOver 28 = .ok (.aload_n 0, 1) := by decide +kernel
theorem dX2_whyOver_29 : decode cX2_whyOver 29 = .ok (.getfield 60, 3) := by decide +kernel
theorem dX2_whyOver_32 : decode cX2_whyOver 32 = .ok (.arraylength, 1) := by decide +kernel
theorem dX2_whyOver_33 : decode cX2_whyOver 33 = .ok (.if_icmp .lt 5, 3) := by decide +kernel
theorem dX2_whyOver_36 : decode cX2_whyOver 36 = .ok (.iconst 2, 1) := by decide +kernel
theorem dX2_whyOver_37 : decode cX2_whyOver 37 = .ok (.ireturn, 1) := by decide +kernel
theorem dX2_whyOver_38 : decode cX2_whyOver 38 = .ok (.aload_n 0, 1) := by decide +kernel
theorem dX2_whyOver_39 : decode cX2_whyOver 39 = .ok (.getfield 50, 3) := by decide +kernel
theorem dX2_whyOver_42 : decode cX2_whyOver 42 = .ok (.getfield 82, 3) := by decide +kernel
theorem dX2_whyOver_45 : decode cX2_whyOver 45 = .ok (.aload_n 0, 1) := by decide +kernel
theorem dX2_whyOver_46 : decode cX2_whyOver 46 = .ok (.getfield 36, 3) := by decide +kernel
theorem dX2_whyOver_49 : decode cX2_whyOver 49 = .ok (.isub, 1) := by decide +kernel
theorem dX2_whyOver_50 : decode cX2_whyOver 50 = .ok (.aload_n 0, 1) := by decide +kernel
theorem dX2_whyOver_51 : decode cX2_whyOver 51 = .ok (.getfield 69, 3) := by decide +kernel
theorem dX2_whyOver_54 : decode cX2_whyOver 54 = .ok (.if_icmp .ge 7, 3) := by decide +kernel
theorem dX2_whyOver_57 : decode cX2_whyOver 57 = .ok (.iconst 3, 1) := by decide +kernel
theorem dX2_whyOver_58 : decode cX2_whyOver 58 = .ok (.goto 4, 3) := by decide +kernel
theorem dX2_whyOver_61 : decode cX2_whyOver 61 = .ok (.iconst 0, 1) := by decide +kernel
theorem dX2_whyOver_62 : decode cX2_whyOver 62 = .ok (.ireturn, 1) := by decide +kernel
theorem dX2_isEntered_0 : decode cX2_isEntered 0 = .ok (.iload_n 1, 1) := by decide +kernel
theorem dX2_isEntered_1 : decode cX2_isEntered 1 = .ok (.ifCond .lt 15, 3) := by decide +kernel
theorem dX2_isEntered_4 : decode cX2_isEntered 4 = .ok (.iload_n 1, 1) := by decide +kernel
theorem dX2_isEntered_5 : decode cX2_isEntered 5 = .ok (.aload_n 0, 1) := by decide +kernel
theorem dX2_isEntered_6 : decode cX2_isEntered 6 = .ok (.getfield 66, 3) := by decide +kernel
theorem dX2_isEntered_9 : decode cX2_isEntered 9 = .ok (.if_icmp .ge 7, 3) := by decide +kernel
theorem dX2_isEntered_12 : decode cX2_isEntered 12 = .ok (.iconst 1, 1) := by decide +kernel
theorem dX2_isEntered_13 : decode cX2_isEntered 13 = .ok (.goto 4, 3) := by decide +kernel
theorem dX2_isEntered_16 : decode cX2_isEntered 16 = .ok (.iconst 0, 1) := by decide +kernel
theorem dX2_isEntered_17 : decode cX2_isEntered 17 = .ok (.ireturn, 1) := by decide +kernel
theorem dX2_isLeft_0 : decode cX2_isLeft 0 = .ok (.iload_n 1, 1) := by decide +kernel
theorem dX2_isLeft_1 : decode cX2_isLeft 1 = .ok (.ifCond .lt 24, 3) := by decide +kernel
theorem dX2_isLeft_4 : decode cX2_isLeft 4 = .ok (.iload_n 1, 1) := by decide +kernel
theorem dX2_isLeft_5 : decode cX2_isLeft 5 = .ok (.aload_n 0, 1) := by decide +kernel
theorem dX2_isLeft_6 : decode cX2_isLeft 6 = .ok (.getfield 66, 3) := by decide +kernel
theorem dX2_isLeft_9 : decode cX2_isLeft 9 = .ok (.if_icmp .ge 16, 3) := by decide +kernel
theorem dX2_isLeft_12 : decode cX2_isLeft 12 = .ok (.aload_n 0, 1) := by decide +kernel
theorem dX2_isLeft_13 : decode cX2_isLeft 13 = .ok (.getfield 16, 3) := by decide +kernel
theorem dX2_isLeft_16 : decode cX2_isLeft 16 = .ok (.iload_n 1, 1) := by decide +kernel
theorem dX2_isLeft_17 : decode cX2_isLeft 17 = .ok (.iaload, 1) := by decide +kernel
theorem dX2_isLeft_18 : decode cX2_isLeft 18 = .ok (.ifCond .ne 7, 3) := by decide +kernel
theorem dX2_isLeft_21 : decode cX2_isLeft 21 = .ok (.iconst 1, 1) := by decide +kernel
theorem dX2_isLeft_22 : decode cX2_isLeft 22 = .ok (.goto 4, 3) := by decide +kernel
theorem dX2_isLeft_25 : decode cX2_isLeft 25 = .ok (.iconst 0, 1) := by decide +kernel
theorem dX2_isLeft_26 : decode cX2_isLeft 26 = .ok (.ireturn, 1) := by decide +kernel
theorem dX2_instanceAt_0 : decode cX2_instanceAt 0 = .ok (.iload_n 1, 1) := by decide +kernel
theorem dX2_instanceAt_1 : decode cX2_instanceAt 1 = .ok (.ifCond .lt 21, 3) := by decide +kernel
theorem dX2_instanceAt_4 : decode cX2_instanceAt 4 = .ok (.iload_n 1, 1) := by decide +kernel
theorem dX2_instanceAt_5 : decode cX2_instanceAt 5 = .ok (.aload_n 0, 1) := by decide +kernel
theorem dX2_instanceAt_6 : decode cX2_instanceAt 6 = .ok (.getfield 60, 3) := by decide +kernel
theorem dX2_instanceAt_9 : decode cX2_instanceAt 9 = .ok (.arraylength, 1) := by decide +kernel
theorem dX2_instanceAt_10 : decode cX2_instanceAt 10 = .ok (.if_icmp .ge 12, 3) := by decide +kernel
theorem dX2_instanceAt_13 : decode cX2_instanceAt 13 = .ok (.aload_n 0, 1) := by decide +kernel
theorem dX2_instanceAt_14 : decode cX2_instanceAt 14 = .ok (.getfield 60, 3) := by decide +kernel
theorem dX2_instanceAt_17 : decode cX2_instanceAt 17 = .ok (.iload_n 1, 1) := by decide +kernel
theorem dX2_instanceAt_18 : decode cX2_instanceAt 18 = .ok (.iaload, 1) := by decide +kernel
theorem dX2_instanceAt_19 : decode cX2_instanceAt 19 = .ok (.goto 4, 3) := by decide +kernel
theorem dX2_instanceAt_22 : decode cX2_instanceAt 22 = .ok (.iconst (-1), 1) := by decide +kernel
theorem dX2_instanceAt_23 : decode cX2_instanceAt 23 = .ok (.ireturn, 1) := by decide +kernel
theorem dX2_remainingAt_0 : decode cX2_remainingAt 0 = .ok (.iconst 0, 1) := by decide +kernel
theorem dX2_remainingAt_1 : decode cX2_remainingAt 1 = .ok (.istore_n 2, 1) := by decide +kernel
theorem dX2_remainingAt_2 : decode cX2_remainingAt 2 = .ok (.iconst 0, 1) := by decide +kernel
theorem dX2_remainingAt_3 : decode cX2_remainingAt 3 = .ok (.istore_n 3, 1) := by decide +kernel
theorem dX2_remainingAt_4 : decode cX2_remainingAt 4 = .ok (.iload_n 3, 1) := by decide +kernel
theorem dX2_remainingAt_5 : decode cX2_remainingAt 5 = .ok (.aload_n 0, 1) := by decide +kernel
theorem dX2_remainingAt_6 : decode cX2_remainingAt 6 = .ok (.getfield 66, 3) := by decide +kernel
theorem dX2_remainingAt_9 : decode cX2_remainingAt 9 = .ok (.if_icmp .ge 27, 3) := by decide +kernel
theorem dX2_remainingAt_12 : decode cX2_remainingAt 12 = .ok (.aload_n 0, 1) := by decide +kernel
theorem dX2_remainingAt_13 : decode cX2_remainingAt 13 = .ok (.iload_n 3, 1) := by decide +kernel
theorem dX2_remainingAt_14 : decode cX2_remainingAt 14 = .ok (.invokevirtual 85, 3) := by decide +kernel
theorem dX2_remainingAt_17 : decode cX2_remainingAt 17 = .ok (.ifCond .eq 13, 3) := by decide +kernel
theorem dX2_remainingAt_20 : decode cX2_remainingAt 20 = .ok (.iload_n 2, 1) := by decide +kernel
theorem dX2_remainingAt_21 : decode cX2_remainingAt 21 = .ok (.iload_n 1, 1) := by decide +kernel
theorem dX2_remainingAt_22 : decode cX2_remainingAt 22 = .ok (.if_icmp .ne 5, 3) := by decide +kernel
theorem dX2_remainingAt_25 : decode cX2_remainingAt 25 = .ok (.iload_n 3, 1) := by decide +kernel
theorem dX2_remainingAt_26 : decode cX2_remainingAt 26 = .ok (.ireturn, 1) := by decide +kernel
theorem dX2_remainingAt_27 : decode cX2_remainingAt 27 = .ok (.iinc 2 1, 3) := by decide +kernel
theorem dX2_remainingAt_30 : decode cX2_remainingAt 30 = .ok (.iinc 3 1, 3) := by decide +kernel
theorem dX2_remainingAt_33 : decode cX2_remainingAt 33 = .ok (.goto (-29), 3) := by decide +kernel
theorem dX2_remainingAt_36 : decode cX2_remainingAt 36 = .ok (.iconst (-1), 1) := by decide +kernel
theorem dX2_remainingAt_37 : decode cX2_remainingAt 37 = .ok (.ireturn, 1) := by decide +kernel
theorem dX2_leftFrom_0 : decode cX2_leftFrom 0 = .ok (.iload_n 1, 1) := by decide +kernel
theorem dX2_leftFrom_1 : decode cX2_leftFrom 1 = .ok (.istore_n 2, 1) := by decide +kernel
theorem dX2_leftFrom_2 : decode cX2_leftFrom 2 = .ok (.iload_n 2, 1) := by decide +kernel
theorem dX2_leftFrom_3 : decode cX2_leftFrom 3 = .ok (.aload_n 0, 1) := by decide +kernel
theorem dX2_leftFrom_4 : decode cX2_leftFrom 4 = .ok (.getfield 66, 3) := by decide +kernel
theorem dX2_leftFrom_7 : decode cX2_leftFrom 7 = .ok (.if_icmp .ge 19, 3) := by decide +kernel
theorem dX2_leftFrom_10 : decode cX2_leftFrom 10 = .ok (.aload_n 0, 1) := by decide +kernel
theorem dX2_leftFrom_11 : decode cX2_leftFrom 11 = .ok (.iload_n 2, 1) := by decide +kernel
theorem dX2_leftFrom_12 : decode cX2_leftFrom 12 = .ok (.invokevirtual 85, 3) := by decide +kernel
theorem dX2_leftFrom_15 : decode cX2_leftFrom 15 = .ok (.ifCond .eq 5, 3) := by decide +kernel
theorem dX2_leftFrom_18 : decode cX2_leftFrom 18 = .ok (.iload_n 2, 1) := by decide +kernel
theorem dX2_leftFrom_19 : decode cX2_leftFrom 19 = .ok (.ireturn, 1) := by decide +kernel
theorem dX2_leftFrom_20 : decode cX2_leftFrom 20 = .ok (.iinc 2 1, 3) := by decide +kernel
theorem dX2_leftFrom_23 : decode cX2_leftFrom 23 = .ok (.goto (-21), 3) := by decide +kernel
theorem dX2_leftFrom_26 : decode cX2_leftFrom 26 = .ok (.iconst (-1), 1) := by decide +kernel
theorem dX2_leftFrom_27 : decode cX2_leftFrom 27 = .ok (.ireturn, 1) := by decide +kernel
theorem dX2_runNext_0 : decode cX2_runNext 0 = .ok (.aload_n 0, 1) := by decide +kernel
theorem dX2_runNext_1 : decode cX2_runNext 1 = .ok (.getfield 42, 3) := by decide +kernel
theorem dX2_runNext_4 : decode cX2_runNext 4 = .ok (.aload_n 0, 1) := by decide +kernel
theorem dX2_runNext_5 : decode cX2_runNext 5 = .ok (.getfield 29, 3) := by decide +kernel
theorem dX2_runNext_8 : decode cX2_runNext 8 = .ok (.aload_n 0, 1) := by decide +kernel
theorem dX2_runNext_9 : decode cX2_runNext 9 = .ok (.aload_n 0, 1) := by decide +kernel
theorem dX2_runNext_10 : decode cX2_runNext 10 = .ok (.getfield 33, 3) := by decide +kernel
theorem dX2_runNext_13 : decode cX2_runNext 13 = .ok (.invokevirtual 89, 3) := by decide +kernel
theorem dX2_runNext_16 : decode cX2_runNext 16 = .ok (.invokevirtual 93, 3) := by decide +kernel
theorem dX2_runNext_19 : decode cX2_runNext 19 = .ok (.istore_n 1, 1) := by decide +kernel
theorem dX2_runNext_20 : decode cX2_runNext 20 = .ok (.aload_n 0, 1) := by decide +kernel
theorem dX2_runNext_21 : decode cX2_runNext 21 = .ok (.getfield 39, 3) := by decide +kernel
theorem dX2_runNext_24 : decode cX2_runNext 24 = .ok (.ifCond .ne 19, 3) := by decide +kernel
theorem dX2_runNext_27 : decode cX2_runNext 27 = .ok (.iload_n 1, 1) := by decide +kernel
theorem dX2_runNext_28 : decode cX2_runNext 28 = .ok (.iconst (-1), 1) := by decide +kernel
theorem dX2_runNext_29 : decode cX2_runNext 29 = .ok (.if_icmp .eq 14, 3) := by decide +kernel
theorem dX2_runNext_32 : decode cX2_runNext 32 = .ok (.aload_n 0, 1) := by decide +kernel
theorem dX2_runNext_33 : decode cX2_runNext 33 = .ok (.aload_n 0, 1) := by decide +kernel
theorem dX2_runNext_34 : decode cX2_runNext 34 = .ok (.getfield 29, 3) := by decide +kernel
theorem dX2_runNext_37 : decode cX2_runNext 37 = .ok (.invokevirtual 85, 3) := by decide +kernel
theorem dX2_runNext_40 : decode cX2_runNext 40 = .ok (.ifCond .ne 6, 3) := by decide +kernel
theorem dX2_runNext_43 : decode cX2_runNext 43 = .ok (.bipush (-3), 2) := by decide +kernel
theorem dX2_runNext_45 : decode cX2_runNext 45 = .ok (.ireturn, 1) := by decide +kernel
theorem dX2_runNext_46 : decode cX2_runNext 46 = .ok (.aload_n 0, 1) := by decide +kernel
theorem dX2_runNext_47 : decode cX2_runNext 47 = .ok (.getfield 11, 3) := by decide +kernel
theorem dX2_runNext_50 : decode cX2_runNext 50 = .ok (.aload_n 0, 1) := by decide +kernel
theorem dX2_runNext_51 : decode cX2_runNext 51 = .ok (.getfield 29, 3) := by decide +kernel
theorem dX2_runNext_54 : decode cX2_runNext 54 = .ok (.aaload, 1) := by decide +kernel
theorem dX2_runNext_55 : decode cX2_runNext 55 = .ok (.aload_n 0, 1) := by decide +kernel
theorem dX2_runNext_56 : decode cX2_runNext 56 = .ok (.getfield 33, 3) := by decide +kernel
theorem dX2_runNext_59 : decode cX2_runNext 59 = .ok (.iload_n 1, 1) := by decide +kernel
theorem dX2_runNext_60 : decode cX2_runNext 60 = .ok (.iastore, 1) := by decide +kernel
theorem dX2_runNext_61 : decode cX2_runNext 61 = .ok (.aload_n 0, 1) := by decide +kernel
theorem dX2_runNext_62 : decode cX2_runNext 62 = .ok (.getfield 20, 3) := by decide +kernel
theorem dX2_runNext_65 : decode cX2_runNext 65 = .ok (.aload_n 0, 1) := by decide +kernel
theorem dX2_runNext_66 : decode cX2_runNext 66 = .ok (.getfield 29, 3) := by decide +kernel
theorem dX2_runNext_69 : decode cX2_runNext 69 = .ok (.dup2, 1) := by decide +kernel
theorem dX2_runNext_70 : decode cX2_runNext 70 = .ok (.iaload, 1) := by decide +kernel
theorem dX2_runNext_71 : decode cX2_runNext 71 = .ok (.iconst 1, 1) := by decide +kernel
theorem dX2_runNext_72 : decode cX2_runNext 72 = .ok (.iadd, 1) := by decide +kernel
theorem dX2_runNext_73 : decode cX2_runNext 73 = .ok (.iastore, 1) := by decide +kernel
theorem dX2_runNext_74 : decode cX2_runNext 74 = .ok (.aload_n 0, 1) := by decide +kernel
theorem dX2_runNext_75 : decode cX2_runNext 75 = .ok (.dup, 1) := by decide +kernel
theorem dX2_runNext_76 : decode cX2_runNext 76 = .ok (.getfield 36, 3) := by decide +kernel
theorem dX2_runNext_79 : decode cX2_runNext 79 = .ok (.iconst 1, 1) := by decide +kernel
theorem dX2_runNext_80 : decode cX2_runNext 80 = .ok (.iadd, 1) := by decide +kernel
theorem dX2_runNext_81 : decode cX2_runNext 81 = .ok (.putfield 36, 3) := by decide +kernel
theorem dX2_runNext_84 : decode cX2_runNext 84 = .ok (.aload_n 0, 1) := by decide +kernel
theorem dX2_runNext_85 : decode cX2_runNext 85 = .ok (.aload_n 0, 1) := by decide +kernel
theorem dX2_runNext_86 : decode cX2_runNext 86 = .ok (.aload_n 0, 1) := by decide +kernel
theorem dX2_runNext_87 : decode cX2_runNext 87 = .ok (.getfield 29, 3) := by decide +kernel
theorem dX2_runNext_90 : decode cX2_runNext 90 = .ok (.iconst 1, 1) := by decide +kernel
theorem dX2_runNext_91 : decode cX2_runNext 91 = .ok (.iadd, 1) := by decide +kernel
theorem dX2_runNext_92 : decode cX2_runNext 92 = .ok (.invokevirtual 97, 3) := by decide +kernel
theorem dX2_runNext_95 : decode cX2_runNext 95 = .ok (.putfield 29, 3) := by decide +kernel
theorem dX2_runNext_98 : decode cX2_runNext 98 = .ok (.aload_n 0, 1) := by decide +kernel
theorem dX2_runNext_99 : decode cX2_runNext 99 = .ok (.getfield 29, 3) := by decide +kernel
theorem dX2_runNext_102 : decode cX2_runNext 102 = .ok (.iconst (-1), 1) := by decide +kernel
theorem dX2_runNext_103 : decode cX2_runNext 103 = .ok (.if_icmp .ne 7, 3) := by decide +kernel
theorem dX2_runNext_106 : decode cX2_runNext 106 = .ok (.aload_n 0, 1) := by decide +kernel
theorem dX2_runNext_107 : decode cX2_runNext 107 = .ok (.invokevirtual 100, 3) := by decide +kernel
theorem dX2_runNext_110 : decode cX2_runNext 110 = .ok (.aload_n 0, 1) := by decide +kernel
theorem dX2_runNext_111 : decode cX2_runNext 111 = .ok (.getfield 36, 3) := by decide +kernel
theorem dX2_runNext_114 : decode cX2_runNext 114 = .ok (.ireturn, 1) := by decide +kernel
theorem dX2_endRound_0 : decode cX2_endRound 0 = .ok (.aload_n 0, 1) := by decide +kernel
theorem dX2_endRound_1 : decode cX2_endRound 1 = .ok (.dup, 1) := by decide +kernel
theorem dX2_endRound_2 : decode cX2_endRound 2 = .ok (.getfield 33, 3) := by decide +kernel
theorem dX2_endRound_5 : decode cX2_endRound 5 = .ok (.iconst 1, 1) := by decide +kernel
theorem dX2_endRound_6 : decode cX2_endRound 6 = .ok (.iadd, 1) := by decide +kernel
theorem dX2_endRound_7 : decode cX2_endRound 7 = .ok (.putfield 33, 3) := by decide +kernel
theorem dX2_endRound_10 : decode cX2_endRound 10 = .ok (.aload_n 0, 1) := by decide +kernel
theorem dX2_endRound_11 : decode cX2_endRound 11 = .ok (.getfield 33, 3) := by decide +kernel
theorem dX2_endRound_14 : decode cX2_endRound 14 = .ok (.aload_n 0, 1) := by decide +kernel
theorem dX2_endRound_15 : decode cX2_endRound 15 = .ok (.getfield 50, 3) := by decide +kernel
theorem dX2_endRound_18 : decode cX2_endRound 18 = .ok (.getfield 103, 3) := by decide +kernel
theorem dX2_endRound_21 : decode cX2_endRound 21 = .ok (.if_icmp .lt 7, 3) := by decide +kernel
theorem dX2_endRound_24 : decode cX2_endRound 24 = .ok (.aload_n 0, 1) := by decide +kernel
theorem dX2_endRound_25 : decode cX2_endRound 25 = .ok (.invokevirtual 106, 3) := by decide +kernel
theorem dX2_endRound_28 : decode cX2_endRound 28 = .ok (.aload_n 0, 1) := by decide +kernel
theorem dX2_endRound_29 : decode cX2_endRound 29 = .ok (.aload_n 0, 1) := by decide +kernel
theorem dX2_endRound_30 : decode cX2_endRound 30 = .ok (.iconst 0, 1) := by decide +kernel
theorem dX2_endRound_31 : decode cX2_endRound 31 = .ok (.invokevirtual 97, 3) := by decide +kernel
theorem dX2_endRound_34 : decode cX2_endRound 34 = .ok (.putfield 29, 3) := by decide +kernel
theorem dX2_endRound_37 : decode cX2_endRound 37 = .ok (.aload_n 0, 1) := by decide +kernel
theorem dX2_endRound_38 : decode cX2_endRound 38 = .ok (.aload_n 0, 1) := by decide +kernel
theorem dX2_endRound_39 : decode cX2_endRound 39 = .ok (.invokevirtual 73, 3) := by decide +kernel
theorem dX2_endRound_42 : decode cX2_endRound 42 = .ok (.putfield 39, 3) := by decide +kernel
theorem dX2_endRound_45 : decode cX2_endRound 45 = .ok (.return_, 1) := by decide +kernel
theorem dX2_dropWorse_0 : decode cX2_dropWorse 0 = .ok (.aload_n 0, 1) := by decide +kernel
theorem dX2_dropWorse_1 : decode cX2_dropWorse 1 = .ok (.invokevirtual 109, 3) := by decide +kernel
theorem dX2_dropWorse_4 : decode cX2_dropWorse 4 = .ok (.istore_n 1, 1) := by decide +kernel
theorem dX2_dropWorse_5 : decode cX2_dropWorse 5 = .ok (.aload_n 0, 1) := by decide +kernel
theorem dX2_dropWorse_6 : decode cX2_dropWorse 6 = .ok (.getfield 23, 3) := by decide +kernel
theorem dX2_dropWorse_9 : decode cX2_dropWorse 9 = .ok (.iconst 0, 1) := by decide +kernel
theorem dX2_dropWorse_10 : decode cX2_dropWorse 10 = .ok (.iaload, 1) := by decide +kernel
theorem dX2_dropWorse_11 : decode cX2_dropWorse 11 = .ok (.istore_n 2, 1) := by decide +kernel
theorem dX2_dropWorse_12 : decode cX2_dropWorse 12 = .ok (.iload_n 1, 1) := by decide +kernel
theorem dX2_dropWorse_13 : decode cX2_dropWorse 13 = .ok (.iconst 1, 1) := by decide +kernel
theorem dX2_dropWorse_14 : decode cX2_dropWorse 14 = .ok (.isub, 1) := by decide +kernel
theorem dX2_dropWorse_15 : decode cX2_dropWorse 15 = .ok (.istore_n 3, 1) := by decide +kernel
theorem dX2_dropWorse_16 : decode cX2_dropWorse 16 = .ok (.iload_n 3, 1) := by decide +kernel
theorem dX2_dropWorse_17 : decode cX2_dropWorse 17 = .ok (.iconst 1, 1) := by decide +kernel
theorem dX2_dropWorse_18 : decode cX2_dropWorse 18 = .ok (.if_icmp .lt 92, 3) := by decide +kernel
theorem dX2_dropWorse_21 : decode cX2_dropWorse 21 = .ok (.aload_n 0, 1) := by decide +kernel
theorem dX2_dropWorse_22 : decode cX2_dropWorse 22 = .ok (.getfield 69, 3) := by decide +kernel
theorem dX2_dropWorse_25 : decode cX2_dropWorse 25 = .ok (.aload_n 0, 1) := by decide +kernel
theorem dX2_dropWorse_26 : decode cX2_dropWorse 26 = .ok (.getfield 50, 3) := by decide +kernel
theorem dX2_dropWorse_29 : decode cX2_dropWorse 29 = .ok (.getfield 77, 3) := by decide +kernel
theorem dX2_dropWorse_32 : decode cX2_dropWorse 32 = .ok (.if_icmp .le 78, 3) := by decide +kernel
theorem dX2_dropWorse_35 : decode cX2_dropWorse 35 = .ok (.aload_n 0, 1) := by decide +kernel
theorem dX2_dropWorse_36 : decode cX2_dropWorse 36 = .ok (.getfield 23, 3) := by decide +kernel
theorem dX2_dropWorse_39 : decode cX2_dropWorse 39 = .ok (.iload_n 3, 1) := by decide +kernel
theorem dX2_dropWorse_40 : decode cX2_dropWorse 40 = .ok (.iaload, 1) := by decide +kernel
theorem dX2_dropWorse_41 : decode cX2_dropWorse 41 = .ok (.istore 4, 2) := by decide +kernel
theorem dX2_dropWorse_43 : decode cX2_dropWorse 43 = .ok (.aload_n 0, 1) := by decide +kernel
theorem dX2_dropWorse_44 : decode cX2_dropWorse 44 = .ok (.iload_n 2, 1) := by decide +kernel
theorem dX2_dropWorse_45 : decode cX2_dropWorse 45 = .ok (.iload 4, 2) := by decide +kernel
theorem dX2_dropWorse_47 : decode cX2_dropWorse 47 = .ok (.invokevirtual 112, 3) := by decide +kernel
theorem dX2_dropWorse_50 : decode cX2_dropWorse 50 = .ok (.aload_n 0, 1) := by decide +kernel
theorem dX2_dropWorse_51 : decode cX2_dropWorse 51 = .ok (.iload 4, 2) := by decide +kernel
theorem dX2_dropWorse_53 : decode cX2_dropWorse 53 = .ok (.invokevirtual 85, 3) := by decide +kernel
theorem dX2_dropWorse_56 : decode cX2_dropWorse 56 = .ok (.ifCond .eq 48, 3) := by decide +kernel
theorem dX2_dropWorse_59 : decode cX2_dropWorse 59 = .ok (.aload_n 0, 1) := by decide +kernel
theorem dX2_dropWorse_60 : decode cX2_dropWorse 60 = .ok (.getfield 46, 3) := by decide +kernel
theorem dX2_dropWorse_63 : decode cX2_dropWorse 63 = .ok (.aload_n 0, 1) := by decide +kernel
theorem dX2_dropWorse_64 : decode cX2_dropWorse 64 = .ok (.getfield 50, 3) := by decide +kernel
theorem dX2_dropWorse_67 : decode cX2_dropWorse 67 = .ok (.getfield 116, 3) := by decide +kernel
theorem dX2_dropWorse_70 : decode cX2_dropWorse 70 = .ok (.aload_n 0, 1) := by decide +kernel
theorem dX2_dropWorse_71 : decode cX2_dropWorse 71 = .ok (.getfield 50, 3) := by decide +kernel
theorem dX2_dropWorse_74 : decode cX2_dropWorse 74 = .ok (.getfield 119, 3) := by decide +kernel
theorem dX2_dropWorse_77 : decode cX2_dropWorse 77 = .ok (.invokevirtual 122, 3) := by decide +kernel
theorem dX2_dropWorse_80 : decode cX2_dropWorse 80 = .ok (.ifCond .ne 24, 3) := by decide +kernel
theorem dX2_dropWorse_83 : decode cX2_dropWorse 83 = .ok (.aload_n 0, 1) := by decide +kernel
theorem dX2_dropWorse_84 : decode cX2_dropWorse 84 = .ok (.getfield 16, 3) := by decide +kernel
theorem dX2_dropWorse_87 : decode cX2_dropWorse 87 = .ok (.iload 4, 2) := by decide +kernel
theorem dX2_dropWorse_89 : decode cX2_dropWorse 89 = .ok (.aload_n 0, 1) := by decide +kernel
theorem dX2_dropWorse_90 : decode cX2_dropWorse 90 = .ok (.getfield 33, 3) := by decide +kernel
theorem dX2_dropWorse_93 : decode cX2_dropWorse 93 = .ok (.iastore, 1) := by decide +kernel
theorem dX2_dropWorse_94 : decode cX2_dropWorse 94 = .ok (.aload_n 0, 1) := by decide +kernel
theorem dX2_dropWorse_95 : decode cX2_dropWorse 95 = .ok (.dup, 1) := by decide +kernel
theorem dX2_dropWorse_96 : decode cX2_dropWorse 96 = .ok (.getfield 69, 3) := by decide +kernel
theorem dX2_dropWorse_99 : decode cX2_dropWorse 99 = .ok (.iconst 1, 1) := by decide +kernel
theorem dX2_dropWorse_100 : decode cX2_dropWorse 100 = .ok (.isub, 1) := by decide +kernel
theorem dX2_dropWorse_101 : decode cX2_dropWorse 101 = .ok (.putfield 69, 3) := by decide +kernel
theorem dX2_dropWorse_104 : decode cX2_dropWorse 104 = .ok (.iinc 3 (-1), 3) := by decide +kernel
theorem dX2_dropWorse_107 : decode cX2_dropWorse 107 = .ok (.goto (-91), 3) := by decide +kernel
theorem dX2_dropWorse_110 : decode cX2_dropWorse 110 = .ok (.return_, 1) := by decide +kernel
theorem dX2_leader_0 : decode cX2_leader 0 = .ok (.aload_n 0, 1) := by decide +kernel
theorem dX2_leader_1 : decode cX2_leader 1 = .ok (.invokevirtual 109, 3) := by decide +kernel
theorem dX2_leader_4 : decode cX2_leader 4 = .ok (.ifCond .ne 7, 3) := by decide +kernel
theorem dX2_leader_7 : decode cX2_leader 7 = .ok (.iconst (-1), 1) := by decide +kernel
theorem dX2_leader_8 : decode cX2_leader 8 = .ok (.goto 9, 3) := by decide +kernel
theorem dX2_leader_11 : decode cX2_leader 11 = .ok (.aload_n 0, 1) := by decide +kernel
theorem dX2_leader_12 : decode cX2_leader 12 = .ok (.getfield 23, 3) := by decide +kernel
theorem dX2_leader_15 : decode cX2_leader 15 = .ok (.iconst 0, 1) := by decide +kernel
theorem dX2_leader_16 : decode cX2_leader 16 = .ok (.iaload, 1) := by decide +kernel
theorem dX2_leader_17 : decode cX2_leader 17 = .ok (.ireturn, 1) := by decide +kernel
theorem dX2_arrange_0 : decode cX2_arrange 0 = .ok (.iconst 0, 1) := by decide +kernel
theorem dX2_arrange_1 : decode cX2_arrange 1 = .ok (.istore_n 1, 1) := by decide +kernel
theorem dX2_arrange_2 : decode cX2_arrange 2 = .ok (.iconst 0, 1) := by decide +kernel
theorem dX2_arrange_3 : decode cX2_arrange 3 = .ok (.istore_n 2, 1) := by decide +kernel
theorem dX2_arrange_4 : decode cX2_arrange 4 = .ok (.iload_n 2, 1) := by decide +kernel
theorem dX2_arrange_5 : decode cX2_arrange 5 = .ok (.aload_n 0, 1) := by decide +kernel
theorem dX2_arrange_6 : decode cX2_arrange 6 = .ok (.getfield 66, 3) := by decide +kernel
theorem dX2_arrange_9 : decode cX2_arrange 9 = .ok (.if_icmp .ge 101, 3) := by decide +kernel
theorem dX2_arrange_12 : decode cX2_arrange 12 = .ok (.aload_n 0, 1) := by decide +kernel
theorem dX2_arrange_13 : decode cX2_arrange 13 = .ok (.iload_n 2, 1) := by decide +kernel
theorem dX2_arrange_14 : decode cX2_arrange 14 = .ok (.invokevirtual 85, 3) := by decide +kernel
theorem dX2_arrange_17 : decode cX2_arrange 17 = .ok (.ifCond .eq 87, 3) := by decide +kernel
theorem dX2_arrange_20 : decode cX2_arrange 20 = .ok (.aload_n 0, 1) := by decide +kernel
theorem dX2_arrange_21 : decode cX2_arrange 21 = .ok (.iload_n 2, 1) := by decide +kernel
theorem dX2_arrange_22 : decode cX2_arrange 22 = .ok (.invokevirtual 128, 3) := by decide +kernel
theorem dX2_arrange_25 : decode cX2_arrange 25 = .ok (.istore_n 3, 1) := by decide +kernel
theorem dX2_arrange_26 : decode cX2_arrange 26 = .ok (.iload_n 1, 1) := by decide +kernel
theorem dX2_arrange_27 : decode cX2_arrange 27 = .ok (.istore 4, 2) := by decide +kernel
theorem dX2_arrange_29 : decode cX2_arrange 29 = .ok (.iload 4, 2) := by decide +kernel
theorem dX2_arrange_31 : decode cX2_arrange 31 = .ok (.ifCond .le 54, 3) := by decide +kernel
theorem dX2_arrange_34 : decode cX2_arrange 34 = .ok (.aload_n 0, 1) := by decide +kernel
theorem dX2_arrange_35 : decode cX2_arrange 35 = .ok (.getfield 26, 3) := by decide +kernel
theorem dX2_arrange_38 : decode cX2_arrange 38 = .ok (.iload 4, 2) := by decide +kernel
theorem dX2_arrange_40 : decode cX2_arrange 40 = .ok (.iconst 1, 1) := by decide +kernel
theorem dX2_arrange_41 : decode cX2_arrange 41 = .ok (.isub, 1) := by decide +kernel
theorem dX2_arrange_42 : decode cX2_arrange 42 = .ok (.iaload, 1) := by decide +kernel
theorem dX2_arrange_43 : decode cX2_arrange 43 = .ok (.iload_n 3, 1) := by decide +kernel
theorem dX2_arrange_44 : decode cX2_arrange 44 = .ok (.if_icmp .le 41, 3) := by decide +kernel
theorem dX2_arrange_47 : decode cX2_arrange 47 = .ok (.aload_n 0, 1) := by decide +kernel
theorem dX2_arrange_48 : decode cX2_arrange 48 = .ok (.getfield 23, 3) := by decide +kernel
theorem dX2_arrange_51 : decode cX2_arrange 51 = .ok (.iload 4, 2) := by decide +kernel
theorem dX2_arrange_53 : decode cX2_arrange 53 = .ok (.aload_n 0, 1) := by decide +kernel
theorem dX2_arrange_54 : decode cX2_arrange 54 = .ok (.getfield 23, 3) := by decide +kernel
theorem dX2_arrange_57 : decode cX2_arrange 57 = .ok (.iload 4, 2) := by decide +kernel
theorem dX2_arrange_59 : decode cX2_arrange 59 = .ok (.iconst 1, 1) := by decide +kernel
theorem dX2_arrange_60 : decode cX2_arrange 60 = .ok (.isub, 1) := by decide +kernel
theorem dX2_arrange_61 : decode cX2_arrange 61 = .ok (.iaload, 1) := by decide +kernel
theorem dX2_arrange_62 : decode cX2_arrange 62 = .ok (.iastore, 1) := by decide +kernel
theorem dX2_arrange_63 : decode cX2_arrange 63 = .ok (.aload_n 0, 1) := by decide +kernel
theorem dX2_arrange_64 : decode cX2_arrange 64 = .ok (.getfield 26, 3) := by decide +kernel
theorem dX2_arrange_67 : decode cX2_arrange 67 = .ok (.iload 4, 2) := by decide +kernel
theorem dX2_arrange_69 : decode cX2_arrange 69 = .ok (.aload_n 0, 1) := by decide +kernel
theorem dX2_arrange_70 : decode cX2_arrange 70 = .ok (.getfield 26, 3) := by decide +kernel
theorem dX2_arrange_73 : decode cX2_arrange 73 = .ok (.iload 4, 2) := by decide +kernel
theorem dX2_arrange_75 : decode cX2_arrange 75 = .ok (.iconst 1, 1) := by decide +kernel
theorem dX2_arrange_76 : decode cX2_arrange 76 = .ok (.isub, 1) := by decide +kernel
theorem dX2_arrange_77 : decode cX2_arrange 77 = .ok (.iaload, 1) := by decide +kernel
theorem dX2_arrange_78 : decode cX2_arrange 78 = .ok (.iastore, 1) := by decide +kernel
theorem dX2_arrange_79 : decode cX2_arrange 79 = .ok (.iinc 4 (-1), 3) := by decide +kernel
theorem dX2_arrange_82 : decode cX2_arrange 82 = .ok (.goto (-53), 3) := by decide +kernel
theorem dX2_arrange_85 : decode cX2_arrange 85 = .ok (.aload_n 0, 1) := by decide +kernel
theorem dX2_arrange_86 : decode cX2_arrange 86 = .ok (.getfield 23, 3) := by decide +kernel
theorem dX2_arrange_89 : decode cX2_arrange 89 = .ok (.iload 4, 2) := by decide +kernel
theorem dX2_arrange_91 : decode cX2_arrange 91 = .ok (.iload_n 2, 1) := by decide +kernel
theorem dX2_arrange_92 : decode cX2_arrange 92 = .ok (.iastore, 1) := by decide +kernel
theorem dX2_arrange_93 : decode cX2_arrange 93 = .ok (.aload_n 0, 1) := by decide +kernel
theorem dX2_arrange_94 : decode cX2_arrange 94 = .ok (.getfield 26, 3) := by decide +kernel
theorem dX2_arrange_97 : decode cX2_arrange 97 = .ok (.iload 4, 2) := by decide +kernel
theorem dX2_arrange_99 : decode cX2_arrange 99 = .ok (.iload_n 3, 1) := by decide +kernel
theorem dX2_arrange_100 : decode cX2_arrange 100 = .ok (.iastore, 1) := by decide +kernel
theorem dX2_arrange_101 : decode cX2_arrange 101 = .ok (.iinc 1 1, 3) := by decide +kernel
theorem dX2_arrange_104 : decode cX2_arrange 104 = .ok (.iinc 2 1, 3) := by decide +kernel
theorem dX2_arrange_107 : decode cX2_arrange 107 = .ok (.goto (-103), 3) := by decide +kernel
theorem dX2_arrange_110 : decode cX2_arrange 110 = .ok (.iload_n 1, 1) := by decide +kernel
theorem dX2_arrange_111 : decode cX2_arrange 111 = .ok (.ireturn, 1) := by decide +kernel
theorem dX2_rankOf_0 : decode cX2_rankOf 0 = .ok (.iconst 0, 1) := by decide +kernel
theorem dX2_rankOf_1 : decode cX2_rankOf 1 = .ok (.istore_n 2, 1) := by decide +kernel
theorem dX2_rankOf_2 : decode cX2_rankOf 2 = .ok (.iconst 0, 1) := by decide +kernel
theorem dX2_rankOf_3 : decode cX2_rankOf 3 = .ok (.istore_n 3, 1) := by decide +kernel
theorem dX2_rankOf_4 : decode cX2_rankOf 4 = .ok (.iload_n 3, 1) := by decide +kernel
theorem dX2_rankOf_5 : decode cX2_rankOf 5 = .ok (.aload_n 0, 1) := by decide +kernel
theorem dX2_rankOf_6 : decode cX2_rankOf 6 = .ok (.getfield 66, 3) := by decide +kernel
theorem dX2_rankOf_9 : decode cX2_rankOf 9 = .ok (.if_icmp .ge 31, 3) := by decide +kernel
theorem dX2_rankOf_12 : decode cX2_rankOf 12 = .ok (.iload_n 3, 1) := by decide +kernel
theorem dX2_rankOf_13 : decode cX2_rankOf 13 = .ok (.iload_n 1, 1) := by decide +kernel
theorem dX2_rankOf_14 : decode cX2_rankOf 14 = .ok (.if_icmp .eq 20, 3) := by decide +kernel
theorem dX2_rankOf_17 : decode cX2_rankOf 17 = .ok (.aload_n 0, 1) := by decide +kernel
theorem dX2_rankOf_18 : decode cX2_rankOf 18 = .ok (.iload_n 3, 1) := by decide +kernel
theorem dX2_rankOf_19 : decode cX2_rankOf 19 = .ok (.invokevirtual 85, 3) := by decide +kernel
theorem dX2_rankOf_22 : decode cX2_rankOf 22 = .ok (.ifCond .eq 12, 3) := by decide +kernel
theorem dX2_rankOf_25 : decode cX2_rankOf 25 = .ok (.iload_n 2, 1) := by decide +kernel
theorem dX2_rankOf_26 : decode cX2_rankOf 26 = .ok (.aload_n 0, 1) := by decide +kernel
theorem dX2_rankOf_27 : decode cX2_rankOf 27 = .ok (.iload_n 1, 1) := by decide +kernel
theorem dX2_rankOf_28 : decode cX2_rankOf 28 = .ok (.iload_n 3, 1) := by decide +kernel
theorem dX2_rankOf_29 : decode cX2_rankOf 29 = .ok (.invokevirtual 131, 3) := by decide +kernel
theorem dX2_rankOf_32 : decode cX2_rankOf 32 = .ok (.iadd, 1) := by decide +kernel
theorem dX2_rankOf_33 : decode cX2_rankOf 33 = .ok (.istore_n 2, 1) := by decide +kernel
theorem dX2_rankOf_34 : decode cX2_rankOf 34 = .ok (.iinc 3 1, 3) := by decide +kernel
theorem dX2_rankOf_37 : decode cX2_rankOf 37 = .ok (.goto (-33), 3) := by decide +kernel
theorem dX2_rankOf_40 : decode cX2_rankOf 40 = .ok (.iload_n 2, 1) := by decide +kernel
theorem dX2_rankOf_41 : decode cX2_rankOf 41 = .ok (.ireturn, 1) := by decide +kernel
theorem dX2_rankAgainst_0 : decode cX2_rankAgainst 0 = .ok (.iconst 0, 1) := by decide +kernel
theorem dX2_rankAgainst_1 : decode cX2_rankAgainst 1 = .ok (.istore_n 3, 1) := by decide +kernel
theorem dX2_rankAgainst_2 : decode cX2_rankAgainst 2 = .ok (.iconst 0, 1) := by decide +kernel
theorem dX2_rankAgainst_3 : decode cX2_rankAgainst 3 = .ok (.istore 4, 2) := by decide +kernel
theorem dX2_rankAgainst_5 : decode cX2_rankAgainst 5 = .ok (.iload 4, 2) := by decide +kernel
theorem dX2_rankAgainst_7 : decode cX2_rankAgainst 7 = .ok (.aload_n 0, 1) := by decide +kernel
theorem dX2_rankAgainst_8 : decode cX2_rankAgainst 8 = .ok (.getfield 33, 3) := by decide +kernel
theorem dX2_rankAgainst_11 : decode cX2_rankAgainst 11 = .ok (.if_icmp .ge 60, 3) := by decide +kernel
theorem dX2_rankAgainst_14 : decode cX2_rankAgainst 14 = .ok (.aload_n 0, 1) := by decide +kernel
theorem dX2_rankAgainst_15 : decode cX2_rankAgainst 15 = .ok (.getfield 11, 3) := by decide +kernel
theorem dX2_rankAgainst_18 : decode cX2_rankAgainst 18 = .ok (.iload_n 2, 1) := by decide +kernel
theorem dX2_rankAgainst_19 : decode cX2_rankAgainst 19 = .ok (.aaload, 1) := by decide +kernel
theorem dX2_rankAgainst_20 : decode cX2_rankAgainst 20 = .ok (.iload 4, 2) := by decide +kernel
theorem dX2_rankAgainst_22 : decode cX2_rankAgainst 22 = .ok (.iaload, 1) := by decide +kernel
theorem dX2_rankAgainst_23 : decode cX2_rankAgainst 23 = .ok (.aload_n 0, 1) := by decide +kernel
theorem dX2_rankAgainst_24 : decode cX2_rankAgainst 24 = .ok (.getfield 11, 3) := by decide +kernel
theorem dX2_rankAgainst_27 : decode cX2_rankAgainst 27 = .ok (.iload_n 1, 1) := by decide +kernel
theorem dX2_rankAgainst_28 : decode cX2_rankAgainst 28 = .ok (.aaload, 1) := by decide +kernel
theorem dX2_rankAgainst_29 : decode cX2_rankAgainst 29 = .ok (.iload 4, 2) := by decide +kernel
theorem dX2_rankAgainst_31 : decode cX2_rankAgainst 31 = .ok (.iaload, 1) := by decide +kernel
theorem dX2_rankAgainst_32 : decode cX2_rankAgainst 32 = .ok (.if_icmp .ge 9, 3) := by decide +kernel
theorem dX2_rankAgainst_35 : decode cX2_rankAgainst 35 = .ok (.iinc 3 2, 3) := by decide +kernel
theorem dX2_rankAgainst_38 : decode cX2_rankAgainst 38 = .ok (.goto 27, 3) := by decide +kernel
theorem dX2_rankAgainst_41 : decode cX2_rankAgainst 41 = .ok (.aload_n 0, 1) := by decide +kernel
theorem dX2_rankAgainst_42 : decode cX2_rankAgainst 42 = .ok (.getfield 11, 3) := by decide +kernel
theorem dX2_rankAgainst_45 : decode cX2_rankAgainst 45 = .ok (.iload_n 2, 1) := by decide +kernel
theorem dX2_rankAgainst_46 : decode cX2_rankAgainst 46 = .ok (.aaload, 1) := by decide +kernel
theorem dX2_rankAgainst_47 : decode cX2_rankAgainst 47 = .ok (.iload 4, 2) := by decide +kernel
theorem dX2_rankAgainst_49 : decode cX2_rankAgainst 49 = .ok (.iaload, 1) := by decide +kernel
theorem dX2_rankAgainst_50 : decode cX2_rankAgainst 50 = .ok (.aload_n 0, 1) := by decide +kernel
theorem dX2_rankAgainst_51 : decode cX2_rankAgainst 51 = .ok (.getfield 11, 3) := by decide +kernel
theorem dX2_rankAgainst_54 : decode cX2_rankAgainst 54 = .ok (.iload_n 1, 1) := by decide +kernel
theorem dX2_rankAgainst_55 : decode cX2_rankAgainst 55 = .ok (.aaload, 1) := by decide +kernel
theorem dX2_rankAgainst_56 : decode cX2_rankAgainst 56 = .ok (.iload 4, 2) := by decide +kernel
theorem dX2_rankAgainst_58 : decode cX2_rankAgainst 58 = .ok (.iaload, 1) := by decide +kernel
theorem dX2_rankAgainst_59 : decode cX2_rankAgainst 59 = .ok (.if_icmp .ne 6, 3) := by decide +kernel
theorem dX2_rankAgainst_62 : decode cX2_rankAgainst 62 = .ok (.iinc 3 1, 3) := by decide +kernel
theorem dX2_rankAgainst_65 : decode cX2_rankAgainst 65 = .ok (.iinc 4 1, 3) := by decide +kernel
theorem dX2_rankAgainst_68 : decode cX2_rankAgainst 68 = .ok (.goto (-63), 3) := by decide +kernel
theorem dX2_rankAgainst_71 : decode cX2_rankAgainst 71 = .ok (.iload_n 3, 1) := by decide +kernel
theorem dX2_rankAgainst_72 : decode cX2_rankAgainst 72 = .ok (.ireturn, 1) := by decide +kernel
theorem dX2_countOdds_0 : decode cX2_countOdds 0 = .ok (.aload_n 0, 1) := by decide +kernel
theorem dX2_countOdds_1 : decode cX2_countOdds 1 = .ok (.getfield 46, 3) := by decide +kernel
theorem dX2_countOdds_4 : decode cX2_countOdds 4 = .ok (.invokevirtual 134, 3) := by decide +kernel
theorem dX2_countOdds_7 : decode cX2_countOdds 7 = .ok (.aload_n 0, 1) := by decide +kernel
theorem dX2_countOdds_8 : decode cX2_countOdds 8 = .ok (.iload_n 1, 1) := by decide +kernel
theorem dX2_countOdds_9 : decode cX2_countOdds 9 = .ok (.invokevirtual 137, 3) := by decide +kernel
theorem dX2_countOdds_12 : decode cX2_countOdds 12 = .ok (.ifCond .eq 74, 3) := by decide +kernel
theorem dX2_countOdds_15 : decode cX2_countOdds 15 = .ok (.aload_n 0, 1) := by decide +kernel
theorem dX2_countOdds_16 : decode cX2_countOdds 16 = .ok (.iload_n 2, 1) := by decide +kernel
theorem dX2_countOdds_17 : decode cX2_countOdds 17 = .ok (.invokevirtual 137, 3) := by decide +kernel
theorem dX2_countOdds_20 : decode cX2_countOdds 20 = .ok (.ifCond .eq 66, 3) := by decide +kernel
theorem dX2_countOdds_23 : decode cX2_countOdds 23 = .ok (.aload_n 0, 1) := by decide +kernel
theorem dX2_countOdds_24 : decode cX2_countOdds 24 = .ok (.getfield 33, 3) := by decide +kernel
theorem dX2_countOdds_27 : decode cX2_countOdds 27 = .ok (.aload_n 0, 1) := by decide +kernel
theorem dX2_countOdds_28 : decode cX2_countOdds 28 = .ok (.getfield 20, 3) := by decide +kernel
theorem dX2_countOdds_31 : decode cX2_countOdds 31 = .ok (.iload_n 1, 1) := by decide +kernel
theorem dX2_countOdds_32 : decode cX2_countOdds 32 = .ok (.iaload, 1) := by decide +kernel
theorem dX2_countOdds_33 : decode cX2_countOdds 33 = .ok (.aload_n 0, 1) := by decide +kernel
theorem dX2_countOdds_34 : decode cX2_countOdds 34 = .ok (.getfield 20, 3) := by decide +kernel
theorem dX2_countOdds_37 : decode cX2_countOdds 37 = .ok (.iload_n 2, 1) := by decide +kernel
theorem dX2_countOdds_38 : decode cX2_countOdds 38 = .ok (.iaload, 1) := by decide +kernel
theorem dX2_countOdds_39 : decode cX2_countOdds 39 = .ok (.invokestatic 140, 3) := by decide +kernel
theorem dX2_countOdds_42 : decode cX2_countOdds 42 = .ok (.invokestatic 140, 3) := by decide +kernel
theorem dX2_countOdds_45 : decode cX2_countOdds 45 = .ok (.istore_n 3, 1) := by decide +kernel
theorem dX2_countOdds_46 : decode cX2_countOdds 46 = .ok (.iconst 0, 1) := by decide +kernel
theorem dX2_countOdds_47 : decode cX2_countOdds 47 = .ok (.istore 4, 2) := by decide +kernel
theorem dX2_countOdds_49 : decode cX2_countOdds 49 = .ok (.iload 4, 2) := by decide +kernel
theorem dX2_countOdds_51 : decode cX2_countOdds 51 = .ok (.iload_n 3, 1) := by decide +kernel
theorem dX2_countOdds_52 : decode cX2_countOdds 52 = .ok (.if_icmp .ge 34, 3) := by decide +kernel
theorem dX2_countOdds_55 : decode cX2_countOdds 55 = .ok (.aload_n 0, 1) := by decide +kernel
theorem dX2_countOdds_56 : decode cX2_countOdds 56 = .ok (.getfield 46, 3) := by decide +kernel
theorem dX2_countOdds_59 : decode cX2_countOdds 59 = .ok (.aload_n 0, 1) := by decide +kernel
theorem dX2_countOdds_60 : decode cX2_countOdds 60 = .ok (.getfield 11, 3) := by decide +kernel
theorem dX2_countOdds_63 : decode cX2_countOdds 63 = .ok (.iload_n 1, 1) := by decide +kernel
theorem dX2_countOdds_64 : decode cX2_countOdds 64 = .ok (.aaload, 1) := by decide +kernel
theorem dX2_countOdds_65 : decode cX2_countOdds 65 = .ok (.iload 4, 2) := by decide +kernel
theorem dX2_countOdds_67 : decode cX2_countOdds 67 = .ok (.iaload, 1) := by decide +kernel
theorem dX2_countOdds_68 : decode cX2_countOdds 68 = .ok (.aload_n 0, 1) := by decide +kernel
theorem dX2_countOdds_69 : decode cX2_countOdds 69 = .ok (.getfield 11, 3) := by decide +kernel
theorem dX2_countOdds_72 : decode cX2_countOdds 72 = .ok (.iload_n 2, 1) := by decide +kernel
theorem dX2_countOdds_73 : decode cX2_countOdds 73 = .ok (.aaload, 1) := by decide +kernel
theorem dX2_countOdds_74 : decode cX2_countOdds 74 = .ok (.iload 4, 2) := by decide +kernel
theorem dX2_countOdds_76 : decode cX2_countOdds 76 = .ok (.iaload, 1) := by decide +kernel
theorem dX2_countOdds_77 : decode cX2_countOdds 77 = .ok (.invokevirtual 145, 3) := by decide +kernel
theorem dX2_countOdds_80 : decode cX2_countOdds 80 = .ok (.iinc 4 1, 3) := by decide +kernel
theorem dX2_countOdds_83 : decode cX2_countOdds 83 = .ok (.goto (-34), 3) := by decide +kernel
theorem dX2_countOdds_86 : decode cX2_countOdds 86 = .ok (.aload_n 0, 1) := by decide +kernel
theorem dX2_countOdds_87 : decode cX2_countOdds 87 = .ok (.getfield 46, 3) := by decide +kernel
theorem dX2_countOdds_90 : decode cX2_countOdds 90 = .ok (.aload_n 0, 1) := by decide +kernel
theorem dX2_countOdds_91 : decode cX2_countOdds 91 = .ok (.getfield 50, 3) := by decide +kernel
theorem dX2_countOdds_94 : decode cX2_countOdds 94 = .ok (.getfield 148, 3) := by decide +kernel
theorem dX2_countOdds_97 : decode cX2_countOdds 97 = .ok (.invokevirtual 151, 3) := by decide +kernel
theorem dX2_countOdds_100 : decode cX2_countOdds 100 = .ok (.return_, 1) := by decide +kernel
theorem dX2_sumOfFirst_0 : decode cX2_sumOfFirst 0 = .ok (.lconst 0, 1) := by decide +kernel
theorem dX2_sumOfFirst_1 : decode cX2_sumOfFirst 1 = .ok (.lstore_n 3, 1) := by decide +kernel
theorem dX2_sumOfFirst_2 : decode cX2_sumOfFirst 2 = .ok (.iconst 0, 1) := by decide +kernel
theorem dX2_sumOfFirst_3 : decode cX2_sumOfFirst 3 = .ok (.istore 5, 2) := by decide +kernel
theorem dX2_sumOfFirst_5 : decode cX2_sumOfFirst 5 = .ok (.iload 5, 2) := by decide +kernel
theorem dX2_sumOfFirst_7 : decode cX2_sumOfFirst 7 = .ok (.iload_n 2, 1) := by decide +kernel
theorem dX2_sumOfFirst_8 : decode cX2_sumOfFirst 8 = .ok (.if_icmp .ge 41, 3) := by decide +kernel
theorem dX2_sumOfFirst_11 : decode cX2_sumOfFirst 11 = .ok (.aload_n 0, 1) := by decide +kernel
theorem dX2_sumOfFirst_12 : decode cX2_sumOfFirst 12 = .ok (.iload_n 1, 1) := by decide +kernel
theorem dX2_sumOfFirst_13 : decode cX2_sumOfFirst 13 = .ok (.invokevirtual 137, 3) := by decide +kernel
theorem dX2_sumOfFirst_16 : decode cX2_sumOfFirst 16 = .ok (.ifCond .eq 33, 3) := by decide +kernel
theorem dX2_sumOfFirst_19 : decode cX2_sumOfFirst 19 = .ok (.iload 5, 2) := by decide +kernel
theorem dX2_sumOfFirst_21 : decode cX2_sumOfFirst 21 = .ok (.aload_n 0, 1) := by decide +kernel
theorem dX2_sumOfFirst_22 : decode cX2_sumOfFirst 22 = .ok (.getfield 20, 3) := by decide +kernel
theorem dX2_sumOfFirst_25 : decode cX2_sumOfFirst 25 = .ok (.iload_n 1, 1) := by decide +kernel
theorem dX2_sumOfFirst_26 : decode cX2_sumOfFirst 26 = .ok (.iaload, 1) := by decide +kernel
theorem dX2_sumOfFirst_27 : decode cX2_sumOfFirst 27 = .ok (.if_icmp .ge 22, 3) := by decide +kernel
theorem dX2_sumOfFirst_30 : decode cX2_sumOfFirst 30 = .ok (.lload_n 3, 1) := by decide +kernel
theorem dX2_sumOfFirst_31 : decode cX2_sumOfFirst 31 = .ok (.aload_n 0, 1) := by decide +kernel
theorem dX2_sumOfFirst_32 : decode cX2_sumOfFirst 32 = .ok (.getfield 11, 3) := by decide +kernel
theorem dX2_sumOfFirst_35 : decode cX2_sumOfFirst 35 = .ok (.iload_n 1, 1) := by decide +kernel
theorem dX2_sumOfFirst_36 : decode cX2_sumOfFirst 36 = .ok (.aaload, 1) := by decide +kernel
theorem dX2_sumOfFirst_37 : decode cX2_sumOfFirst 37 = .ok (.iload 5, 2) := by decide +kernel
theorem dX2_sumOfFirst_39 : decode cX2_sumOfFirst 39 = .ok (.iaload, 1) := by decide +kernel
theorem dX2_sumOfFirst_40 : decode cX2_sumOfFirst 40 = .ok (.i2l, 1) := by decide +kernel
theorem dX2_sumOfFirst_41 : decode cX2_sumOfFirst 41 = .ok (.ladd, 1) := by decide +kernel
theorem dX2_sumOfFirst_42 : decode cX2_sumOfFirst 42 = .ok (.lstore_n 3, 1) := by decide +kernel
theorem dX2_sumOfFirst_43 : decode cX2_sumOfFirst 43 = .ok (.iinc 5 1, 3) := by decide +kernel
theorem dX2_sumOfFirst_46 : decode cX2_sumOfFirst 46 = .ok (.goto (-41), 3) := by decide +kernel
theorem dX2_sumOfFirst_49 : decode cX2_sumOfFirst 49 = .ok (.lload_n 3, 1) := by decide +kernel
theorem dX2_sumOfFirst_50 : decode cX2_sumOfFirst 50 = .ok (.lreturn, 1) := by decide +kernel
theorem dX3_init_0 : decode cX3_init 0 = .ok (.aload_n 0, 1) := by decide +kernel
theorem dX3_init_1 : decode cX3_init 1 = .ok (.invokespecial 3, 3) := by decide +kernel
theorem dX3_init_4 : decode cX3_init 4 = .ok (.aload_n 0, 1) := by decide +kernel
theorem dX3_init_5 : decode cX3_init 5 = .ok (.iload_n 1, 1) := by decide +kernel
theorem dX3_init_6 : decode cX3_init 6 = .ok (.putfield 9, 3) := by decide +kernel
theorem dX3_init_9 : decode cX3_init 9 = .ok (.aload_n 0, 1) := by decide +kernel
theorem dX3_init_10 : decode cX3_init 10 = .ok (.iload_n 2, 1) := by decide +kernel
theorem dX3_init_11 : decode cX3_init 11 = .ok (.putfield 15, 3) := by decide +kernel
theorem dX3_init_14 : decode cX3_init 14 = .ok (.aload_n 0, 1) := by decide +kernel
theorem dX3_init_15 : decode cX3_init 15 = .ok (.iload_n 3, 1) := by decide +kernel
theorem dX3_init_16 : decode cX3_init 16 = .ok (.putfield 18, 3) := by decide +kernel
theorem dX3_init_19 : decode cX3_init 19 = .ok (.aload_n 0, 1) := by decide +kernel
theorem dX3_init_20 : decode cX3_init 20 = .ok (.iload 4, 2) := by decide +kernel
theorem dX3_init_22 : decode cX3_init 22 = .ok (.putfield 21, 3) := by decide +kernel
theorem dX3_init_25 : decode cX3_init 25 = .ok (.aload_n 0, 1) := by decide +kernel
theorem dX3_init_26 : decode cX3_init 26 = .ok (.iload 5, 2) := by decide +kernel
theorem dX3_init_28 : decode cX3_init 28 = .ok (.putfield 24, 3) := by decide +kernel
theorem dX3_init_31 : decode cX3_init 31 = .ok (.aload_n 0, 1) := by decide +kernel
theorem dX3_init_32 : decode cX3_init 32 = .ok (.iload 6, 2) := by decide +kernel
theorem dX3_init_34 : decode cX3_init 34 = .ok (.putfield 27, 3) := by decide +kernel
theorem dX3_init_37 : decode cX3_init 37 = .ok (.return_, 1) := by decide +kernel
theorem dX3_areWithinBounds_0 : decode cX3_areWithinBounds 0 = .ok (.aload_n 0, 1) := by decide +kernel
theorem dX3_areWithinBounds_1 : decode cX3_areWithinBounds 1 = .ok (.getfield 9, 3) := by decide +kernel
theorem dX3_areWithinBounds_4 : decode cX3_areWithinBounds 4 = .ok (.iconst 0, 1) := by decide +kernel
theorem dX3_areWithinBounds_5 : decode cX3_areWithinBounds 5 = .ok (.iconst 1, 1) := by decide +kernel
theorem dX3_areWithinBounds_6 : decode cX3_areWithinBounds 6 = .ok (.invokestatic 30, 3) := by decide +kernel
theorem dX3_areWithinBounds_9 : decode cX3_areWithinBounds 9 = .ok (.ifCond .eq 86, 3) := by decide +kernel
theorem dX3_areWithinBounds_12 : decode cX3_areWithinBounds 12 = .ok (.aload_n 0, 1) := by decide +kernel
theorem dX3_areWithinBounds_13 : decode cX3_areWithinBounds 13 = .ok (.getfield 15, 3) := by decide +kernel
theorem dX3_areWithinBounds_16 : decode cX3_areWithinBounds 16 = .ok (.iconst 1, 1) := by decide +kernel
theorem dX3_areWithinBounds_17 : decode cX3_areWithinBounds 17 = .ok (.bipush 24, 2) := by decide +kernel
theorem dX3_areWithinBounds_19 : decode cX3_areWithinBounds 19 = .ok (.invokestatic 30, 3) := by decide +kernel
theorem dX3_areWithinBounds_22 : decode cX3_areWithinBounds 22 = .ok (.ifCond .eq 73, 3) := by decide +kernel
theorem dX3_areWithinBounds_25 : decode cX3_areWithinBounds 25 = .ok (.aload_n 0, 1) := by decide +kernel
theorem dX3_areWithinBounds_26 : decode cX3_areWithinBounds 26 = .ok (.getfield 18, 3) := by decide +kernel
theorem dX3_areWithinBounds_29 : decode cX3_areWithinBounds 29 = .ok (.iconst 1, 1) := by decide +kernel
theorem dX3_areWithinBounds_30 : decode cX3_areWithinBounds 30 = .ok (.sipush 1000, 3) := by decide +kernel
theorem dX3_areWithinBounds_33 : decode cX3_areWithinBounds 33 = .ok (.invokestatic 30, 3) := by decide +kernel
theorem dX3_areWithinBounds_36 : decode cX3_areWithinBounds 36 = .ok (.ifCond .eq 59, 3) := by decide +kernel
theorem dX3_areWithinBounds_39 : decode cX3_areWithinBounds 39 = .ok (.aload_n 0, 1) := by decide +kernel
theorem dX3_areWithinBounds_40 : decode cX3_areWithinBounds 40 = .ok (.getfield 21, 3) := by decide +kernel
theorem dX3_areWithinBounds_43 : decode cX3_areWithinBounds 43 = .ok (.iconst 1, 1) := by decide +kernel
theorem dX3_areWithinBounds_44 : decode cX3_areWithinBounds 44 = .ok (.sipush 1000, 3) := by decide +kernel
theorem dX3_areWithinBounds_47 : decode cX3_areWithinBounds 47 = .ok (.invokestatic 30, 3) := by decide +kernel
theorem dX3_areWithinBounds_50 : decode cX3_areWithinBounds 50 = .ok (.ifCond .eq 45, 3) := by decide +kernel
theorem dX3_areWithinBounds_53 : decode cX3_areWithinBounds 53 = .ok (.aload_n 0, 1) := by decide +kernel
theorem dX3_areWithinBounds_54 : decode cX3_areWithinBounds 54 = .ok (.getfield 18, 3) := by decide +kernel
theorem dX3_areWithinBounds_57 : decode cX3_areWithinBounds 57 = .ok (.aload_n 0, 1) := by decide +kernel
theorem dX3_areWithinBounds_58 : decode cX3_areWithinBounds 58 = .ok (.getfield 21, 3) := by decide +kernel
theorem dX3_areWithinBounds_61 : decode cX3_areWithinBounds 61 = .ok (.if_icmp .gt 34, 3) := by decide +kernel
theorem dX3_areWithinBounds_64 : decode cX3_areWithinBounds 64 = .ok (.aload_n 0, 1) := by decide +kernel
theorem dX3_areWithinBounds_65 : decode cX3_areWithinBounds 65 = .ok (.getfield 24, 3) := by decide +kernel
theorem dX3_areWithinBounds_68 : decode cX3_areWithinBounds 68 = .ok (.iconst 1, 1) := by decide +kernel
theorem dX3_areWithinBounds_69 : decode cX3_areWithinBounds 69 = .ok (.bipush 12, 2) := by decide +kernel
theorem dX3_areWithinBounds_71 : decode cX3_areWithinBounds 71 = .ok (.invokestatic 30, 3) := by decide +kernel
theorem dX3_areWithinBounds_74 : decode cX3_areWithinBounds 74 = .ok (.ifCond .eq 21, 3) := by decide +kernel
theorem dX3_areWithinBounds_77 : decode cX3_areWithinBounds 77 = .ok (.aload_n 0, 1) := by decide +kernel
theorem dX3_areWithinBounds_78 : decode cX3_areWithinBounds 78 = .ok (.getfield 27, 3) := by decide +kernel
theorem dX3_areWithinBounds_81 : decode cX3_areWithinBounds 81 = .ok (.iconst 0, 1) := by decide +kernel
theorem dX3_areWithinBounds_82 : decode cX3_areWithinBounds 82 = .ok (.sipush 1000, 3) := by decide +kernel
theorem dX3_areWithinBounds_85 : decode cX3_areWithinBounds 85 = .ok (.invokestatic 30, 3) := by decide +kernel
theorem dX3_areWithinBounds_88 : decode cX3_areWithinBounds 88 = .ok (.ifCond .eq 7, 3) := by decide +kernel
theorem dX3_areWithinBounds_91 : decode cX3_areWithinBounds 91 = .ok (.iconst 1, 1) := by decide +kernel
theorem dX3_areWithinBounds_92 : decode cX3_areWithinBounds 92 = .ok (.goto 4, 3) := by decide +kernel
theorem dX3_areWithinBounds_95 : decode cX3_areWithinBounds 95 = .ok (.iconst 0, 1) := by decide +kernel
theorem dX3_areWithinBounds_96 : decode cX3_areWithinBounds 96 = .ok (.ireturn, 1) := by decide +kernel
theorem dX4_init_0 : decode cX4_init 0 = .ok (.aload_n 0, 1) := by decide +kernel
theorem dX4_init_1 : decode cX4_init 1 = .ok (.invokespecial 3, 3) := by decide +kernel
theorem dX4_init_4 : decode cX4_init 4 = .ok (.aload_n 0, 1) := by decide +kernel
theorem dX4_init_5 : decode cX4_init 5 = .ok (.bipush 12, 2) := by decide +kernel
theorem dX4_init_7 : decode cX4_init 7 = .ok (.newarray .int, 2) := by decide +kernel
theorem dX4_init_9 : decode cX4_init 9 = .ok (.putfield 9, 3) := by decide +kernel
theorem dX4_init_12 : decode cX4_init 12 = .ok (.aload_n 0, 1) := by decide +kernel
theorem dX4_init_13 : decode cX4_init 13 = .ok (.bipush 12, 2) := by decide +kernel
theorem dX4_init_15 : decode cX4_init 15 = .ok (.newarray .int, 2) := by decide +kernel
theorem dX4_init_17 : decode cX4_init 17 = .ok (.putfield 15, 3) := by decide +kernel
theorem dX4_init_20 : decode cX4_init 20 = .ok (.aload_n 0, 1) := by decide +kernel
theorem dX4_init_21 : decode cX4_init 21 = .ok (.iconst 0, 1) := by decide +kernel
theorem dX4_init_22 : decode cX4_init 22 = .ok (.putfield 18, 3) := by decide +kernel
theorem dX4_init_25 : decode cX4_init 25 = .ok (.aload_n 0, 1) := by decide +kernel
theorem dX4_init_26 : decode cX4_init 26 = .ok (.iconst 1, 1) := by decide +kernel
theorem dX4_init_27 : decode cX4_init 27 = .ok (.putfield 22, 3) := by decide +kernel
theorem dX4_init_30 : decode cX4_init 30 = .ok (.aload_n 0, 1) := by decide +kernel
theorem dX4_init_31 : decode cX4_init 31 = .ok (.iconst (-1), 1) := by decide +kernel
theorem dX4_init_32 : decode cX4_init 32 = .ok (.putfield 25, 3) := by decide +kernel
theorem dX4_init_35 : decode cX4_init 35 = .ok (.aload_n 0, 1) := by decide +kernel
theorem dX4_init_36 : decode cX4_init 36 = .ok (.iconst (-1), 1) := by decide +kernel
theorem dX4_init_37 : decode cX4_init 37 = .ok (.putfield 28, 3) := by decide +kernel
theorem dX4_init_40 : decode cX4_init 40 = .ok (.aload_n 0, 1) := by decide +kernel
theorem dX4_init_41 : decode cX4_init 41 = .ok (.iconst 0, 1) := by decide +kernel
theorem dX4_init_42 : decode cX4_init 42 = .ok (.putfield 31, 3) := by decide +kernel
theorem dX4_init_45 : decode cX4_init 45 = .ok (.return_, 1) := by decide +kernel
theorem dX4_find_0 : decode cX4_find 0 = .ok (.aload_n 0, 1) := by decide +kernel
theorem dX4_find_1 : decode cX4_find 1 = .ok (.iconst (-1), 1) := by decide +kernel
theorem dX4_find_2 : decode cX4_find 2 = .ok (.putfield 25, 3) := by decide +kernel
theorem dX4_find_5 : decode cX4_find 5 = .ok (.aload_n 0, 1) := by decide +kernel
theorem dX4_find_6 : decode cX4_find 6 = .ok (.iconst (-1), 1) := by decide +kernel
theorem dX4_find_7 : decode cX4_find 7 = .ok (.putfield 28, 3) := by decide +kernel
theorem dX4_find_10 : decode cX4_find 10 = .ok (.aload_n 0, 1) := by decide +kernel
theorem dX4_find_11 : decode cX4_find 11 = .ok (.ldc 36, 2) := by decide +kernel
theorem dX4_find_13 : decode cX4_find 13 = .ok (.putfield 31, 3) := by decide +kernel
theorem dX4_find_16 : decode cX4_find 16 = .ok (.iconst 0, 1) := by decide +kernel
theorem dX4_find_17 : decode cX4_find 17 = .ok (.istore_n 2, 1) := by decide +kernel
theorem dX4_find_18 : decode cX4_find 18 = .ok (.iload_n 2, 1) := by decide +kernel
theorem dX4_find_19 : decode cX4_find 19 = .ok (.iconst 2, 1) := by decide +kernel
theorem dX4_find_20 : decode cX4_find 20 = .ok (.if_icmp .ge 44, 3) := by decide +kernel
theorem dX4_find_23 : decode cX4_find 23 = .ok (.aload_n 0, 1) := by decide +kernel
theorem dX4_find_24 : decode cX4_find 24 = .ok (.aload_n 1, 1) := by decide +kernel
theorem dX4_find_25 : decode cX4_find 25 = .ok (.invokevirtual 37, 3) := by decide +kernel
theorem dX4_find_28 : decode cX4_find 28 = .ok (.iconst 1, 1) := by decide +kernel
theorem dX4_find_29 : decode cX4_find 29 = .ok (.istore_n 3, 1) := by decide +kernel
theorem dX4_find_30 : decode cX4_find 30 = .ok (.iload_n 3, 1) := by decide +kernel
theorem dX4_find_31 : decode cX4_find 31 = .ok (.bipush 100, 2) := by decide +kernel
theorem dX4_find_33 : decode cX4_find 33 = .ok (.if_icmp .gt 25, 3) := by decide +kernel
theorem dX4_find_36 : decode cX4_find 36 = .ok (.aload_n 0, 1) := by decide +kernel
theorem dX4_find_37 : decode cX4_find 37 = .ok (.aload_n 1, 1) := by decide +kernel
theorem dX4_find_38 : decode cX4_find 38 = .ok (.iload_n 2, 1) := by decide +kernel
theorem dX4_find_39 : decode cX4_find 39 = .ok (.iload_n 3, 1) := by decide +kernel
theorem dX4_find_40 : decode cX4_find 40 = .ok (.iconst 1, 1) := by decide +kernel
theorem dX4_find_41 : decode cX4_find 41 = .ok (.isub, 1) := by decide +kernel
theorem dX4_find_42 : decode cX4_find 42 = .ok (.invokevirtual 41, 3) := by decide +kernel
theorem dX4_find_45 : decode cX4_find 45 = .ok (.aload_n 0, 1) := by decide +kernel
theorem dX4_find_46 : decode cX4_find 46 = .ok (.aload_n 1, 1) := by decide +kernel
theorem dX4_find_47 : decode cX4_find 47 = .ok (.iload_n 2, 1) := by decide +kernel
theorem dX4_find_48 : decode cX4_find 48 = .ok (.iload_n 3, 1) := by decide +kernel
theorem dX4_find_49 : decode cX4_find 49 = .ok (.invokevirtual 45, 3) := by decide +kernel
theorem dX4_find_52 : decode cX4_find 52 = .ok (.iinc 3 1, 3) := by decide +kernel
theorem dX4_find_55 : decode cX4_find 55 = .ok (.goto (-25), 3) := by decide +kernel
theorem dX4_find_58 : decode cX4_find 58 = .ok (.iinc 2 1, 3) := by decide +kernel
theorem dX4_find_61 : decode cX4_find 61 = .ok (.goto (-43), 3) := by decide +kernel
theorem dX4_find_64 : decode cX4_find 64 = .ok (.return_, 1) := by decide +kernel
theorem dX4_settingFor_0 : decode cX4_settingFor 0 = .ok (.aload_n 1, 1) := by decide +kernel
theorem dX4_settingFor_1 : decode cX4_settingFor 1 = .ok (.aload_n 0, 1) := by decide +kernel
theorem dX4_settingFor_2 : decode cX4_settingFor 2 = .ok (.getfield 18, 3) := by decide +kernel
theorem dX4_settingFor_5 : decode cX4_settingFor 5 = .ok (.iload_n 2, 1) := by decide +kernel
theorem dX4_settingFor_6 : decode cX4_settingFor 6 = .ok (.invokevirtual 48, 3) := by decide +kernel
theorem dX4_settingFor_9 : decode cX4_settingFor 9 = .ok (.aload_n 0, 1) := by decide +kernel
theorem dX4_settingFor_10 : decode cX4_settingFor 10 = .ok (.getfield 22, 3) := by decide +kernel
theorem dX4_settingFor_13 : decode cX4_settingFor 13 = .ok (.if_icmp .ge 10, 3) := by decide +kernel
theorem dX4_settingFor_16 : decode cX4_settingFor 16 = .ok (.aload_n 0, 1) := by decide +kernel
theorem dX4_settingFor_17 : decode cX4_settingFor 17 = .ok (.getfield 25, 3) := by decide +kernel
theorem dX4_settingFor_20 : decode cX4_settingFor 20 = .ok (.goto 7, 3) := by decide +kernel
theorem dX4_settingFor_23 : decode cX4_settingFor 23 = .ok (.aload_n 0, 1) := by decide +kernel
theorem dX4_settingFor_24 : decode cX4_settingFor 24 = .ok (.getfield 28, 3) := by decide +kernel
theorem dX4_settingFor_27 : decode cX4_settingFor 27 = .ok (.ireturn, 1) := by decide +kernel
theorem dX4_putAllFromCut_0 : decode cX4_putAllFromCut 0 = .ok (.aload_n 0, 1) := by decide +kernel
theorem dX4_putAllFromCut_1 : decode cX4_putAllFromCut 1 = .ok (.getfield 9, 3) := by decide +kernel
theorem dX4_putAllFromCut_4 : decode cX4_putAllFromCut 4 = .ok (.iconst 0, 1) := by decide +kernel
theorem dX4_putAllFromCut_5 : decode cX4_putAllFromCut 5 = .ok (.invokestatic 54, 3) := by decide +kernel
theorem dX4_putAllFromCut_8 : decode cX4_putAllFromCut 8 = .ok (.aload_n 0, 1) := by decide +kernel
theorem dX4_putAllFromCut_9 : decode cX4_putAllFromCut 9 = .ok (.getfield 15, 3) := by decide +kernel
theorem dX4_putAllFromCut_12 : decode cX4_putAllFromCut 12 = .ok (.iconst 0, 1) := by decide +kernel
theorem dX4_putAllFromCut_13 : decode cX4_putAllFromCut 13 = .ok (.invokestatic 54, 3) := by decide +kernel
theorem dX4_putAllFromCut_16 : decode cX4_putAllFromCut 16 = .ok (.iconst 0, 1) := by decide +kernel
theorem dX4_putAllFromCut_17 : decode cX4_putAllFromCut 17 = .ok (.istore_n 2, 1) := by decide +kernel
theorem dX4_putAllFromCut_18 : decode cX4_putAllFromCut 18 = .ok (.iload_n 2, 1) := by decide +kernel
theorem dX4_putAllFromCut_19 : decode cX4_putAllFromCut 19 = .ok (.aload_n 1, 1) := by decide +kernel
theorem dX4_putAllFromCut_20 : decode cX4_putAllFromCut 20 = .ok (.getfield 60, 3) := by decide +kernel
theorem dX4_putAllFromCut_23 : decode cX4_putAllFromCut 23 = .ok (.if_icmp .ge 48, 3) := by decide +kernel
theorem dX4_putAllFromCut_26 : decode cX4_putAllFromCut 26 = .ok (.iconst 0, 1) := by decide +kernel
theorem dX4_putAllFromCut_27 : decode cX4_putAllFromCut 27 = .ok (.istore_n 3, 1) := by decide +kernel
theorem dX4_putAllFromCut_28 : decode cX4_putAllFromCut 28 = .ok (.iload_n 3, 1) := by decide +kernel
theorem dX4_putAllFromCut_29 : decode cX4_putAllFromCut 29 = .ok (.aload_n 1, 1) := by decide +kernel
theorem dX4_putAllFromCut_30 : decode cX4_putAllFromCut 30 = .ok (.getfield 63, 3) := by decide +kernel
theorem dX4_putAllFromCut_33 : decode cX4_putAllFromCut 33 = .ok (.if_icmp .ge 32, 3) := by decide +kernel
theorem dX4_putAllFromCut_36 : decode cX4_putAllFromCut 36 = .ok (.aload_n 1, 1) := by decide +kernel
theorem dX4_putAllFromCut_37 : decode cX4_putAllFromCut 37 = .ok (.iload_n 3, 1) := by decide +kernel
theorem dX4_putAllFromCut_38 : decode cX4_putAllFromCut 38 = .ok (.invokevirtual 66, 3) := by decide +kernel
theorem dX4_putAllFromCut_41 : decode cX4_putAllFromCut 41 = .ok (.ifCond .eq 18, 3) := by decide +kernel
theorem dX4_putAllFromCut_44 : decode cX4_putAllFromCut 44 = .ok (.aload_n 0, 1) := by decide +kernel
theorem dX4_putAllFromCut_45 : decode cX4_putAllFromCut 45 = .ok (.getfield 15, 3) := by decide +kernel
theorem dX4_putAllFromCut_48 : decode cX4_putAllFromCut 48 = .ok (.iload_n 2, 1) := by decide +kernel
theorem dX4_putAllFromCut_49 : decode cX4_putAllFromCut 49 = .ok (.dup2, 1) := by decide +kernel
theorem dX4_putAllFromCut_50 : decode cX4_putAllFromCut 50 = .ok (.iaload, 1) := by decide +kernel
theorem dX4_putAllFromCut_51 : decode cX4_putAllFromCut 51 = .ok (.aload_n 1, 1) := by decide +kernel
theorem dX4_putAllFromCut_52 : decode cX4_putAllFromCut 52 = .ok (.iload_n 2, 1) := by decide +kernel
theorem dX4_putAllFromCut_53 : decode cX4_putAllFromCut 53 = .ok (.iload_n 3, 1) := by decide +kernel
theorem dX4_putAllFromCut_54 : decode cX4_putAllFromCut 54 = .ok (.invokevirtual 70, 3) := by decide +kernel
theorem dX4_putAllFromCut_57 : decode cX4_putAllFromCut 57 = .ok (.iadd, 1) := by decide +kernel
theorem dX4_putAllFromCut_58 : decode cX4_putAllFromCut 58 = .ok (.iastore, 1) := by decide +kernel
theorem dX4_putAllFromCut_59 : decode cX4_putAllFromCut 59 = .ok (.iinc 3 1, 3) := by decide +kernel
theorem dX4_putAllFromCut_62 : decode cX4_putAllFromCut 62 = .ok (.goto (-34), 3) := by decide +kernel
theorem dX4_putAllFromCut_65 : decode cX4_putAllFromCut 65 = .ok (.iinc 2 1, 3) := by decide +kernel
theorem dX4_putAllFromCut_68 : decode cX4_putAllFromCut 68 = .ok (.goto (-50), 3) := by decide +kernel
theorem dX4_putAllFromCut_71 : decode cX4_putAllFromCut 71 = .ok (.return_, 1) := by decide +kernel
theorem dX4_moveBelow_0 : decode cX4_moveBelow 0 = .ok (.iconst 0, 1) := by decide +kernel
theorem dX4_moveBelow_1 : decode cX4_moveBelow 1 = .ok (.istore 4, 2) := by decide +kernel
theorem dX4_moveBelow_3 : decode cX4_moveBelow 3 = .ok (.iload 4, 2) := by decide +kernel
theorem dX4_moveBelow_5 : decode cX4_moveBelow 5 = .ok (.aload_n 1, 1) := by decide +kernel
theorem dX4_moveBelow_6 : decode cX4_moveBelow 6 = .ok (.getfield 63, 3) := by decide +kernel
theorem dX4_moveBelow_9 : decode cX4_moveBelow 9 = .ok (.if_icmp .ge 83, 3) := by decide +kernel
theorem dX4_moveBelow_12 : decode cX4_moveBelow 12 = .ok (.aload_n 1, 1) := by decide +kernel
theorem dX4_moveBelow_13 : decode cX4_moveBelow 13 = .ok (.iload 4, 2) := by decide +kernel
theorem dX4_moveBelow_15 : decode cX4_moveBelow 15 = .ok (.invokevirtual 66, 3) := by decide +kernel
theorem dX4_moveBelow_18 : decode cX4_moveBelow 18 = .ok (.ifCond .eq 68, 3) := by decide +kernel
theorem dX4_moveBelow_21 : decode cX4_moveBelow 21 = .ok (.aload_n 1, 1) := by decide +kernel
theorem dX4_moveBelow_22 : decode cX4_moveBelow 22 = .ok (.iload_n 2, 1) := by decide +kernel
theorem dX4_moveBelow_23 : decode cX4_moveBelow 23 = .ok (.iload 4, 2) := by decide +kernel
theorem dX4_moveBelow_25 : decode cX4_moveBelow 25 = .ok (.invokevirtual 48, 3) := by decide +kernel
theorem dX4_moveBelow_28 : decode cX4_moveBelow 28 = .ok (.iload_n 3, 1) := by decide +kernel
theorem dX4_moveBelow_29 : decode cX4_moveBelow 29 = .ok (.if_icmp .ne 57, 3) := by decide +kernel
theorem dX4_moveBelow_32 : decode cX4_moveBelow 32 = .ok (.iconst 0, 1) := by decide +kernel
theorem dX4_moveBelow_33 : decode cX4_moveBelow 33 = .ok (.istore 5, 2) := by decide +kernel
theorem dX4_moveBelow_35 : decode cX4_moveBelow 35 = .ok (.iload 5, 2) := by decide +kernel
theorem dX4_moveBelow_37 : decode cX4_moveBelow 37 = .ok (.aload_n 1, 1) := by decide +kernel
theorem dX4_moveBelow_38 : decode cX4_moveBelow 38 = .ok (.getfield 60, 3) := by decide +kernel
theorem dX4_moveBelow_41 : decode cX4_moveBelow 41 = .ok (.if_icmp .ge 45, 3) := by decide +kernel
theorem dX4_moveBelow_44 : decode cX4_moveBelow 44 = .ok (.aload_n 0, 1) := by decide +kernel
theorem dX4_moveBelow_45 : decode cX4_moveBelow 45 = .ok (.getfield 15, 3) := by decide +kernel
theorem dX4_moveBelow_48 : decode cX4_moveBelow 48 = .ok (.iload 5, 2) := by decide +kernel
theorem dX4_moveBelow_50 : decode cX4_moveBelow 50 = .ok (.dup2, 1) := by decide +kernel
theorem dX4_moveBelow_51 : decode cX4_moveBelow 51 = .ok (.iaload, 1) := by decide +kernel
theorem dX4_moveBelow_52 : decode cX4_moveBelow 52 = .ok (.aload_n 1, 1) := by decide +kernel
theorem dX4_moveBelow_53 : decode cX4_moveBelow 53 = .ok (.iload 5, 2) := by decide +kernel
theorem dX4_moveBelow_55 : decode cX4_moveBelow 55 = .ok (.iload 4, 2) := by decide +kernel
theorem dX4_moveBelow_57 : decode cX4_moveBelow 57 = .ok (.invokevirtual 70, 3) := by decide +kernel
theorem dX4_moveBelow_60 : decode cX4_moveBelow 60 = .ok (.isub, 1) := by decide +kernel
theorem dX4_moveBelow_61 : decode cX4_moveBelow 61 = .ok (.iastore, 1) := by decide +kernel
theorem dX4_moveBelow_62 : decode cX4_moveBelow 62 = .ok (.aload_n 0, 1) := by decide +kernel
theorem dX4_moveBelow_63 : decode cX4_moveBelow 63 = .ok (.getfield 9, 3) := by decide +kernel
theorem dX4_moveBelow_66 : decode cX4_moveBelow 66 = .ok (.iload 5, 2) := by decide +kernel
theorem dX4_moveBelow_68 : decode cX4_moveBelow 68 = .ok (.dup2, 1) := by decide +kernel
theorem dX4_moveBelow_69 : decode cX4_moveBelow 69 = .ok (.iaload, 1) := by decide +kernel
theorem dX4_moveBelow_70 : decode cX4_moveBelow 70 = .ok (.aload_n 1, 1) := by decide +kernel
theorem dX4_moveBelow_71 : decode cX4_moveBelow 71 = .ok (.iload 5, 2) := by decide +kernel
theorem dX4_moveBelow_73 : decode cX4_moveBelow 73 = .ok (.iload 4, 2) := by decide +kernel
theorem dX4_moveBelow_75 : decode cX4_moveBelow 75 = .ok (.invokevirtual 70, 3) := by decide +kernel
theorem dX4_moveBelow_78 : decode cX4_moveBelow 78 = .ok (.iadd, 1) := by decide +kernel
theorem dX4_moveBelow_79 : decode cX4_moveBelow 79 = .ok (.iastore, 1) := by decide +kernel
theorem dX4_moveBelow_80 : decode cX4_moveBelow 80 = .ok (.iinc 5 1, 3) := by decide +kernel
theorem dX4_moveBelow_83 : decode cX4_moveBelow 83 = .ok (.goto (-48), 3) := by decide +kernel
theorem dX4_moveBelow_86 : decode cX4_moveBelow 86 = .ok (.iinc 4 1, 3) := by decide +kernel
theorem dX4_moveBelow_89 : decode cX4_moveBelow 89 = .ok (.goto (-86), 3) := by decide +kernel
theorem dX4_moveBelow_92 : decode cX4_moveBelow 92 = .ok (.return_, 1) := by decide +kernel
theorem dX4_keepIfLess_0 : decode cX4_keepIfLess 0 = .ok (.aload_n 1, 1) := by decide +kernel
theorem dX4_keepIfLess_1 : decode cX4_keepIfLess 1 = .ok (.aload_n 0, 1) := by decide +kernel
theorem dX4_keepIfLess_2 : decode cX4_keepIfLess 2 = .ok (.getfield 9, 3) := by decide +kernel
theorem dX4_keepIfLess_5 : decode cX4_keepIfLess 5 = .ok (.invokestatic 73, 3) := by decide +kernel
theorem dX4_keepIfLess_8 : decode cX4_keepIfLess 8 = .ok (.istore 4, 2) := by decide +kernel
theorem dX4_keepIfLess_10 : decode cX4_keepIfLess 10 = .ok (.aload_n 1, 1) := by decide +kernel
theorem dX4_keepIfLess_11 : decode cX4_keepIfLess 11 = .ok (.aload_n 0, 1) := by decide +kernel
theorem dX4_keepIfLess_12 : decode cX4_keepIfLess 12 = .ok (.getfield 15, 3) := by decide +kernel
theorem dX4_keepIfLess_15 : decode cX4_keepIfLess 15 = .ok (.invokestatic 73, 3) := by decide +kernel
theorem dX4_keepIfLess_18 : decode cX4_keepIfLess 18 = .ok (.istore 5, 2) := by decide +kernel
theorem dX4_keepIfLess_20 : decode cX4_keepIfLess 20 = .ok (.iload 4, 2) := by decide +kernel
theorem dX4_keepIfLess_22 : decode cX4_keepIfLess 22 = .ok (.iconst (-1), 1) := by decide +kernel
theorem dX4_keepIfLess_23 : decode cX4_keepIfLess 23 = .ok (.if_icmp .eq 9, 3) := by decide +kernel
theorem dX4_keepIfLess_26 : decode cX4_keepIfLess 26 = .ok (.iload 5, 2) := by decide +kernel
theorem dX4_keepIfLess_28 : decode cX4_keepIfLess 28 = .ok (.iconst (-1), 1) := by decide +kernel
theorem dX4_keepIfLess_29 : decode cX4_keepIfLess 29 = .ok (.if_icmp .ne 4, 3) := by decide +kernel
theorem dX4_keepIfLess_32 : decode cX4_keepIfLess 32 = .ok (.return_, 1) := by decide +kernel
theorem dX4_keepIfLess_33 : decode cX4_keepIfLess 33 = .ok (.aload_n 0, 1) := by decide +kernel
theorem dX4_keepIfLess_34 : decode cX4_keepIfLess 34 = .ok (.getfield 9, 3) := by decide +kernel
theorem dX4_keepIfLess_37 : decode cX4_keepIfLess 37 = .ok (.iload 4, 2) := by decide +kernel
theorem dX4_keepIfLess_39 : decode cX4_keepIfLess 39 = .ok (.iaload, 1) := by decide +kernel
theorem dX4_keepIfLess_40 : decode cX4_keepIfLess 40 = .ok (.aload_n 0, 1) := by decide +kernel
theorem dX4_keepIfLess_41 : decode cX4_keepIfLess 41 = .ok (.getfield 15, 3) := by decide +kernel
theorem dX4_keepIfLess_44 : decode cX4_keepIfLess 44 = .ok (.iload 5, 2) := by decide +kernel
theorem dX4_keepIfLess_46 : decode cX4_keepIfLess 46 = .ok (.iaload, 1) := by decide +kernel
theorem dX4_keepIfLess_47 : decode cX4_keepIfLess 47 = .ok (.iadd, 1) := by decide +kernel
theorem dX4_keepIfLess_48 : decode cX4_keepIfLess 48 = .ok (.istore 6, 2) := by decide +kernel
theorem dX4_keepIfLess_50 : decode cX4_keepIfLess 50 = .ok (.iload 6, 2) := by decide +kernel
theorem dX4_keepIfLess_52 : decode cX4_keepIfLess 52 = .ok (.aload_n 0, 1) := by decide +kernel
theorem dX4_keepIfLess_53 : decode cX4_keepIfLess 53 = .ok (.getfield 31, 3) := by decide +kernel
theorem dX4_keepIfLess_56 : decode cX4_keepIfLess 56 = .ok (.if_icmp .ge 31, 3) := by decide +kernel
theorem dX4_keepIfLess_59 : decode cX4_keepIfLess 59 = .ok (.aload_n 0, 1) := by decide +kernel
theorem dX4_keepIfLess_60 : decode cX4_keepIfLess 60 = .ok (.iload 6, 2) := by decide +kernel
theorem dX4_keepIfLess_62 : decode cX4_keepIfLess 62 = .ok (.putfield 31, 3) := by decide +kernel
theorem dX4_keepIfLess_65 : decode cX4_keepIfLess 65 = .ok (.aload_n 0, 1) := by decide +kernel
theorem dX4_keepIfLess_66 : decode cX4_keepIfLess 66 = .ok (.iload_n 2, 1) := by decide +kernel
theorem dX4_keepIfLess_67 : decode cX4_keepIfLess 67 = .ok (.putfield 18, 3) := by decide +kernel
theorem dX4_keepIfLess_70 : decode cX4_keepIfLess 70 = .ok (.aload_n 0, 1) := by decide +kernel
theorem dX4_keepIfLess_71 : decode cX4_keepIfLess 71 = .ok (.iload_n 3, 1) := by decide +kernel
theorem dX4_keepIfLess_72 : decode cX4_keepIfLess 72 = .ok (.putfield 22, 3) := by decide +kernel
theorem dX4_keepIfLess_75 : decode cX4_keepIfLess 75 = .ok (.aload_n 0, 1) := by decide +kernel
theorem dX4_keepIfLess_76 : decode cX4_keepIfLess 76 = .ok (.iload 4, 2) := by decide +kernel
theorem dX4_keepIfLess_78 : decode cX4_keepIfLess 78 = .ok (.putfield 25, 3) := by decide +kernel
theorem dX4_keepIfLess_81 : decode cX4_keepIfLess 81 = .ok (.aload_n 0, 1) := by decide +kernel
theorem dX4_keepIfLess_82 : decode cX4_keepIfLess 82 = .ok (.iload 5, 2) := by decide +kernel
theorem dX4_keepIfLess_84 : decode cX4_keepIfLess 84 = .ok (.putfield 28, 3) := by decide +kernel
theorem dX4_keepIfLess_87 : decode cX4_keepIfLess 87 = .ok (.return_, 1) := by decide +kernel
theorem dX4_leastOf_0 : decode cX4_leastOf 0 = .ok (.iconst (-1), 1) := by decide +kernel
theorem dX4_leastOf_1 : decode cX4_leastOf 1 = .ok (.istore_n 2, 1) := by decide +kernel
theorem dX4_leastOf_2 : decode cX4_leastOf 2 = .ok (.iconst 0, 1) := by decide +kernel
theorem dX4_leastOf_3 : decode cX4_leastOf 3 = .ok (.istore_n 3, 1) := by decide +kernel
theorem dX4_leastOf_4 : decode cX4_leastOf 4 = .ok (.iload_n 3, 1) := by decide +kernel
theorem dX4_leastOf_5 : decode cX4_leastOf 5 = .ok (.aload_n 0, 1) := by decide +kernel
theorem dX4_leastOf_6 : decode cX4_leastOf 6 = .ok (.getfield 60, 3) := by decide +kernel
theorem dX4_leastOf_9 : decode cX4_leastOf 9 = .ok (.if_icmp .ge 39, 3) := by decide +kernel
theorem dX4_leastOf_12 : decode cX4_leastOf 12 = .ok (.iload_n 3, 1) := by decide +kernel
theorem dX4_leastOf_13 : decode cX4_leastOf 13 = .ok (.aload_n 1, 1) := by decide +kernel
theorem dX4_leastOf_14 : decode cX4_leastOf 14 = .ok (.arraylength, 1) := by decide +kernel
theorem dX4_leastOf_15 : decode cX4_leastOf 15 = .ok (.if_icmp .ge 33, 3) := by decide +kernel
theorem dX4_leastOf_18 : decode cX4_leastOf 18 = .ok (.aload_n 0, 1) := by decide +kernel
theorem dX4_leastOf_19 : decode cX4_leastOf 19 = .ok (.iload_n 3, 1) := by decide +kernel
theorem dX4_leastOf_20 : decode cX4_leastOf 20 = .ok (.invokevirtual 77, 3) := by decide +kernel
theorem dX4_leastOf_23 : decode cX4_leastOf 23 = .ok (.ifCond .eq 19, 3) := by decide +kernel
theorem dX4_leastOf_26 : decode cX4_leastOf 26 = .ok (.iload_n 2, 1) := by decide +kernel
theorem dX4_leastOf_27 : decode cX4_leastOf 27 = .ok (.iconst (-1), 1) := by decide +kernel
theorem dX4_leastOf_28 : decode cX4_leastOf 28 = .ok (.if_icmp .eq 12, 3) := by decide +kernel
theorem dX4_leastOf_31 : decode cX4_leastOf 31 = .ok (.aload_n 1, 1) := by decide +kernel
theorem dX4_leastOf_32 : decode cX4_leastOf 32 = .ok (.iload_n 3, 1) := by decide +kernel
theorem dX4_leastOf_33 : decode cX4_leastOf 33 = .ok (.iaload, 1) := by decide +kernel
theorem dX4_leastOf_34 : decode cX4_leastOf 34 = .ok (.aload_n 1, 1) := by decide +kernel
theorem dX4_leastOf_35 : decode cX4_leastOf 35 = .ok (.iload_n 2, 1) := by decide +kernel
theorem dX4_leastOf_36 : decode cX4_leastOf 36 = .ok (.iaload, 1) := by decide +kernel
theorem dX4_leastOf_37 : decode cX4_leastOf 37 = .ok (.if_icmp .ge 5, 3) := by decide +kernel
theorem dX4_leastOf_40 : decode cX4_leastOf 40 = .ok (.iload_n 3, 1) := by decide +kernel
theorem dX4_leastOf_41 : decode cX4_leastOf 41 = .ok (.istore_n 2, 1) := by decide +kernel
theorem dX4_leastOf_42 : decode cX4_leastOf 42 = .ok (.iinc 3 1, 3) := by decide +kernel
theorem dX4_leastOf_45 : decode cX4_leastOf 45 = .ok (.goto (-41), 3) := by decide +kernel
theorem dX4_leastOf_48 : decode cX4_leastOf 48 = .ok (.iload_n 2, 1) := by decide +kernel
theorem dX4_leastOf_49 : decode cX4_leastOf 49 = .ok (.ireturn, 1) := by decide +kernel
theorem dX5_init_0 : decode cX5_init 0 = .ok (.aload_n 0, 1) := by decide +kernel
theorem dX5_init_1 : decode cX5_init 1 = .ok (.invokespecial 3, 3) := by decide +kernel
theorem dX5_init_4 : decode cX5_init 4 = .ok (.aload_n 0, 1) := by decide +kernel
theorem dX5_init_5 : decode cX5_init 5 = .ok (.bipush 12, 2) := by decide +kernel
theorem dX5_init_7 : decode cX5_init 7 = .ok (.bipush 24, 2) := by decide +kernel
theorem dX5_init_9 : decode cX5_init 9 = .ok (.multianewarray 9 2, 4) := by decide +kernel
theorem dX5_init_13 : decode cX5_init 13 = .ok (.putfield 11, 3) := by decide +kernel
theorem dX5_init_16 : decode cX5_init 16 = .ok (.aload_n 0, 1) := by decide +kernel
theorem dX5_init_17 : decode cX5_init 17 = .ok (.bipush 12, 2) := by decide +kernel
theorem dX5_init_19 : decode cX5_init 19 = .ok (.newarray .int, 2) := by decide +kernel
theorem dX5_init_21 : decode cX5_init 21 = .ok (.putfield 16, 3) := by decide +kernel
theorem dX5_init_24 : decode cX5_init 24 = .ok (.aload_n 0, 1) := by decide +kernel
theorem dX5_init_25 : decode cX5_init 25 = .ok (.iconst 2, 1) := by decide +kernel
theorem dX5_init_26 : decode cX5_init 26 = .ok (.bipush 24, 2) := by decide +kernel
theorem dX5_init_28 : decode cX5_init 28 = .ok (.multianewarray 9 2, 4) := by decide +kernel
theorem dX5_init_32 : decode cX5_init 32 = .ok (.putfield 20, 3) := by decide +kernel
theorem dX5_init_35 : decode cX5_init 35 = .ok (.aload_n 0, 1) := by decide +kernel
theorem dX5_init_36 : decode cX5_init 36 = .ok (.bipush 24, 2) := by decide +kernel
theorem dX5_init_38 : decode cX5_init 38 = .ok (.newarray .boolean, 2) := by decide +kernel
theorem dX5_init_40 : decode cX5_init 40 = .ok (.putfield 23, 3) := by decide +kernel
theorem dX5_init_43 : decode cX5_init 43 = .ok (.aload_n 0, 1) := by decide +kernel
theorem dX5_init_44 : decode cX5_init 44 = .ok (.iconst 0, 1) := by decide +kernel
theorem dX5_init_45 : decode cX5_init 45 = .ok (.putfield 27, 3) := by decide +kernel
theorem dX5_init_48 : decode cX5_init 48 = .ok (.aload_n 0, 1) := by decide +kernel
theorem dX5_init_49 : decode cX5_init 49 = .ok (.iconst 0, 1) := by decide +kernel
theorem dX5_init_50 : decode cX5_init 50 = .ok (.putfield 31, 3) := by decide +kernel
theorem dX5_init_53 : decode cX5_init 53 = .ok (.iconst 0, 1) := by decide +kernel
theorem dX5_init_54 : decode cX5_init 54 = .ok (.istore_n 1, 1) := by decide +kernel
theorem dX5_init_55 : decode cX5_init 55 = .ok (.iload_n 1, 1) := by decide +kernel
theorem dX5_init_56 : decode cX5_init 56 = .ok (.bipush 12, 2) := by decide +kernel
theorem dX5_init_58 : decode cX5_init 58 = .ok (.if_icmp .ge 19, 3) := by decide +kernel
theorem dX5_init_61 : decode cX5_init 61 = .ok (.aload_n 0, 1) := by decide +kernel
theorem dX5_init_62 : decode cX5_init 62 = .ok (.getfield 11, 3) := by decide +kernel
theorem dX5_init_65 : decode cX5_init 65 = .ok (.iload_n 1, 1) := by decide +kernel
theorem dX5_init_66 : decode cX5_init 66 = .ok (.aaload, 1) := by decide +kernel
theorem dX5_init_67 : decode cX5_init 67 = .ok (.iconst (-1), 1) := by decide +kernel
theorem dX5_init_68 : decode cX5_init 68 = .ok (.invokestatic 34, 3) := by decide +kernel
theorem dX5_init_71 : decode cX5_init 71 = .ok (.iinc 1 1, 3) := by decide +kernel
theorem dX5_init_74 : decode cX5_init 74 = .ok (.goto (-19), 3) := by decide +kernel
theorem dX5_init_77 : decode cX5_init 77 = .ok (.return_, 1) := by decide +kernel
theorem dX5_addSetting_0 : decode cX5_addSetting 0 = .ok (.aload_n 0, 1) := by decide +kernel
theorem dX5_addSetting_1 : decode cX5_addSetting 1 = .ok (.getfield 27, 3) := by decide +kernel
theorem dX5_addSetting_4 : decode cX5_addSetting 4 = .ok (.bipush 12, 2) := by decide +kernel
theorem dX5_addSetting_6 : decode cX5_addSetting 6 = .ok (.if_icmp .lt 6, 3) := by decide +kernel
theorem dX5_addSetting_9 : decode cX5_addSetting 9 = .ok (.bipush (-4), 2) := by decide +kernel
theorem dX5_addSetting_11 : decode cX5_addSetting 11 = .ok (.ireturn, 1) := by decide +kernel
theorem dX5_addSetting_12 : decode cX5_addSetting 12 = .ok (.aload_n 0, 1) := by decide +kernel
theorem dX5_addSetting_13 : decode cX5_addSetting 13 = .ok (.dup, 1) := by decide +kernel
theorem dX5_addSetting_14 : decode cX5_addSetting 14 = .ok (.getfield 27, 3) := by decide +kernel
theorem dX5_addSetting_17 : decode cX5_addSetting 17 = .ok (.iconst 1, 1) := by decide +kernel
theorem dX5_addSetting_18 : decode cX5_addSetting 18 = .ok (.iadd, 1) := by decide +kernel
theorem dX5_addSetting_19 : decode cX5_addSetting 19 = .ok (.putfield 27, 3) := by decide +kernel
theorem dX5_addSetting_22 : decode cX5_addSetting 22 = .ok (.aload_n 0, 1) := by decide +kernel
theorem dX5_addSetting_23 : decode cX5_addSetting 23 = .ok (.getfield 27, 3) := by decide +kernel
theorem dX5_addSetting_26 : decode cX5_addSetting 26 = .ok (.iconst 1, 1) := by decide +kernel
theorem dX5_addSetting_27 : decode cX5_addSetting 27 = .ok (.isub, 1) := by decide +kernel
theorem dX5_addSetting_28 : decode cX5_addSetting 28 = .ok (.ireturn, 1) := by decide +kernel
theorem dX5_addInstance_0 : decode cX5_addInstance 0 = .ok (.aload_n 0, 1) := by decide +kernel
theorem dX5_addInstance_1 : decode cX5_addInstance 1 = .ok (.getfield 31, 3) := by decide +kernel
theorem dX5_addInstance_4 : decode cX5_addInstance 4 = .ok (.bipush 24, 2) := by decide +kernel
theorem dX5_addInstance_6 : decode cX5_addInstance 6 = .ok (.if_icmp .lt 6, 3) := by decide +kernel
theorem dX5_addInstance_9 : decode cX5_addInstance 9 = .ok (.bipush (-4), 2) := by decide +kernel
theorem dX5_addInstance_11 : decode cX5_addInstance 11 = .ok (.ireturn, 1) := by decide +kernel
theorem dX5_addInstance_12 : decode cX5_addInstance 12 = .ok (.aload_n 0, 1) := by decide +kernel
theorem dX5_addInstance_13 : decode cX5_addInstance 13 = .ok (.getfield 20, 3) := by decide +kernel
theorem dX5_addInstance_16 : decode cX5_addInstance 16 = .ok (.iconst 0, 1) := by decide +kernel
theorem dX5_addInstance_17 : decode cX5_addInstance 17 = .ok (.aaload, 1) := by decide +kernel
theorem dX5_addInstance_18 : decode cX5_addInstance 18 = .ok (.aload_n 0, 1) := by decide +kernel
theorem dX5_addInstance_19 : decode cX5_addInstance 19 = .ok (.getfield 31, 3) := by decide +kernel
theorem dX5_addInstance_22 : decode cX5_addInstance 22 = .ok (.iload_n 1, 1) := by decide +kernel
theorem dX5_addInstance_23 : decode cX5_addInstance 23 = .ok (.iastore, 1) := by decide +kernel
theorem dX5_addInstance_24 : decode cX5_addInstance 24 = .ok (.aload_n 0, 1) := by decide +kernel
theorem dX5_addInstance_25 : decode cX5_addInstance 25 = .ok (.getfield 20, 3) := by decide +kernel
theorem dX5_addInstance_28 : decode cX5_addInstance 28 = .ok (.iconst 1, 1) := by decide +kernel
theorem dX5_addInstance_29 : decode cX5_addInstance 29 = .ok (.aaload, 1) := by decide +kernel
theorem dX5_addInstance_30 : decode cX5_addInstance 30 = .ok (.aload_n 0, 1) := by decide +kernel
theorem dX5_addInstance_31 : decode cX5_addInstance 31 = .ok (.getfield 31, 3) := by decide +kernel
theorem dX5_addInstance_34 : decode cX5_addInstance 34 = .ok (.iload_n 2, 1) := by decide +kernel
theorem dX5_addInstance_35 : decode cX5_addInstance 35 = .ok (.iastore, 1) := by decide +kernel
theorem dX5_addInstance_36 : decode cX5_addInstance 36 = .ok (.aload_n 0, 1) := by decide +kernel
theorem dX5_addInstance_37 : decode cX5_addInstance 37 = .ok (.getfield 23, 3) := by decide +kernel
theorem dX5_addInstance_40 : decode cX5_addInstance 40 = .ok (.aload_n 0, 1) := by decide +kernel
theorem dX5_addInstance_41 : decode cX5_addInstance 41 = .ok (.getfield 31, 3) := by decide +kernel
theorem dX5_addInstance_44 : decode cX5_addInstance 44 = .ok (.iload_n 3, 1) := by decide +kernel
theorem dX5_addInstance_45 : decode cX5_addInstance 45 = .ok (.bastore, 1) := by decide +kernel
theorem dX5_addInstance_46 : decode cX5_addInstance 46 = .ok (.aload_n 0, 1) := by decide +kernel
theorem dX5_addInstance_47 : decode cX5_addInstance 47 = .ok (.dup, 1) := by decide +kernel
theorem dX5_addInstance_48 : decode cX5_addInstance 48 = .ok (.getfield 31, 3) := by decide +kernel
theorem dX5_addInstance_51 : decode cX5_addInstance 51 = .ok (.iconst 1, 1) := by decide +kernel
theorem dX5_addInstance_52 : decode cX5_addInstance 52 = .ok (.iadd, 1) := by decide +kernel
theorem dX5_addInstance_53 : decode cX5_addInstance 53 = .ok (.putfield 31, 3) := by decide +kernel
theorem dX5_addInstance_56 : decode cX5_addInstance 56 = .ok (.aload_n 0, 1) := by decide +kernel
theorem dX5_addInstance_57 : decode cX5_addInstance 57 = .ok (.getfield 31, 3) := by decide +kernel
theorem dX5_addInstance_60 : decode cX5_addInstance 60 = .ok (.iconst 1, 1) := by decide +kernel
theorem dX5_addInstance_61 : decode cX5_addInstance 61 = .ok (.isub, 1) := by decide +kernel
theorem dX5_addInstance_62 : decode cX5_addInstance 62 = .ok (.ireturn, 1) := by decide +kernel
theorem dX5_hasSetting_0 : decode cX5_hasSetting 0 = .ok (.iload_n 1, 1) := by decide +kernel
theorem dX5_hasSetting_1 : decode cX5_hasSetting 1 = .ok (.ifCond .lt 15, 3) := by decide +kernel
theorem dX5_hasSetting_4 : decode cX5_hasSetting 4 = .ok (.iload_n 1, 1) := by decide +kernel
theorem dX5_hasSetting_5 : decode cX5_hasSetting 5 = .ok (.aload_n 0, 1) := by decide +kernel
theorem dX5_hasSetting_6 : decode cX5_hasSetting 6 = .ok (.getfield 27, 3) := by decide +kernel
theorem dX5_hasSetting_9 : decode cX5_hasSetting 9 = .ok (.if_icmp .ge 7, 3) := by decide +kernel
theorem dX5_hasSetting_12 : decode cX5_hasSetting 12 = .ok (.iconst 1, 1) := by decide +kernel
theorem dX5_hasSetting_13 : decode cX5_hasSetting 13 = .ok (.goto 4, 3) := by decide +kernel
theorem dX5_hasSetting_16 : decode cX5_hasSetting 16 = .ok (.iconst 0, 1) := by decide +kernel
theorem dX5_hasSetting_17 : decode cX5_hasSetting 17 = .ok (.ireturn, 1) := by decide +kernel
theorem dX5_hasInstance_0 : decode cX5_hasInstance 0 = .ok (.iload_n 1, 1) := by decide +kernel
theorem dX5_hasInstance_1 : decode cX5_hasInstance 1 = .ok (.ifCond .lt 15, 3) := by decide +kernel
theorem dX5_hasInstance_4 : decode cX5_hasInstance 4 = .ok (.iload_n 1, 1) := by decide +kernel
theorem dX5_hasInstance_5 : decode cX5_hasInstance 5 = .ok (.aload_n 0, 1) := by decide +kernel
theorem dX5_hasInstance_6 : decode cX5_hasInstance 6 = .ok (.getfield 31, 3) := by decide +kernel
theorem dX5_hasInstance_9 : decode cX5_hasInstance 9 = .ok (.if_icmp .ge 7, 3) := by decide +kernel
theorem dX5_hasInstance_12 : decode cX5_hasInstance 12 = .ok (.iconst 1, 1) := by decide +kernel
theorem dX5_hasInstance_13 : decode cX5_hasInstance 13 = .ok (.goto 4, 3) := by decide +kernel
theorem dX5_hasInstance_16 : decode cX5_hasInstance 16 = .ok (.iconst 0, 1) := by decide +kernel
theorem dX5_hasInstance_17 : decode cX5_hasInstance 17 = .ok (.ireturn, 1) := by decide +kernel
theorem dX5_isLearning_0 : decode cX5_isLearning 0 = .ok (.aload_n 0, 1) := by decide +kernel
theorem dX5_isLearning_1 : decode cX5_isLearning 1 = .ok (.iload_n 1, 1) := by decide +kernel
theorem dX5_isLearning_2 : decode cX5_isLearning 2 = .ok (.invokevirtual 40, 3) := by decide +kernel
theorem dX5_isLearning_5 : decode cX5_isLearning 5 = .ok (.ifCond .eq 16, 3) := by decide +kernel
theorem dX5_isLearning_8 : decode cX5_isLearning 8 = .ok (.aload_n 0, 1) := by decide +kernel
theorem dX5_isLearning_9 : decode cX5_isLearning 9 = .ok (.getfield 23, 3) := by decide +kernel
theorem dX5_isLearning_12 : decode cX5_isLearning 12 = .ok (.iload_n 1, 1) := by decide +kernel
theorem dX5_isLearning_13 : decode cX5_isLearning 13 = .ok (.baload, 1) := by decide +kernel
theorem dX5_isLearning_14 : decode cX5_isLearning 14 = .ok (.ifCond .eq 7, 3) := by decide +kernel
theorem dX5_isLearning_17 : decode cX5_isLearning 17 = .ok (.iconst 1, 1) := by decide +kernel
theorem dX5_isLearning_18 : decode cX5_isLearning 18 = .ok (.goto 4, 3) := by decide +kernel
theorem dX5_isLearning_21 : decode cX5_isLearning 21 = .ok (.iconst 0, 1) := by decide +kernel
theorem dX5_isLearning_22 : decode cX5_isLearning 22 = .ok (.ireturn, 1) := by decide +kernel
theorem dX5_costAt_0 : decode cX5_costAt 0 = .ok (.aload_n 0, 1) := by decide +kernel
theorem dX5_costAt_1 : decode cX5_costAt 1 = .ok (.iload_n 1, 1) := by decide +kernel
theorem dX5_costAt_2 : decode cX5_costAt 2 = .ok (.invokevirtual 44, 3) := by decide +kernel
theorem dX5_costAt_5 : decode cX5_costAt 5 = .ok (.ifCond .eq 22, 3) := by decide +kernel
theorem dX5_costAt_8 : decode cX5_costAt 8 = .ok (.aload_n 0, 1) := by decide +kernel
theorem dX5_costAt_9 : decode cX5_costAt 9 = .ok (.iload_n 2, 1) := by decide +kernel
theorem dX5_costAt_10 : decode cX5_costAt 10 = .ok (.invokevirtual 40, 3) := by decide +kernel
theorem dX5_costAt_13 : decode cX5_costAt 13 = .ok (.ifCond .eq 14, 3) := by decide +kernel
theorem dX5_costAt_16 : decode cX5_costAt 16 = .ok (.aload_n 0, 1) := by decide +kernel
theorem dX5_costAt_17 : decode cX5_costAt 17 = .ok (.getfield 11, 3) := by decide +kernel
theorem dX5_costAt_20 : decode cX5_costAt 20 = .ok (.iload_n 1, 1) := by decide +kernel
theorem dX5_costAt_21 : decode cX5_costAt 21 = .ok (.aaload, 1) := by decide +kernel
theorem dX5_costAt_22 : decode cX5_costAt 22 = .ok (.iload_n 2, 1) := by decide +kernel
theorem dX5_costAt_23 : decode cX5_costAt 23 = .ok (.iaload, 1) := by decide +kernel
theorem dX5_costAt_24 : decode cX5_costAt 24 = .ok (.goto 4, 3) := by decide +kernel
theorem dX5_costAt_27 : decode cX5_costAt 27 = .ok (.iconst (-1), 1) := by decide +kernel
theorem dX5_costAt_28 : decode cX5_costAt 28 = .ok (.ireturn, 1) := by decide +kernel
theorem dX5_tell_0 : decode cX5_tell 0 = .ok (.aload_n 0, 1) := by decide +kernel
theorem dX5_tell_1 : decode cX5_tell 1 = .ok (.iload_n 1, 1) := by decide +kernel
theorem dX5_tell_2 : decode cX5_tell 2 = .ok (.invokevirtual 44, 3) := by decide +kernel
theorem dX5_tell_5 : decode cX5_tell 5 = .ok (.ifCond .eq 11, 3) := by decide +kernel
theorem dX5_tell_8 : decode cX5_tell 8 = .ok (.aload_n 0, 1) := by decide +kernel
theorem dX5_tell_9 : decode cX5_tell 9 = .ok (.iload_n 2, 1) := by decide +kernel
theorem dX5_tell_10 : decode cX5_tell 10 = .ok (.invokevirtual 40, 3) := by decide +kernel
theorem dX5_tell_13 : decode cX5_tell 13 = .ok (.ifCond .ne 5, 3) := by decide +kernel
theorem dX5_tell_16 : decode cX5_tell 16 = .ok (.iconst (-1), 1) := by decide +kernel
theorem dX5_tell_17 : decode cX5_tell 17 = .ok (.ireturn, 1) := by decide +kernel
theorem dX5_tell_18 : decode cX5_tell 18 = .ok (.aload_n 0, 1) := by decide +kernel
theorem dX5_tell_19 : decode cX5_tell 19 = .ok (.getfield 11, 3) := by decide +kernel
theorem dX5_tell_22 : decode cX5_tell 22 = .ok (.iload_n 1, 1) := by decide +kernel
theorem dX5_tell_23 : decode cX5_tell 23 = .ok (.aaload, 1) := by decide +kernel
theorem dX5_tell_24 : decode cX5_tell 24 = .ok (.iload_n 2, 1) := by decide +kernel
theorem dX5_tell_25 : decode cX5_tell 25 = .ok (.iload_n 3, 1) := by decide +kernel
theorem dX5_tell_26 : decode cX5_tell 26 = .ok (.iastore, 1) := by decide +kernel
theorem dX5_tell_27 : decode cX5_tell 27 = .ok (.aload_n 0, 1) := by decide +kernel
theorem dX5_tell_28 : decode cX5_tell 28 = .ok (.getfield 16, 3) := by decide +kernel
theorem dX5_tell_31 : decode cX5_tell 31 = .ok (.iload_n 1, 1) := by decide +kernel
theorem dX5_tell_32 : decode cX5_tell 32 = .ok (.dup2, 1) := by decide +kernel
theorem dX5_tell_33 : decode cX5_tell 33 = .ok (.iaload, 1) := by decide +kernel
theorem dX5_tell_34 : decode cX5_tell 34 = .ok (.iconst 1, 1) := by decide +kernel
theorem dX5_tell_35 : decode cX5_tell 35 = .ok (.iadd, 1) := by decide +kernel
theorem dX5_tell_36 : decode cX5_tell 36 = .ok (.iastore, 1) := by decide +kernel
theorem dX5_tell_37 : decode cX5_tell 37 = .ok (.aload_n 0, 1) := by decide +kernel
theorem dX5_tell_38 : decode cX5_tell 38 = .ok (.getfield 16, 3) := by decide +kernel
theorem dX5_tell_41 : decode cX5_tell 41 = .ok (.iload_n 1, 1) := by decide +kernel
theorem dX5_tell_42 : decode cX5_tell 42 = .ok (.iaload, 1) := by decide +kernel
theorem dX5_tell_43 : decode cX5_tell 43 = .ok (.ireturn, 1) := by decide +kernel
theorem dX5_isWhole_0 : decode cX5_isWhole 0 = .ok (.aload_n 0, 1) := by decide +kernel
theorem dX5_isWhole_1 : decode cX5_isWhole 1 = .ok (.iload_n 1, 1) := by decide +kernel
theorem dX5_isWhole_2 : decode cX5_isWhole 2 = .ok (.invokevirtual 44, 3) := by decide +kernel
theorem dX5_isWhole_5 : decode cX5_isWhole 5 = .ok (.ifCond .eq 20, 3) := by decide +kernel
theorem dX5_isWhole_8 : decode cX5_isWhole 8 = .ok (.aload_n 0, 1) := by decide +kernel
theorem dX5_isWhole_9 : decode cX5_isWhole 9 = .ok (.getfield 16, 3) := by decide +kernel
theorem dX5_isWhole_12 : decode cX5_isWhole 12 = .ok (.iload_n 1, 1) := by decide +kernel
theorem dX5_isWhole_13 : decode cX5_isWhole 13 = .ok (.iaload, 1) := by decide +kernel
theorem dX5_isWhole_14 : decode cX5_isWhole 14 = .ok (.aload_n 0, 1) := by decide +kernel
theorem dX5_isWhole_15 : decode cX5_isWhole 15 = .ok (.getfield 31, 3) := by decide +kernel
theorem dX5_isWhole_18 : decode cX5_isWhole 18 = .ok (.if_icmp .ne 7, 3) := by decide +kernel
theorem dX5_isWhole_21 : decode cX5_isWhole 21 = .ok (.iconst 1, 1) := by decide +kernel
theorem dX5_isWhole_22 : decode cX5_isWhole 22 = .ok (.goto 4, 3) := by decide +kernel
theorem dX5_isWhole_25 : decode cX5_isWhole 25 = .ok (.iconst 0, 1) := by decide +kernel
theorem dX5_isWhole_26 : decode cX5_isWhole 26 = .ok (.ireturn, 1) := by decide +kernel
theorem dX5_countWhole_0 : decode cX5_countWhole 0 = .ok (.iconst 0, 1) := by decide +kernel
theorem dX5_countWhole_1 : decode cX5_countWhole 1 = .ok (.istore_n 1, 1) := by decide +kernel
theorem dX5_countWhole_2 : decode cX5_countWhole 2 = .ok (.iconst 0, 1) := by decide +kernel
theorem dX5_countWhole_3 : decode cX5_countWhole 3 = .ok (.istore_n 2, 1) := by decide +kernel
theorem dX5_countWhole_4 : decode cX5_countWhole 4 = .ok (.iload_n 2, 1) := by decide +kernel
theorem dX5_countWhole_5 : decode cX5_countWhole 5 = .ok (.aload_n 0, 1) := by decide +kernel
theorem dX5_countWhole_6 : decode cX5_countWhole 6 = .ok (.getfield 27, 3) := by decide +kernel
theorem dX5_countWhole_9 : decode cX5_countWhole 9 = .ok (.if_icmp .ge 20, 3) := by decide +kernel
theorem dX5_countWhole_12 : decode cX5_countWhole 12 = .ok (.aload_n 0, 1) := by decide +kernel
theorem dX5_countWhole_13 : decode cX5_countWhole 13 = .ok (.iload_n 2, 1) := by decide +kernel
theorem dX5_countWhole_14 : decode cX5_countWhole 14 = .ok (.invokevirtual 47, 3) := by decide +kernel
theorem dX5_countWhole_17 : decode cX5_countWhole 17 = .ok (.ifCond .eq 6, 3) := by decide +kernel
theorem dX5_countWhole_20 : decode cX5_countWhole 20 = .ok (.iinc 1 1, 3) := by decide +kernel
theorem dX5_countWhole_23 : decode cX5_countWhole 23 = .ok (.iinc 2 1, 3) := by decide +kernel
theorem dX5_countWhole_26 : decode cX5_countWhole 26 = .ok (.goto (-22), 3) := by decide +kernel
theorem dX5_countWhole_29 : decode cX5_countWhole 29 = .ok (.iload_n 1, 1) := by decide +kernel
theorem dX5_countWhole_30 : decode cX5_countWhole 30 = .ok (.ireturn, 1) := by decide +kernel
theorem dX5_featureAt_0 : decode cX5_featureAt 0 = .ok (.iload_n 1, 1) := by decide +kernel
theorem dX5_featureAt_1 : decode cX5_featureAt 1 = .ok (.iconst 0, 1) := by decide +kernel
theorem dX5_featureAt_2 : decode cX5_featureAt 2 = .ok (.iconst 1, 1) := by decide +kernel
theorem dX5_featureAt_3 : decode cX5_featureAt 3 = .ok (.invokestatic 50, 3) := by decide +kernel
theorem dX5_featureAt_6 : decode cX5_featureAt 6 = .ok (.ifCond .eq 22, 3) := by decide +kernel
theorem dX5_featureAt_9 : decode cX5_featureAt 9 = .ok (.aload_n 0, 1) := by decide +kernel
theorem dX5_featureAt_10 : decode cX5_featureAt 10 = .ok (.iload_n 2, 1) := by decide +kernel
theorem dX5_featureAt_11 : decode cX5_featureAt 11 = .ok (.invokevirtual 40, 3) := by decide +kernel
theorem dX5_featureAt_14 : decode cX5_featureAt 14 = .ok (.ifCond .eq 14, 3) := by decide +kernel
theorem dX5_featureAt_17 : decode cX5_featureAt 17 = .ok (.aload_n 0, 1) := by decide +kernel
theorem dX5_featureAt_18 : decode cX5_featureAt 18 = .ok (.getfield 20, 3) := by decide +kernel
theorem dX5_featureAt_21 : decode cX5_featureAt 21 = .ok (.iload_n 1, 1) := by decide +kernel
theorem dX5_featureAt_22 : decode cX5_featureAt 22 = .ok (.aaload, 1) := by decide +kernel
theorem dX5_featureAt_23 : decode cX5_featureAt 23 = .ok (.iload_n 2, 1) := by decide +kernel
theorem dX5_featureAt_24 : decode cX5_featureAt 24 = .ok (.iaload, 1) := by decide +kernel
theorem dX5_featureAt_25 : decode cX5_featureAt 25 = .ok (.goto 4, 3) := by decide +kernel
theorem dX5_featureAt_28 : decode cX5_featureAt 28 = .ok (.iconst 0, 1) := by decide +kernel
theorem dX5_featureAt_29 : decode cX5_featureAt 29 = .ok (.ireturn, 1) := by decide +kernel
theorem dX5_learningOnes_0 : decode cX5_learningOnes 0 = .ok (.iconst 0, 1) := by decide +kernel
theorem dX5_learningOnes_1 : decode cX5_learningOnes 1 = .ok (.istore_n 1, 1) := by decide +kernel
theorem dX5_learningOnes_2 : decode cX5_learningOnes 2 = .ok (.iconst 0, 1) := by decide +kernel
theorem dX5_learningOnes_3 : decode cX5_learningOnes 3 = .ok (.istore_n 2, 1) := by decide +kernel
theorem dX5_learningOnes_4 : decode cX5_learningOnes 4 = .ok (.iload_n 2, 1) := by decide +kernel
theorem dX5_learningOnes_5 : decode cX5_learningOnes 5 = .ok (.aload_n 0, 1) := by decide +kernel
theorem dX5_learningOnes_6 : decode cX5_learningOnes 6 = .ok (.getfield 31, 3) := by decide +kernel
theorem dX5_learningOnes_9 : decode cX5_learningOnes 9 = .ok (.if_icmp .ge 21, 3) := by decide +kernel
theorem dX5_learningOnes_12 : decode cX5_learningOnes 12 = .ok (.aload_n 0, 1) := by decide +kernel
theorem dX5_learningOnes_13 : decode cX5_learningOnes 13 = .ok (.getfield 23, 3) := by decide +kernel
theorem dX5_learningOnes_16 : decode cX5_learningOnes 16 = .ok (.iload_n 2, 1) := by decide +kernel
theorem dX5_learningOnes_17 : decode cX5_learningOnes 17 = .ok (.baload, 1) := by decide +kernel
theorem dX5_learningOnes_18 : decode cX5_learningOnes 18 = .ok (.ifCond .eq 6, 3) := by decide +kernel
theorem dX5_learningOnes_21 : decode cX5_learningOnes 21 = .ok (.iinc 1 1, 3) := by decide +kernel
theorem dX5_learningOnes_24 : decode cX5_learningOnes 24 = .ok (.iinc 2 1, 3) := by decide +kernel
theorem dX5_learningOnes_27 : decode cX5_learningOnes 27 = .ok (.goto (-23), 3) := by decide +kernel
theorem dX5_learningOnes_30 : decode cX5_learningOnes 30 = .ok (.iload_n 1, 1) := by decide +kernel
theorem dX5_learningOnes_31 : decode cX5_learningOnes 31 = .ok (.newarray .int, 2) := by decide +kernel
theorem dX5_learningOnes_33 : decode cX5_learningOnes 33 = .ok (.astore_n 2, 1) := by decide +kernel
theorem dX5_learningOnes_34 : decode cX5_learningOnes 34 = .ok (.iconst 0, 1) := by decide +kernel
theorem dX5_learningOnes_35 : decode cX5_learningOnes 35 = .ok (.istore_n 3, 1) := by decide +kernel
theorem dX5_learningOnes_36 : decode cX5_learningOnes 36 = .ok (.iconst 0, 1) := by decide +kernel
theorem dX5_learningOnes_37 : decode cX5_learningOnes 37 = .ok (.istore 4, 2) := by decide +kernel
theorem dX5_learningOnes_39 : decode cX5_learningOnes 39 = .ok (.iload 4, 2) := by decide +kernel
theorem dX5_learningOnes_41 : decode cX5_learningOnes 41 = .ok (.aload_n 0, 1) := by decide +kernel
theorem dX5_learningOnes_42 : decode cX5_learningOnes 42 = .ok (.getfield 31, 3) := by decide +kernel
theorem dX5_learningOnes_45 : decode cX5_learningOnes 45 = .ok (.if_icmp .ge 32, 3) := by decide +kernel
theorem dX5_learningOnes_48 : decode cX5_learningOnes 48 = .ok (.iload_n 3, 1) := by decide +kernel
theorem dX5_learningOnes_49 : decode cX5_learningOnes 49 = .ok (.iload_n 1, 1) := by decide +kernel
theorem dX5_learningOnes_50 : decode cX5_learningOnes 50 = .ok (.if_icmp .ge 27, 3) := by decide +kernel
theorem dX5_learningOnes_53 : decode cX5_learningOnes 53 = .ok (.aload_n 0, 1) := by decide +kernel
theorem dX5_learningOnes_54 : decode cX5_learningOnes 54 = .ok (.getfield 23, 3) := by decide +kernel
theorem dX5_learningOnes_57 : decode cX5_learningOnes 57 = .ok (.iload 4, 2) := by decide +kernel
theorem dX5_learningOnes_59 : decode cX5_learningOnes 59 = .ok (.baload, 1) := by decide +kernel
theorem dX5_learningOnes_60 : decode cX5_learningOnes 60 = .ok (.ifCond .eq 11, 3) := by decide +kernel
theorem dX5_learningOnes_63 : decode cX5_learningOnes 63 = .ok (.aload_n 2, 1) := by decide +kernel
theorem dX5_learningOnes_64 : decode cX5_learningOnes 64 = .ok (.iload_n 3, 1) := by decide +kernel
theorem dX5_learningOnes_65 : decode cX5_learningOnes 65 = .ok (.iload 4, 2) := by decide +kernel
theorem dX5_learningOnes_67 : decode cX5_learningOnes 67 = .ok (.iastore, 1) := by decide +kernel
theorem dX5_learningOnes_68 : decode cX5_learningOnes 68 = .ok (.iinc 3 1, 3) := by decide +kernel
theorem dX5_learningOnes_71 : decode cX5_learningOnes 71 = .ok (.iinc 4 1, 3) := by decide +kernel
theorem dX5_learningOnes_74 : decode cX5_learningOnes 74 = .ok (.goto (-35), 3) := by decide +kernel
theorem dX5_learningOnes_77 : decode cX5_learningOnes 77 = .ok (.aload_n 2, 1) := by decide +kernel
theorem dX5_learningOnes_78 : decode cX5_learningOnes 78 = .ok (.areturn, 1) := by decide +kernel
theorem dX5_nearestLearning_0 : decode cX5_nearestLearning 0 = .ok (.iconst (-1), 1) := by decide +kernel
theorem dX5_nearestLearning_1 : decode cX5_nearestLearning 1 = .ok (.istore_n 2, 1) := by decide +kernel
theorem dX5_nearestLearning_2 : decode cX5_nearestLearning 2 = .ok (.ldc 56, 2) := by decide +kernel
theorem dX5_nearestLearning_4 : decode cX5_nearestLearning 4 = .ok (.istore_n 3, 1) := by decide +kernel
theorem dX5_nearestLearning_5 : decode cX5_nearestLearning 5 = .ok (.iconst 0, 1) := by decide +kernel
theorem dX5_nearestLearning_6 : decode cX5_nearestLearning 6 = .ok (.istore 4, 2) := by decide +kernel
theorem dX5_nearestLearning_8 : decode cX5_nearestLearning 8 = .ok (.iload 4, 2) := by decide +kernel
theorem dX5_nearestLearning_10 : decode cX5_nearestLearning 10 = .ok (.aload_n 0, 1) := by decide +kernel
theorem dX5_nearestLearning_11 : decode cX5_nearestLearning 11 = .ok (.getfield 31, 3) := by decide +kernel
theorem dX5_nearestLearning_14 : decode cX5_nearestLearning 14 = .ok (.if_icmp .ge 47, 3) := by decide +kernel
theorem dX5_nearestLearning_17 : decode cX5_nearestLearning 17 = .ok (.iload 4, 2) := by decide +kernel
theorem dX5_nearestLearning_19 : decode cX5_nearestLearning 19 = .ok (.iload_n 1, 1) := by decide +kernel
theorem dX5_nearestLearning_20 : decode cX5_nearestLearning 20 = .ok (.if_icmp .eq 35, 3) := by decide +kernel
theorem dX5_nearestLearning_23 : decode cX5_nearestLearning 23 = .ok (.aload_n 0, 1) := by decide +kernel
theorem dX5_nearestLearning_24 : decode cX5_nearestLearning 24 = .ok (.getfield 23, 3) := by decide +kernel
theorem dX5_nearestLearning_27 : decode cX5_nearestLearning 27 = .ok (.iload 4, 2) := by decide +kernel
theorem dX5_nearestLearning_29 : decode cX5_nearestLearning 29 = .ok (.baload, 1) := by decide +kernel
theorem dX5_nearestLearning_30 : decode cX5_nearestLearning 30 = .ok (.ifCond .eq 25, 3) := by decide +kernel
theorem dX5_nearestLearning_33 : decode cX5_nearestLearning 33 = .ok (.aload_n 0, 1) := by decide +kernel
theorem dX5_nearestLearning_34 : decode cX5_nearestLearning 34 = .ok (.iload 4, 2) := by decide +kernel
theorem dX5_nearestLearning_36 : decode cX5_nearestLearning 36 = .ok (.iload_n 1, 1) := by decide +kernel
theorem dX5_nearestLearning_37 : decode cX5_nearestLearning 37 = .ok (.invokevirtual 57, 3) := by decide +kernel
theorem dX5_nearestLearning_40 : decode cX5_nearestLearning 40 = .ok (.iload_n 3, 1) := by decide +kernel
theorem dX5_nearestLearning_41 : decode cX5_nearestLearning 41 = .ok (.if_icmp .ge 14, 3) := by decide +kernel
theorem dX5_nearestLearning_44 : decode cX5_nearestLearning 44 = .ok (.iload 4, 2) := by decide +kernel
theorem dX5_nearestLearning_46 : decode cX5_nearestLearning 46 = .ok (.istore_n 2, 1) := by decide +kernel
theorem dX5_nearestLearning_47 : decode cX5_nearestLearning 47 = .ok (.aload_n 0, 1) := by decide +kernel
theorem dX5_nearestLearning_48 : decode cX5_nearestLearning 48 = .ok (.iload 4, 2) := by decide +kernel
theorem dX5_nearestLearning_50 : decode cX5_nearestLearning 50 = .ok (.iload_n 1, 1) := by decide +kernel
theorem dX5_nearestLearning_51 : decode cX5_nearestLearning 51 = .ok (.invokevirtual 57, 3) := by decide +kernel
theorem dX5_nearestLearning_54 : decode cX5_nearestLearning 54 = .ok (.istore_n 3, 1) := by decide +kernel
theorem dX5_nearestLearning_55 : decode cX5_nearestLearning 55 = .ok (.iinc 4 1, 3) := by decide +kernel
theorem dX5_nearestLearning_58 : decode cX5_nearestLearning 58 = .ok (.goto (-50), 3) := by decide +kernel
theorem dX5_nearestLearning_61 : decode cX5_nearestLearning 61 = .ok (.iload_n 2, 1) := by decide +kernel
theorem dX5_nearestLearning_62 : decode cX5_nearestLearning 62 = .ok (.ireturn, 1) := by decide +kernel
theorem dX5_distance_0 : decode cX5_distance 0 = .ok (.aload_n 0, 1) := by decide +kernel
theorem dX5_distance_1 : decode cX5_distance 1 = .ok (.iconst 0, 1) := by decide +kernel
theorem dX5_distance_2 : decode cX5_distance 2 = .ok (.iload_n 1, 1) := by decide +kernel
theorem dX5_distance_3 : decode cX5_distance 3 = .ok (.invokevirtual 61, 3) := by decide +kernel
theorem dX5_distance_6 : decode cX5_distance 6 = .ok (.aload_n 0, 1) := by decide +kernel
theorem dX5_distance_7 : decode cX5_distance 7 = .ok (.iconst 0, 1) := by decide +kernel
theorem dX5_distance_8 : decode cX5_distance 8 = .ok (.iload_n 2, 1) := by decide +kernel
theorem dX5_distance_9 : decode cX5_distance 9 = .ok (.invokevirtual 61, 3) := by decide +kernel
theorem dX5_distance_12 : decode cX5_distance 12 = .ok (.isub, 1) := by decide +kernel
theorem dX5_distance_13 : decode cX5_distance 13 = .ok (.invokestatic 64, 3) := by decide +kernel
theorem dX5_distance_16 : decode cX5_distance 16 = .ok (.aload_n 0, 1) := by decide +kernel
theorem dX5_distance_17 : decode cX5_distance 17 = .ok (.iconst 1, 1) := by decide +kernel
theorem dX5_distance_18 : decode cX5_distance 18 = .ok (.iload_n 1, 1) := by decide +kernel
theorem dX5_distance_19 : decode cX5_distance 19 = .ok (.invokevirtual 61, 3) := by decide +kernel
theorem dX5_distance_22 : decode cX5_distance 22 = .ok (.aload_n 0, 1) := by decide +kernel
theorem dX5_distance_23 : decode cX5_distance 23 = .ok (.iconst 1, 1) := by decide +kernel
theorem dX5_distance_24 : decode cX5_distance 24 = .ok (.iload_n 2, 1) := by decide +kernel
theorem dX5_distance_25 : decode cX5_distance 25 = .ok (.invokevirtual 61, 3) := by decide +kernel
theorem dX5_distance_28 : decode cX5_distance 28 = .ok (.isub, 1) := by decide +kernel
theorem dX5_distance_29 : decode cX5_distance 29 = .ok (.invokestatic 64, 3) := by decide +kernel
theorem dX5_distance_32 : decode cX5_distance 32 = .ok (.iadd, 1) := by decide +kernel
theorem dX5_distance_33 : decode cX5_distance 33 = .ok (.ireturn, 1) := by decide +kernel
theorem dX5_bestOn_0 : decode cX5_bestOn 0 = .ok (.iconst (-1), 1) := by decide +kernel
theorem dX5_bestOn_1 : decode cX5_bestOn 1 = .ok (.istore_n 2, 1) := by decide +kernel
theorem dX5_bestOn_2 : decode cX5_bestOn 2 = .ok (.ldc 56, 2) := by decide +kernel
theorem dX5_bestOn_4 : decode cX5_bestOn 4 = .ok (.istore_n 3, 1) := by decide +kernel
theorem dX5_bestOn_5 : decode cX5_bestOn 5 = .ok (.iconst 0, 1) := by decide +kernel
theorem dX5_bestOn_6 : decode cX5_bestOn 6 = .ok (.istore 4, 2) := by decide +kernel
theorem dX5_bestOn_8 : decode cX5_bestOn 8 = .ok (.iload 4, 2) := by decide +kernel
theorem dX5_bestOn_10 : decode cX5_bestOn 10 = .ok (.aload_n 0, 1) := by decide +kernel
theorem dX5_bestOn_11 : decode cX5_bestOn 11 = .ok (.getfield 27, 3) := by decide +kernel
theorem dX5_bestOn_14 : decode cX5_bestOn 14 = .ok (.if_icmp .ge 52, 3) := by decide +kernel
theorem dX5_bestOn_17 : decode cX5_bestOn 17 = .ok (.aload_n 0, 1) := by decide +kernel
theorem dX5_bestOn_18 : decode cX5_bestOn 18 = .ok (.iload_n 1, 1) := by decide +kernel
theorem dX5_bestOn_19 : decode cX5_bestOn 19 = .ok (.invokevirtual 40, 3) := by decide +kernel
theorem dX5_bestOn_22 : decode cX5_bestOn 22 = .ok (.ifCond .eq 44, 3) := by decide +kernel
theorem dX5_bestOn_25 : decode cX5_bestOn 25 = .ok (.aload_n 0, 1) := by decide +kernel
theorem dX5_bestOn_26 : decode cX5_bestOn 26 = .ok (.iload 4, 2) := by decide +kernel
theorem dX5_bestOn_28 : decode cX5_bestOn 28 = .ok (.invokevirtual 47, 3) := by decide +kernel
theorem dX5_bestOn_31 : decode cX5_bestOn 31 = .ok (.ifCond .eq 29, 3) := by decide +kernel
theorem dX5_bestOn_34 : decode cX5_bestOn 34 = .ok (.aload_n 0, 1) := by decide +kernel
theorem dX5_bestOn_35 : decode cX5_bestOn 35 = .ok (.getfield 11, 3) := by decide +kernel
theorem dX5_bestOn_38 : decode cX5_bestOn 38 = .ok (.iload 4, 2) := by decide +kernel
theorem dX5_bestOn_40 : decode cX5_bestOn 40 = .ok (.aaload, 1) := by decide +kernel
theorem dX5_bestOn_41 : decode cX5_bestOn 41 = .ok (.iload_n 1, 1) := by decide +kernel
theorem dX5_bestOn_42 : decode cX5_bestOn 42 = .ok (.iaload, 1) := by decide +kernel
theorem dX5_bestOn_43 : decode cX5_bestOn 43 = .ok (.iload_n 3, 1) := by decide +kernel
theorem dX5_bestOn_44 : decode cX5_bestOn 44 = .ok (.if_icmp .ge 16, 3) := by decide +kernel
theorem dX5_bestOn_47 : decode cX5_bestOn 47 = .ok (.iload 4, 2) := by decide +kernel
theorem dX5_bestOn_49 : decode cX5_bestOn 49 = .ok (.istore_n 2, 1) := by decide +kernel
theorem dX5_bestOn_50 : decode cX5_bestOn 50 = .ok (.aload_n 0, 1) := by decide +kernel
theorem dX5_bestOn_51 : decode cX5_bestOn 51 = .ok (.getfield 11, 3) := by decide +kernel
theorem dX5_bestOn_54 : decode cX5_bestOn 54 = .ok (.iload 4, 2) := by decide +kernel
theorem dX5_bestOn_56 : decode cX5_bestOn 56 = .ok (.aaload, 1) := by decide +kernel
theorem dX5_bestOn_57 : decode cX5_bestOn 57 = .ok (.iload_n 1, 1) := by decide +kernel
theorem dX5_bestOn_58 : decode cX5_bestOn 58 = .ok (.iaload, 1) := by decide +kernel
theorem dX5_bestOn_59 : decode cX5_bestOn 59 = .ok (.istore_n 3, 1) := by decide +kernel
theorem dX5_bestOn_60 : decode cX5_bestOn 60 = .ok (.iinc 4 1, 3) := by decide +kernel
theorem dX5_bestOn_63 : decode cX5_bestOn 63 = .ok (.goto (-55), 3) := by decide +kernel
theorem dX5_bestOn_66 : decode cX5_bestOn 66 = .ok (.iload_n 2, 1) := by decide +kernel
theorem dX5_bestOn_67 : decode cX5_bestOn 67 = .ok (.ireturn, 1) := by decide +kernel
end
section
theorem dX6_init_0 : decode cX6_init 0 = .ok (.aload_n 0, 1) := by decide +kernel
theorem dX6_init_1 : decode cX6_init 1 = .ok (.invokespecial 3, 3) := by decide +kernel
theorem dX6_init_4 : decode cX6_init 4 = .ok (.aload_n 0, 1) := by decide +kernel
theorem dX6_init_5 : decode cX6_init 5 = .ok (.new 9, 3) := by decide +kernel
theorem dX6_init_8 : decode cX6_init 8 = .ok (.dup, 1) := by decide +kernel
theorem dX6_init_9 : decode cX6_init 9 = .ok (.invokespecial 11, 3) := by decide +kernel
theorem dX6_init_12 : decode cX6_init 12 = .ok (.putfield 12, 3) := by decide +kernel
theorem dX6_init_15 : decode cX6_init 15 = .ok (.aload_n 0, 1) := by decide +kernel
theorem dX6_init_16 : decode cX6_init 16 = .ok (.new 18, 3) := by decide +kernel
theorem dX6_init_19 : decode cX6_init 19 = .ok (.dup, 1) := by decide +kernel
theorem dX6_init_20 : decode cX6_init 20 = .ok (.invokespecial 20, 3) := by decide +kernel
theorem dX6_init_23 : decode cX6_init 23 = .ok (.putfield 21, 3) := by decide +kernel
theorem dX6_init_26 : decode cX6_init 26 = .ok (.aload_n 0, 1) := by decide +kernel
theorem dX6_init_27 : decode cX6_init 27 = .ok (.new 25, 3) := by decide +kernel
theorem dX6_init_30 : decode cX6_init 30 = .ok (.dup, 1) := by decide +kernel
theorem dX6_init_31 : decode cX6_init 31 = .ok (.invokespecial 27, 3) := by decide +kernel
theorem dX6_init_34 : decode cX6_init 34 = .ok (.putfield 28, 3) := by decide +kernel
theorem dX6_init_37 : decode cX6_init 37 = .ok (.aload_n 0, 1) := by decide +kernel
theorem dX6_init_38 : decode cX6_init 38 = .ok (.new 32, 3) := by decide +kernel
theorem dX6_init_41 : decode cX6_init 41 = .ok (.dup, 1) := by decide +kernel
theorem dX6_init_42 : decode cX6_init 42 = .ok (.invokespecial 34, 3) := by decide +kernel
theorem dX6_init_45 : decode cX6_init 45 = .ok (.putfield 35, 3) := by decide +kernel
theorem dX6_init_48 : decode cX6_init 48 = .ok (.aload_n 0, 1) := by decide +kernel
theorem dX6_init_49 : decode cX6_init 49 = .ok (.aconst_null, 1) := by decide +kernel
theorem dX6_init_50 : decode cX6_init 50 = .ok (.putfield 39, 3) := by decide +kernel
theorem dX6_init_53 : decode cX6_init 53 = .ok (.return_, 1) := by decide +kernel
theorem dX6_setting_0 : decode cX6_setting 0 = .ok (.aload_n 0, 1) := by decide +kernel
theorem dX6_setting_1 : decode cX6_setting 1 = .ok (.getfield 12, 3) := by decide +kernel
theorem dX6_setting_4 : decode cX6_setting 4 = .ok (.invokevirtual 43, 3) := by decide +kernel
theorem dX6_setting_7 : decode cX6_setting 7 = .ok (.ireturn, 1) := by decide +kernel
theorem dX6_instance_0 : decode cX6_instance 0 = .ok (.iload_n 1, 1) := by decide +kernel
theorem dX6_instance_1 : decode cX6_instance 1 = .ok (.iconst 0, 1) := by decide +kernel
theorem dX6_instance_2 : decode cX6_instance 2 = .ok (.bipush 100, 2) := by decide +kernel
theorem dX6_instance_4 : decode cX6_instance 4 = .ok (.invokestatic 47, 3) := by decide +kernel
theorem dX6_instance_7 : decode cX6_instance 7 = .ok (.ifCond .eq 13, 3) := by decide +kernel
theorem dX6_instance_10 : decode cX6_instance 10 = .ok (.iload_n 2, 1) := by decide +kernel
theorem dX6_instance_11 : decode cX6_instance 11 = .ok (.iconst 0, 1) := by decide +kernel
theorem dX6_instance_12 : decode cX6_instance 12 = .ok (.bipush 100, 2) := by decide +kernel
theorem dX6_instance_14 : decode cX6_instance 14 = .ok (.invokestatic 47, 3) := by decide +kernel
theorem dX6_instance_17 : decode cX6_instance 17 = .ok (.ifCond .ne 6, 3) := by decide +kernel
theorem dX6_instance_20 : decode cX6_instance 20 = .ok (.bipush (-2), 2) := by decide +kernel
theorem dX6_instance_22 : decode cX6_instance 22 = .ok (.ireturn, 1) := by decide +kernel
theorem dX6_instance_23 : decode cX6_instance 23 = .ok (.aload_n 0, 1) := by decide +kernel
theorem dX6_instance_24 : decode cX6_instance 24 = .ok (.getfield 12, 3) := by decide +kernel
theorem dX6_instance_27 : decode cX6_instance 27 = .ok (.iload_n 1, 1) := by decide +kernel
theorem dX6_instance_28 : decode cX6_instance 28 = .ok (.iload_n 2, 1) := by decide +kernel
theorem dX6_instance_29 : decode cX6_instance 29 = .ok (.iload_n 3, 1) := by decide +kernel
theorem dX6_instance_30 : decode cX6_instance 30 = .ok (.ifCond .ne 7, 3) := by decide +kernel
theorem dX6_instance_33 : decode cX6_instance 33 = .ok (.iconst 1, 1) := by decide +kernel
theorem dX6_instance_34 : decode cX6_instance 34 = .ok (.goto 4, 3) := by decide +kernel
theorem dX6_instance_37 : decode cX6_instance 37 = .ok (.iconst 0, 1) := by decide +kernel
theorem dX6_instance_38 : decode cX6_instance 38 = .ok (.invokevirtual 51, 3) := by decide +kernel
theorem dX6_instance_41 : decode cX6_instance 41 = .ok (.ireturn, 1) := by decide +kernel
theorem dX6_cost_0 : decode cX6_cost 0 = .ok (.aload_n 0, 1) := by decide +kernel
theorem dX6_cost_1 : decode cX6_cost 1 = .ok (.getfield 12, 3) := by decide +kernel
theorem dX6_cost_4 : decode cX6_cost 4 = .ok (.iload_n 1, 1) := by decide +kernel
theorem dX6_cost_5 : decode cX6_cost 5 = .ok (.invokevirtual 55, 3) := by decide +kernel
theorem dX6_cost_8 : decode cX6_cost 8 = .ok (.ifCond .eq 14, 3) := by decide +kernel
theorem dX6_cost_11 : decode cX6_cost 11 = .ok (.aload_n 0, 1) := by decide +kernel
theorem dX6_cost_12 : decode cX6_cost 12 = .ok (.getfield 12, 3) := by decide +kernel
theorem dX6_cost_15 : decode cX6_cost 15 = .ok (.iload_n 2, 1) := by decide +kernel
theorem dX6_cost_16 : decode cX6_cost 16 = .ok (.invokevirtual 59, 3) := by decide +kernel
theorem dX6_cost_19 : decode cX6_cost 19 = .ok (.ifCond .ne 5, 3) := by decide +kernel
theorem dX6_cost_22 : decode cX6_cost 22 = .ok (.iconst (-1), 1) := by decide +kernel
theorem dX6_cost_23 : decode cX6_cost 23 = .ok (.ireturn, 1) := by decide +kernel
theorem dX6_cost_24 : decode cX6_cost 24 = .ok (.iload_n 3, 1) := by decide +kernel
theorem dX6_cost_25 : decode cX6_cost 25 = .ok (.iconst (-1), 1) := by decide +kernel
theorem dX6_cost_26 : decode cX6_cost 26 = .ok (.if_icmp .eq 16, 3) := by decide +kernel
theorem dX6_cost_29 : decode cX6_cost 29 = .ok (.iload_n 3, 1) := by decide +kernel
theorem dX6_cost_30 : decode cX6_cost 30 = .ok (.iconst 0, 1) := by decide +kernel
theorem dX6_cost_31 : decode cX6_cost 31 = .ok (.ldc 62, 2) := by decide +kernel
theorem dX6_cost_33 : decode cX6_cost 33 = .ok (.invokestatic 47, 3) := by decide +kernel
theorem dX6_cost_36 : decode cX6_cost 36 = .ok (.ifCond .ne 6, 3) := by decide +kernel
theorem dX6_cost_39 : decode cX6_cost 39 = .ok (.bipush (-2), 2) := by decide +kernel
theorem dX6_cost_41 : decode cX6_cost 41 = .ok (.ireturn, 1) := by decide +kernel
theorem dX6_cost_42 : decode cX6_cost 42 = .ok (.aload_n 0, 1) := by decide +kernel
theorem dX6_cost_43 : decode cX6_cost 43 = .ok (.getfield 12, 3) := by decide +kernel
theorem dX6_cost_46 : decode cX6_cost 46 = .ok (.iload_n 1, 1) := by decide +kernel
theorem dX6_cost_47 : decode cX6_cost 47 = .ok (.iload_n 2, 1) := by decide +kernel
theorem dX6_cost_48 : decode cX6_cost 48 = .ok (.invokevirtual 63, 3) := by decide +kernel
theorem dX6_cost_51 : decode cX6_cost 51 = .ok (.iconst (-1), 1) := by decide +kernel
theorem dX6_cost_52 : decode cX6_cost 52 = .ok (.if_icmp .eq 6, 3) := by decide +kernel
theorem dX6_cost_55 : decode cX6_cost 55 = .ok (.bipush (-3), 2) := by decide +kernel
theorem dX6_cost_57 : decode cX6_cost 57 = .ok (.ireturn, 1) := by decide +kernel
theorem dX6_cost_58 : decode cX6_cost 58 = .ok (.aload_n 0, 1) := by decide +kernel
theorem dX6_cost_59 : decode cX6_cost 59 = .ok (.getfield 12, 3) := by decide +kernel
theorem dX6_cost_62 : decode cX6_cost 62 = .ok (.iload_n 1, 1) := by decide +kernel
theorem dX6_cost_63 : decode cX6_cost 63 = .ok (.iload_n 2, 1) := by decide +kernel
theorem dX6_cost_64 : decode cX6_cost 64 = .ok (.iload_n 3, 1) := by decide +kernel
theorem dX6_cost_65 : decode cX6_cost 65 = .ok (.iconst (-1), 1) := by decide +kernel
theorem dX6_cost_66 : decode cX6_cost 66 = .ok (.if_icmp .ne 8, 3) := by decide +kernel
theorem dX6_cost_69 : decode cX6_cost 69 = .ok (.ldc 67, 2) := by decide +kernel
theorem dX6_cost_71 : decode cX6_cost 71 = .ok (.goto 4, 3) := by decide +kernel
theorem dX6_cost_74 : decode cX6_cost 74 = .ok (.iload_n 3, 1) := by decide +kernel
theorem dX6_cost_75 : decode cX6_cost 75 = .ok (.invokevirtual 68, 3) := by decide +kernel
theorem dX6_cost_78 : decode cX6_cost 78 = .ok (.ireturn, 1) := by decide +kernel
theorem dX6_costOf_0 : decode cX6_costOf 0 = .ok (.aload_n 0, 1) := by decide +kernel
theorem dX6_costOf_1 : decode cX6_costOf 1 = .ok (.getfield 12, 3) := by decide +kernel
theorem dX6_costOf_4 : decode cX6_costOf 4 = .ok (.iload_n 1, 1) := by decide +kernel
theorem dX6_costOf_5 : decode cX6_costOf 5 = .ok (.invokevirtual 55, 3) := by decide +kernel
theorem dX6_costOf_8 : decode cX6_costOf 8 = .ok (.ifCond .eq 14, 3) := by decide +kernel
theorem dX6_costOf_11 : decode cX6_costOf 11 = .ok (.aload_n 0, 1) := by decide +kernel
theorem dX6_costOf_12 : decode cX6_costOf 12 = .ok (.getfield 12, 3) := by decide +kernel
theorem dX6_costOf_15 : decode cX6_costOf 15 = .ok (.iload_n 2, 1) := by decide +kernel
theorem dX6_costOf_16 : decode cX6_costOf 16 = .ok (.invokevirtual 59, 3) := by decide +kernel
theorem dX6_costOf_19 : decode cX6_costOf 19 = .ok (.ifCond .ne 5, 3) := by decide +kernel
theorem dX6_costOf_22 : decode cX6_costOf 22 = .ok (.iconst (-1), 1) := by decide +kernel
theorem dX6_costOf_23 : decode cX6_costOf 23 = .ok (.ireturn, 1) := by decide +kernel
theorem dX6_costOf_24 : decode cX6_costOf 24 = .ok (.aload_n 0, 1) := by decide +kernel
theorem dX6_costOf_25 : decode cX6_costOf 25 = .ok (.getfield 12, 3) := by decide +kernel
theorem dX6_costOf_28 : decode cX6_costOf 28 = .ok (.iload_n 1, 1) := by decide +kernel
theorem dX6_costOf_29 : decode cX6_costOf 29 = .ok (.iload_n 2, 1) := by decide +kernel
theorem dX6_costOf_30 : decode cX6_costOf 30 = .ok (.invokevirtual 63, 3) := by decide +kernel
theorem dX6_costOf_33 : decode cX6_costOf 33 = .ok (.istore_n 3, 1) := by decide +kernel
theorem dX6_costOf_34 : decode cX6_costOf 34 = .ok (.iload_n 3, 1) := by decide +kernel
theorem dX6_costOf_35 : decode cX6_costOf 35 = .ok (.iconst (-1), 1) := by decide +kernel
theorem dX6_costOf_36 : decode cX6_costOf 36 = .ok (.if_icmp .ne 8, 3) := by decide +kernel
theorem dX6_costOf_39 : decode cX6_costOf 39 = .ok (.bipush (-3), 2) := by decide +kernel
theorem dX6_costOf_41 : decode cX6_costOf 41 = .ok (.goto 4, 3) := by decide +kernel
theorem dX6_costOf_44 : decode cX6_costOf 44 = .ok (.iload_n 3, 1) := by decide +kernel
theorem dX6_costOf_45 : decode cX6_costOf 45 = .ok (.ireturn, 1) := by decide +kernel
theorem dX6_race_0 : decode cX6_race 0 = .ok (.new 72, 3) := by decide +kernel
theorem dX6_race_3 : decode cX6_race 3 = .ok (.dup, 1) := by decide +kernel
theorem dX6_race_4 : decode cX6_race 4 = .ok (.iload_n 1, 1) := by decide +kernel
theorem dX6_race_5 : decode cX6_race 5 = .ok (.iload_n 2, 1) := by decide +kernel
theorem dX6_race_6 : decode cX6_race 6 = .ok (.iload_n 3, 1) := by decide +kernel
theorem dX6_race_7 : decode cX6_race 7 = .ok (.iload 4, 2) := by decide +kernel
theorem dX6_race_9 : decode cX6_race 9 = .ok (.iload 5, 2) := by decide +kernel
theorem dX6_race_11 : decode cX6_race 11 = .ok (.iload 6, 2) := by decide +kernel
theorem dX6_race_13 : decode cX6_race 13 = .ok (.invokespecial 74, 3) := by decide +kernel
theorem dX6_race_16 : decode cX6_race 16 = .ok (.astore 8, 2) := by decide +kernel
theorem dX6_race_18 : decode cX6_race 18 = .ok (.aload 8, 2) := by decide +kernel
theorem dX6_race_20 : decode cX6_race 20 = .ok (.invokevirtual 77, 3) := by decide +kernel
theorem dX6_race_23 : decode cX6_race 23 = .ok (.ifCond .ne 6, 3) := by decide +kernel
theorem dX6_race_26 : decode cX6_race 26 = .ok (.bipush (-2), 2) := by decide +kernel
theorem dX6_race_28 : decode cX6_race 28 = .ok (.ireturn, 1) := by decide +kernel
theorem dX6_race_29 : decode cX6_race 29 = .ok (.aload_n 0, 1) := by decide +kernel
theorem dX6_race_30 : decode cX6_race 30 = .ok (.getfield 12, 3) := by decide +kernel
theorem dX6_race_33 : decode cX6_race 33 = .ok (.getfield 81, 3) := by decide +kernel
theorem dX6_race_36 : decode cX6_race 36 = .ok (.ifCond .ne 6, 3) := by decide +kernel
theorem dX6_race_39 : decode cX6_race 39 = .ok (.bipush (-3), 2) := by decide +kernel
theorem dX6_race_41 : decode cX6_race 41 = .ok (.ireturn, 1) := by decide +kernel
theorem dX6_race_42 : decode cX6_race 42 = .ok (.new 85, 3) := by decide +kernel
theorem dX6_race_45 : decode cX6_race 45 = .ok (.dup, 1) := by decide +kernel
theorem dX6_race_46 : decode cX6_race 46 = .ok (.aload_n 0, 1) := by decide +kernel
theorem dX6_race_47 : decode cX6_race 47 = .ok (.getfield 12, 3) := by decide +kernel
theorem dX6_race_50 : decode cX6_race 50 = .ok (.aload_n 0, 1) := by decide +kernel
theorem dX6_race_51 : decode cX6_race 51 = .ok (.getfield 21, 3) := by decide +kernel
theorem dX6_race_54 : decode cX6_race 54 = .ok (.aload 8, 2) := by decide +kernel
theorem dX6_race_56 : decode cX6_race 56 = .ok (.invokespecial 87, 3) := by decide +kernel
theorem dX6_race_59 : decode cX6_race 59 = .ok (.astore 9, 2) := by decide +kernel
theorem dX6_race_61 : decode cX6_race 61 = .ok (.aload 9, 2) := by decide +kernel
theorem dX6_race_63 : decode cX6_race 63 = .ok (.iload 7, 2) := by decide +kernel
theorem dX6_race_65 : decode cX6_race 65 = .ok (.invokevirtual 90, 3) := by decide +kernel
theorem dX6_race_68 : decode cX6_race 68 = .ok (.aload_n 0, 1) := by decide +kernel
theorem dX6_race_69 : decode cX6_race 69 = .ok (.aload 9, 2) := by decide +kernel
theorem dX6_race_71 : decode cX6_race 71 = .ok (.putfield 39, 3) := by decide +kernel
theorem dX6_race_74 : decode cX6_race 74 = .ok (.aload 9, 2) := by decide +kernel
theorem dX6_race_76 : decode cX6_race 76 = .ok (.getfield 94, 3) := by decide +kernel
theorem dX6_race_79 : decode cX6_race 79 = .ok (.ireturn, 1) := by decide +kernel
theorem dX6_wants_0 : decode cX6_wants 0 = .ok (.iload_n 1, 1) := by decide +kernel
theorem dX6_wants_1 : decode cX6_wants 1 = .ok (.iconst 0, 1) := by decide +kernel
theorem dX6_wants_2 : decode cX6_wants 2 = .ok (.iconst 1, 1) := by decide +kernel
theorem dX6_wants_3 : decode cX6_wants 3 = .ok (.invokestatic 47, 3) := by decide +kernel
theorem dX6_wants_6 : decode cX6_wants 6 = .ok (.ifCond .ne 6, 3) := by decide +kernel
theorem dX6_wants_9 : decode cX6_wants 9 = .ok (.bipush (-2), 2) := by decide +kernel
theorem dX6_wants_11 : decode cX6_wants 11 = .ok (.ireturn, 1) := by decide +kernel
theorem dX6_wants_12 : decode cX6_wants 12 = .ok (.aload_n 0, 1) := by decide +kernel
theorem dX6_wants_13 : decode cX6_wants 13 = .ok (.getfield 39, 3) := by decide +kernel
theorem dX6_wants_16 : decode cX6_wants 16 = .ok (.ifnull 13, 3) := by decide +kernel
theorem dX6_wants_19 : decode cX6_wants 19 = .ok (.aload_n 0, 1) := by decide +kernel
theorem dX6_wants_20 : decode cX6_wants 20 = .ok (.getfield 39, 3) := by decide +kernel
theorem dX6_wants_23 : decode cX6_wants 23 = .ok (.getfield 97, 3) := by decide +kernel
theorem dX6_wants_26 : decode cX6_wants 26 = .ok (.ifCond .eq 6, 3) := by decide +kernel
theorem dX6_wants_29 : decode cX6_wants 29 = .ok (.bipush (-3), 2) := by decide +kernel
theorem dX6_wants_31 : decode cX6_wants 31 = .ok (.ireturn, 1) := by decide +kernel
theorem dX6_wants_32 : decode cX6_wants 32 = .ok (.iload_n 1, 1) := by decide +kernel
theorem dX6_wants_33 : decode cX6_wants 33 = .ok (.ifCond .ne 13, 3) := by decide +kernel
theorem dX6_wants_36 : decode cX6_wants 36 = .ok (.aload_n 0, 1) := by decide +kernel
theorem dX6_wants_37 : decode cX6_wants 37 = .ok (.getfield 39, 3) := by decide +kernel
theorem dX6_wants_40 : decode cX6_wants 40 = .ok (.getfield 100, 3) := by decide +kernel
theorem dX6_wants_43 : decode cX6_wants 43 = .ok (.goto 17, 3) := by decide +kernel
theorem dX6_wants_46 : decode cX6_wants 46 = .ok (.aload_n 0, 1) := by decide +kernel
theorem dX6_wants_47 : decode cX6_wants 47 = .ok (.getfield 39, 3) := by decide +kernel
theorem dX6_wants_50 : decode cX6_wants 50 = .ok (.aload_n 0, 1) := by decide +kernel
theorem dX6_wants_51 : decode cX6_wants 51 = .ok (.getfield 39, 3) := by decide +kernel
theorem dX6_wants_54 : decode cX6_wants 54 = .ok (.getfield 103, 3) := by decide +kernel
theorem dX6_wants_57 : decode cX6_wants 57 = .ok (.invokevirtual 106, 3) := by decide +kernel
theorem dX6_wants_60 : decode cX6_wants 60 = .ok (.ireturn, 1) := by decide +kernel
theorem dX6_run_0 : decode cX6_run 0 = .ok (.aload_n 0, 1) := by decide +kernel
theorem dX6_run_1 : decode cX6_run 1 = .ok (.getfield 39, 3) := by decide +kernel
theorem dX6_run_4 : decode cX6_run 4 = .ok (.ifnonnull 8, 3) := by decide +kernel
theorem dX6_run_7 : decode cX6_run 7 = .ok (.bipush (-3), 2) := by decide +kernel
theorem dX6_run_9 : decode cX6_run 9 = .ok (.goto 10, 3) := by decide +kernel
theorem dX6_run_12 : decode cX6_run 12 = .ok (.aload_n 0, 1) := by decide +kernel
theorem dX6_run_13 : decode cX6_run 13 = .ok (.getfield 39, 3) := by decide +kernel
theorem dX6_run_16 : decode cX6_run 16 = .ok (.invokevirtual 110, 3) := by decide +kernel
theorem dX6_run_19 : decode cX6_run 19 = .ok (.ireturn, 1) := by decide +kernel
theorem dX6_left_0 : decode cX6_left 0 = .ok (.aload_n 0, 1) := by decide +kernel
theorem dX6_left_1 : decode cX6_left 1 = .ok (.getfield 39, 3) := by decide +kernel
theorem dX6_left_4 : decode cX6_left 4 = .ok (.ifnonnull 5, 3) := by decide +kernel
theorem dX6_left_7 : decode cX6_left 7 = .ok (.iconst (-1), 1) := by decide +kernel
theorem dX6_left_8 : decode cX6_left 8 = .ok (.ireturn, 1) := by decide +kernel
theorem dX6_left_9 : decode cX6_left 9 = .ok (.iload_n 1, 1) := by decide +kernel
theorem dX6_left_10 : decode cX6_left 10 = .ok (.iconst (-1), 1) := by decide +kernel
theorem dX6_left_11 : decode cX6_left 11 = .ok (.if_icmp .ne 13, 3) := by decide +kernel
theorem dX6_left_14 : decode cX6_left 14 = .ok (.aload_n 0, 1) := by decide +kernel
theorem dX6_left_15 : decode cX6_left 15 = .ok (.getfield 39, 3) := by decide +kernel
theorem dX6_left_18 : decode cX6_left 18 = .ok (.getfield 113, 3) := by decide +kernel
theorem dX6_left_21 : decode cX6_left 21 = .ok (.goto 11, 3) := by decide +kernel
theorem dX6_left_24 : decode cX6_left 24 = .ok (.aload_n 0, 1) := by decide +kernel
theorem dX6_left_25 : decode cX6_left 25 = .ok (.getfield 39, 3) := by decide +kernel
theorem dX6_left_28 : decode cX6_left 28 = .ok (.iload_n 1, 1) := by decide +kernel
theorem dX6_left_29 : decode cX6_left 29 = .ok (.invokevirtual 116, 3) := by decide +kernel
theorem dX6_left_32 : decode cX6_left 32 = .ok (.ireturn, 1) := by decide +kernel
theorem dX6_raceOf_0 : decode cX6_raceOf 0 = .ok (.iload_n 1, 1) := by decide +kernel
theorem dX6_raceOf_1 : decode cX6_raceOf 1 = .ok (.iconst 0, 1) := by decide +kernel
theorem dX6_raceOf_2 : decode cX6_raceOf 2 = .ok (.iconst 4, 1) := by decide +kernel
theorem dX6_raceOf_3 : decode cX6_raceOf 3 = .ok (.invokestatic 47, 3) := by decide +kernel
theorem dX6_raceOf_6 : decode cX6_raceOf 6 = .ok (.ifCond .ne 6, 3) := by decide +kernel
theorem dX6_raceOf_9 : decode cX6_raceOf 9 = .ok (.bipush (-2), 2) := by decide +kernel
theorem dX6_raceOf_11 : decode cX6_raceOf 11 = .ok (.ireturn, 1) := by decide +kernel
theorem dX6_raceOf_12 : decode cX6_raceOf 12 = .ok (.aload_n 0, 1) := by decide +kernel
theorem dX6_raceOf_13 : decode cX6_raceOf 13 = .ok (.getfield 39, 3) := by decide +kernel
theorem dX6_raceOf_16 : decode cX6_raceOf 16 = .ok (.ifnonnull 6, 3) := by decide +kernel
theorem dX6_raceOf_19 : decode cX6_raceOf 19 = .ok (.bipush (-3), 2) := by decide +kernel
theorem dX6_raceOf_21 : decode cX6_raceOf 21 = .ok (.ireturn, 1) := by decide +kernel
theorem dX6_raceOf_22 : decode cX6_raceOf 22 = .ok (.iload_n 1, 1) := by decide +kernel
theorem dX6_raceOf_23 : decode cX6_raceOf 23 = .ok (.tableswitch 61 0 3 #[29, 37, 45, 53], 29) := by decide +kernel
theorem dX6_raceOf_52 : decode cX6_raceOf 52 = .ok (.aload_n 0, 1) := by decide +kernel
theorem dX6_raceOf_53 : decode cX6_raceOf 53 = .ok (.getfield 39, 3) := by decide +kernel
theorem dX6_raceOf_56 : decode cX6_raceOf 56 = .ok (.getfield 97, 3) := by decide +kernel
theorem dX6_raceOf_59 : decode cX6_raceOf 59 = .ok (.ireturn, 1) := by decide +kernel
theorem dX6_raceOf_60 : decode cX6_raceOf 60 = .ok (.aload_n 0, 1) := by decide +kernel
theorem dX6_raceOf_61 : decode cX6_raceOf 61 = .ok (.getfield 39, 3) := by decide +kernel
theorem dX6_raceOf_64 : decode cX6_raceOf 64 = .ok (.getfield 103, 3) := by decide +kernel
theorem dX6_raceOf_67 : decode cX6_raceOf 67 = .ok (.ireturn, 1) := by decide +kernel
theorem dX6_raceOf_68 : decode cX6_raceOf 68 = .ok (.aload_n 0, 1) := by decide +kernel
theorem dX6_raceOf_69 : decode cX6_raceOf 69 = .ok (.getfield 39, 3) := by decide +kernel
theorem dX6_raceOf_72 : decode cX6_raceOf 72 = .ok (.getfield 119, 3) := by decide +kernel
theorem dX6_raceOf_75 : decode cX6_raceOf 75 = .ok (.ireturn, 1) := by decide +kernel
theorem dX6_raceOf_76 : decode cX6_raceOf 76 = .ok (.aload_n 0, 1) := by decide +kernel
theorem dX6_raceOf_77 : decode cX6_raceOf 77 = .ok (.getfield 39, 3) := by decide +kernel
theorem dX6_raceOf_80 : decode cX6_raceOf 80 = .ok (.invokevirtual 122, 3) := by decide +kernel
theorem dX6_raceOf_83 : decode cX6_raceOf 83 = .ok (.ireturn, 1) := by decide +kernel
theorem dX6_raceOf_84 : decode cX6_raceOf 84 = .ok (.aload_n 0, 1) := by decide +kernel
theorem dX6_raceOf_85 : decode cX6_raceOf 85 = .ok (.getfield 39, 3) := by decide +kernel
theorem dX6_raceOf_88 : decode cX6_raceOf 88 = .ok (.getfield 94, 3) := by decide +kernel
theorem dX6_raceOf_91 : decode cX6_raceOf 91 = .ok (.aload_n 0, 1) := by decide +kernel
theorem dX6_raceOf_92 : decode cX6_raceOf 92 = .ok (.getfield 39, 3) := by decide +kernel
theorem dX6_raceOf_95 : decode cX6_raceOf 95 = .ok (.getfield 113, 3) := by decide +kernel
theorem dX6_raceOf_98 : decode cX6_raceOf 98 = .ok (.isub, 1) := by decide +kernel
theorem dX6_raceOf_99 : decode cX6_raceOf 99 = .ok (.ireturn, 1) := by decide +kernel
theorem dX6_rank_0 : decode cX6_rank 0 = .ok (.aload_n 0, 1) := by decide +kernel
theorem dX6_rank_1 : decode cX6_rank 1 = .ok (.getfield 39, 3) := by decide +kernel
theorem dX6_rank_4 : decode cX6_rank 4 = .ok (.ifnull 14, 3) := by decide +kernel
theorem dX6_rank_7 : decode cX6_rank 7 = .ok (.aload_n 0, 1) := by decide +kernel
theorem dX6_rank_8 : decode cX6_rank 8 = .ok (.getfield 39, 3) := by decide +kernel
theorem dX6_rank_11 : decode cX6_rank 11 = .ok (.iload_n 1, 1) := by decide +kernel
theorem dX6_rank_12 : decode cX6_rank 12 = .ok (.invokevirtual 125, 3) := by decide +kernel
theorem dX6_rank_15 : decode cX6_rank 15 = .ok (.ifCond .ne 5, 3) := by decide +kernel
theorem dX6_rank_18 : decode cX6_rank 18 = .ok (.iconst (-1), 1) := by decide +kernel
theorem dX6_rank_19 : decode cX6_rank 19 = .ok (.ireturn, 1) := by decide +kernel
theorem dX6_rank_20 : decode cX6_rank 20 = .ok (.aload_n 0, 1) := by decide +kernel
theorem dX6_rank_21 : decode cX6_rank 21 = .ok (.getfield 39, 3) := by decide +kernel
theorem dX6_rank_24 : decode cX6_rank 24 = .ok (.iload_n 1, 1) := by decide +kernel
theorem dX6_rank_25 : decode cX6_rank 25 = .ok (.invokevirtual 128, 3) := by decide +kernel
theorem dX6_rank_28 : decode cX6_rank 28 = .ok (.ireturn, 1) := by decide +kernel
theorem dX6_dropped_0 : decode cX6_dropped 0 = .ok (.aload_n 0, 1) := by decide +kernel
theorem dX6_dropped_1 : decode cX6_dropped 1 = .ok (.getfield 39, 3) := by decide +kernel
theorem dX6_dropped_4 : decode cX6_dropped 4 = .ok (.ifnull 14, 3) := by decide +kernel
theorem dX6_dropped_7 : decode cX6_dropped 7 = .ok (.aload_n 0, 1) := by decide +kernel
theorem dX6_dropped_8 : decode cX6_dropped 8 = .ok (.getfield 39, 3) := by decide +kernel
theorem dX6_dropped_11 : decode cX6_dropped 11 = .ok (.iload_n 1, 1) := by decide +kernel
theorem dX6_dropped_12 : decode cX6_dropped 12 = .ok (.invokevirtual 131, 3) := by decide +kernel
theorem dX6_dropped_15 : decode cX6_dropped 15 = .ok (.ifCond .ne 5, 3) := by decide +kernel
theorem dX6_dropped_18 : decode cX6_dropped 18 = .ok (.iconst (-1), 1) := by decide +kernel
theorem dX6_dropped_19 : decode cX6_dropped 19 = .ok (.ireturn, 1) := by decide +kernel
theorem dX6_dropped_20 : decode cX6_dropped 20 = .ok (.aload_n 0, 1) := by decide +kernel
theorem dX6_dropped_21 : decode cX6_dropped 21 = .ok (.getfield 39, 3) := by decide +kernel
theorem dX6_dropped_24 : decode cX6_dropped 24 = .ok (.iload_n 1, 1) := by decide +kernel
theorem dX6_dropped_25 : decode cX6_dropped 25 = .ok (.invokevirtual 125, 3) := by decide +kernel
theorem dX6_dropped_28 : decode cX6_dropped 28 = .ok (.ifCond .eq 8, 3) := by decide +kernel
theorem dX6_dropped_31 : decode cX6_dropped 31 = .ok (.bipush (-3), 2) := by decide +kernel
theorem dX6_dropped_33 : decode cX6_dropped 33 = .ok (.goto 12, 3) := by decide +kernel
theorem dX6_dropped_36 : decode cX6_dropped 36 = .ok (.aload_n 0, 1) := by decide +kernel
theorem dX6_dropped_37 : decode cX6_dropped 37 = .ok (.getfield 39, 3) := by decide +kernel
theorem dX6_dropped_40 : decode cX6_dropped 40 = .ok (.getfield 134, 3) := by decide +kernel
theorem dX6_dropped_43 : decode cX6_dropped 43 = .ok (.iload_n 1, 1) := by decide +kernel
theorem dX6_dropped_44 : decode cX6_dropped 44 = .ok (.iaload, 1) := by decide +kernel
theorem dX6_dropped_45 : decode cX6_dropped 45 = .ok (.ireturn, 1) := by decide +kernel
theorem dX6_odds_0 : decode cX6_odds 0 = .ok (.aload_n 0, 1) := by decide +kernel
theorem dX6_odds_1 : decode cX6_odds 1 = .ok (.getfield 39, 3) := by decide +kernel
theorem dX6_odds_4 : decode cX6_odds 4 = .ok (.ifnull 34, 3) := by decide +kernel
theorem dX6_odds_7 : decode cX6_odds 7 = .ok (.aload_n 0, 1) := by decide +kernel
theorem dX6_odds_8 : decode cX6_odds 8 = .ok (.getfield 39, 3) := by decide +kernel
theorem dX6_odds_11 : decode cX6_odds 11 = .ok (.iload_n 1, 1) := by decide +kernel
theorem dX6_odds_12 : decode cX6_odds 12 = .ok (.invokevirtual 131, 3) := by decide +kernel
theorem dX6_odds_15 : decode cX6_odds 15 = .ok (.ifCond .eq 23, 3) := by decide +kernel
theorem dX6_odds_18 : decode cX6_odds 18 = .ok (.aload_n 0, 1) := by decide +kernel
theorem dX6_odds_19 : decode cX6_odds 19 = .ok (.getfield 39, 3) := by decide +kernel
theorem dX6_odds_22 : decode cX6_odds 22 = .ok (.iload_n 2, 1) := by decide +kernel
theorem dX6_odds_23 : decode cX6_odds 23 = .ok (.invokevirtual 131, 3) := by decide +kernel
theorem dX6_odds_26 : decode cX6_odds 26 = .ok (.ifCond .eq 12, 3) := by decide +kernel
theorem dX6_odds_29 : decode cX6_odds 29 = .ok (.iload_n 3, 1) := by decide +kernel
theorem dX6_odds_30 : decode cX6_odds 30 = .ok (.iconst 0, 1) := by decide +kernel
theorem dX6_odds_31 : decode cX6_odds 31 = .ok (.iconst 1, 1) := by decide +kernel
theorem dX6_odds_32 : decode cX6_odds 32 = .ok (.invokestatic 47, 3) := by decide +kernel
theorem dX6_odds_35 : decode cX6_odds 35 = .ok (.ifCond .ne 7, 3) := by decide +kernel
theorem dX6_odds_38 : decode cX6_odds 38 = .ok (.ldc2_w 138, 3) := by decide +kernel
theorem dX6_odds_41 : decode cX6_odds 41 = .ok (.lreturn, 1) := by decide +kernel
theorem dX6_odds_42 : decode cX6_odds 42 = .ok (.aload_n 0, 1) := by decide +kernel
theorem dX6_odds_43 : decode cX6_odds 43 = .ok (.getfield 39, 3) := by decide +kernel
theorem dX6_odds_46 : decode cX6_odds 46 = .ok (.iload_n 1, 1) := by decide +kernel
theorem dX6_odds_47 : decode cX6_odds 47 = .ok (.iload_n 2, 1) := by decide +kernel
theorem dX6_odds_48 : decode cX6_odds 48 = .ok (.invokevirtual 140, 3) := by decide +kernel
theorem dX6_odds_51 : decode cX6_odds 51 = .ok (.aload_n 0, 1) := by decide +kernel
theorem dX6_odds_52 : decode cX6_odds 52 = .ok (.getfield 21, 3) := by decide +kernel
theorem dX6_odds_55 : decode cX6_odds 55 = .ok (.getfield 144, 3) := by decide +kernel
theorem dX6_odds_58 : decode cX6_odds 58 = .ok (.aload_n 0, 1) := by decide +kernel
theorem dX6_odds_59 : decode cX6_odds 59 = .ok (.getfield 21, 3) := by decide +kernel
theorem dX6_odds_62 : decode cX6_odds 62 = .ok (.getfield 148, 3) := by decide +kernel
theorem dX6_odds_65 : decode cX6_odds 65 = .ok (.iload_n 3, 1) := by decide +kernel
theorem dX6_odds_66 : decode cX6_odds 66 = .ok (.invokestatic 151, 3) := by decide +kernel
theorem dX6_odds_69 : decode cX6_odds 69 = .ok (.lreturn, 1) := by decide +kernel
theorem dX6_portfolio_0 : decode cX6_portfolio 0 = .ok (.iload_n 1, 1) := by decide +kernel
theorem dX6_portfolio_1 : decode cX6_portfolio 1 = .ok (.iconst 1, 1) := by decide +kernel
theorem dX6_portfolio_2 : decode cX6_portfolio 2 = .ok (.if_icmp .ge 6, 3) := by decide +kernel
theorem dX6_portfolio_5 : decode cX6_portfolio 5 = .ok (.bipush (-2), 2) := by decide +kernel
theorem dX6_portfolio_7 : decode cX6_portfolio 7 = .ok (.ireturn, 1) := by decide +kernel
theorem dX6_portfolio_8 : decode cX6_portfolio 8 = .ok (.iload_n 1, 1) := by decide +kernel
theorem dX6_portfolio_9 : decode cX6_portfolio 9 = .ok (.aload_n 0, 1) := by decide +kernel
theorem dX6_portfolio_10 : decode cX6_portfolio 10 = .ok (.getfield 12, 3) := by decide +kernel
theorem dX6_portfolio_13 : decode cX6_portfolio 13 = .ok (.invokevirtual 155, 3) := by decide +kernel
theorem dX6_portfolio_16 : decode cX6_portfolio 16 = .ok (.if_icmp .le 6, 3) := by decide +kernel
theorem dX6_portfolio_19 : decode cX6_portfolio 19 = .ok (.bipush (-3), 2) := by decide +kernel
theorem dX6_portfolio_21 : decode cX6_portfolio 21 = .ok (.ireturn, 1) := by decide +kernel
theorem dX6_portfolio_22 : decode cX6_portfolio 22 = .ok (.iload_n 2, 1) := by decide +kernel
theorem dX6_portfolio_23 : decode cX6_portfolio 23 = .ok (.iconst (-1), 1) := by decide +kernel
theorem dX6_portfolio_24 : decode cX6_portfolio 24 = .ok (.if_icmp .eq 16, 3) := by decide +kernel
theorem dX6_portfolio_27 : decode cX6_portfolio 27 = .ok (.iload_n 2, 1) := by decide +kernel
theorem dX6_portfolio_28 : decode cX6_portfolio 28 = .ok (.iconst 0, 1) := by decide +kernel
theorem dX6_portfolio_29 : decode cX6_portfolio 29 = .ok (.iload_n 1, 1) := by decide +kernel
theorem dX6_portfolio_30 : decode cX6_portfolio 30 = .ok (.iconst 1, 1) := by decide +kernel
theorem dX6_portfolio_31 : decode cX6_portfolio 31 = .ok (.isub, 1) := by decide +kernel
theorem dX6_portfolio_32 : decode cX6_portfolio 32 = .ok (.invokestatic 47, 3) := by decide +kernel
theorem dX6_portfolio_35 : decode cX6_portfolio 35 = .ok (.ifCond .ne 5, 3) := by decide +kernel
theorem dX6_portfolio_38 : decode cX6_portfolio 38 = .ok (.iconst (-1), 1) := by decide +kernel
theorem dX6_portfolio_39 : decode cX6_portfolio 39 = .ok (.ireturn, 1) := by decide +kernel
theorem dX6_portfolio_40 : decode cX6_portfolio 40 = .ok (.aload_n 0, 1) := by decide +kernel
theorem dX6_portfolio_41 : decode cX6_portfolio 41 = .ok (.getfield 28, 3) := by decide +kernel
theorem dX6_portfolio_44 : decode cX6_portfolio 44 = .ok (.aload_n 0, 1) := by decide +kernel
theorem dX6_portfolio_45 : decode cX6_portfolio 45 = .ok (.getfield 12, 3) := by decide +kernel
theorem dX6_portfolio_48 : decode cX6_portfolio 48 = .ok (.iload_n 1, 1) := by decide +kernel
theorem dX6_portfolio_49 : decode cX6_portfolio 49 = .ok (.invokevirtual 158, 3) := by decide +kernel
theorem dX6_portfolio_52 : decode cX6_portfolio 52 = .ok (.iload_n 2, 1) := by decide +kernel
theorem dX6_portfolio_53 : decode cX6_portfolio 53 = .ok (.iconst (-1), 1) := by decide +kernel
theorem dX6_portfolio_54 : decode cX6_portfolio 54 = .ok (.if_icmp .ne 13, 3) := by decide +kernel
theorem dX6_portfolio_57 : decode cX6_portfolio 57 = .ok (.aload_n 0, 1) := by decide +kernel
theorem dX6_portfolio_58 : decode cX6_portfolio 58 = .ok (.getfield 28, 3) := by decide +kernel
theorem dX6_portfolio_61 : decode cX6_portfolio 61 = .ok (.getfield 162, 3) := by decide +kernel
theorem dX6_portfolio_64 : decode cX6_portfolio 64 = .ok (.goto 11, 3) := by decide +kernel
theorem dX6_portfolio_67 : decode cX6_portfolio 67 = .ok (.aload_n 0, 1) := by decide +kernel
theorem dX6_portfolio_68 : decode cX6_portfolio 68 = .ok (.getfield 28, 3) := by decide +kernel
theorem dX6_portfolio_71 : decode cX6_portfolio 71 = .ok (.iload_n 2, 1) := by decide +kernel
theorem dX6_portfolio_72 : decode cX6_portfolio 72 = .ok (.invokevirtual 165, 3) := by decide +kernel
theorem dX6_portfolio_75 : decode cX6_portfolio 75 = .ok (.ireturn, 1) := by decide +kernel
theorem dX6_pick_0 : decode cX6_pick 0 = .ok (.aload_n 0, 1) := by decide +kernel
theorem dX6_pick_1 : decode cX6_pick 1 = .ok (.getfield 12, 3) := by decide +kernel
theorem dX6_pick_4 : decode cX6_pick 4 = .ok (.iload_n 1, 1) := by decide +kernel
theorem dX6_pick_5 : decode cX6_pick 5 = .ok (.invokevirtual 59, 3) := by decide +kernel
theorem dX6_pick_8 : decode cX6_pick 8 = .ok (.ifCond .ne 5, 3) := by decide +kernel
theorem dX6_pick_11 : decode cX6_pick 11 = .ok (.iconst (-1), 1) := by decide +kernel
theorem dX6_pick_12 : decode cX6_pick 12 = .ok (.ireturn, 1) := by decide +kernel
theorem dX6_pick_13 : decode cX6_pick 13 = .ok (.aload_n 0, 1) := by decide +kernel
theorem dX6_pick_14 : decode cX6_pick 14 = .ok (.iload_n 1, 1) := by decide +kernel
theorem dX6_pick_15 : decode cX6_pick 15 = .ok (.invokevirtual 168, 3) := by decide +kernel
theorem dX6_pick_18 : decode cX6_pick 18 = .ok (.istore_n 2, 1) := by decide +kernel
theorem dX6_pick_19 : decode cX6_pick 19 = .ok (.iload_n 2, 1) := by decide +kernel
theorem dX6_pick_20 : decode cX6_pick 20 = .ok (.iconst (-1), 1) := by decide +kernel
theorem dX6_pick_21 : decode cX6_pick 21 = .ok (.if_icmp .ne 8, 3) := by decide +kernel
theorem dX6_pick_24 : decode cX6_pick 24 = .ok (.bipush (-3), 2) := by decide +kernel
theorem dX6_pick_26 : decode cX6_pick 26 = .ok (.goto 4, 3) := by decide +kernel
theorem dX6_pick_29 : decode cX6_pick 29 = .ok (.iload_n 2, 1) := by decide +kernel
theorem dX6_pick_30 : decode cX6_pick 30 = .ok (.ireturn, 1) := by decide +kernel
theorem dX6_stump_0 : decode cX6_stump 0 = .ok (.iload_n 1, 1) := by decide +kernel
theorem dX6_stump_1 : decode cX6_stump 1 = .ok (.iconst 0, 1) := by decide +kernel
theorem dX6_stump_2 : decode cX6_stump 2 = .ok (.iconst 4, 1) := by decide +kernel
theorem dX6_stump_3 : decode cX6_stump 3 = .ok (.invokestatic 47, 3) := by decide +kernel
theorem dX6_stump_6 : decode cX6_stump 6 = .ok (.ifCond .ne 6, 3) := by decide +kernel
theorem dX6_stump_9 : decode cX6_stump 9 = .ok (.bipush (-2), 2) := by decide +kernel
theorem dX6_stump_11 : decode cX6_stump 11 = .ok (.ireturn, 1) := by decide +kernel
theorem dX6_stump_12 : decode cX6_stump 12 = .ok (.aload_n 0, 1) := by decide +kernel
theorem dX6_stump_13 : decode cX6_stump 13 = .ok (.getfield 12, 3) := by decide +kernel
theorem dX6_stump_16 : decode cX6_stump 16 = .ok (.invokevirtual 155, 3) := by decide +kernel
theorem dX6_stump_19 : decode cX6_stump 19 = .ok (.ifCond .ne 6, 3) := by decide +kernel
theorem dX6_stump_22 : decode cX6_stump 22 = .ok (.bipush (-3), 2) := by decide +kernel
theorem dX6_stump_24 : decode cX6_stump 24 = .ok (.ireturn, 1) := by decide +kernel
theorem dX6_stump_25 : decode cX6_stump 25 = .ok (.aload_n 0, 1) := by decide +kernel
theorem dX6_stump_26 : decode cX6_stump 26 = .ok (.getfield 35, 3) := by decide +kernel
theorem dX6_stump_29 : decode cX6_stump 29 = .ok (.aload_n 0, 1) := by decide +kernel
theorem dX6_stump_30 : decode cX6_stump 30 = .ok (.getfield 12, 3) := by decide +kernel
theorem dX6_stump_33 : decode cX6_stump 33 = .ok (.invokevirtual 171, 3) := by decide +kernel
theorem dX6_stump_36 : decode cX6_stump 36 = .ok (.iload_n 1, 1) := by decide +kernel
theorem dX6_stump_37 : decode cX6_stump 37 = .ok (.tableswitch 63 0 3 #[31, 39, 47, 55], 31) := by decide +kernel
theorem dX6_stump_68 : decode cX6_stump 68 = .ok (.aload_n 0, 1) := by decide +kernel
theorem dX6_stump_69 : decode cX6_stump 69 = .ok (.getfield 35, 3) := by decide +kernel
theorem dX6_stump_72 : decode cX6_stump 72 = .ok (.getfield 174, 3) := by decide +kernel
theorem dX6_stump_75 : decode cX6_stump 75 = .ok (.ireturn, 1) := by decide +kernel
theorem dX6_stump_76 : decode cX6_stump 76 = .ok (.aload_n 0, 1) := by decide +kernel
theorem dX6_stump_77 : decode cX6_stump 77 = .ok (.getfield 35, 3) := by decide +kernel
theorem dX6_stump_80 : decode cX6_stump 80 = .ok (.getfield 177, 3) := by decide +kernel
theorem dX6_stump_83 : decode cX6_stump 83 = .ok (.ireturn, 1) := by decide +kernel
theorem dX6_stump_84 : decode cX6_stump 84 = .ok (.aload_n 0, 1) := by decide +kernel
theorem dX6_stump_85 : decode cX6_stump 85 = .ok (.getfield 35, 3) := by decide +kernel
theorem dX6_stump_88 : decode cX6_stump 88 = .ok (.getfield 180, 3) := by decide +kernel
theorem dX6_stump_91 : decode cX6_stump 91 = .ok (.ireturn, 1) := by decide +kernel
theorem dX6_stump_92 : decode cX6_stump 92 = .ok (.aload_n 0, 1) := by decide +kernel
theorem dX6_stump_93 : decode cX6_stump 93 = .ok (.getfield 35, 3) := by decide +kernel
theorem dX6_stump_96 : decode cX6_stump 96 = .ok (.getfield 183, 3) := by decide +kernel
theorem dX6_stump_99 : decode cX6_stump 99 = .ok (.ireturn, 1) := by decide +kernel
theorem dX6_stump_100 : decode cX6_stump 100 = .ok (.aload_n 0, 1) := by decide +kernel
theorem dX6_stump_101 : decode cX6_stump 101 = .ok (.getfield 35, 3) := by decide +kernel
theorem dX6_stump_104 : decode cX6_stump 104 = .ok (.getfield 186, 3) := by decide +kernel
theorem dX6_stump_107 : decode cX6_stump 107 = .ok (.ireturn, 1) := by decide +kernel
theorem dX6_heldOut_0 : decode cX6_heldOut 0 = .ok (.iload_n 1, 1) := by decide +kernel
theorem dX6_heldOut_1 : decode cX6_heldOut 1 = .ok (.iconst 0, 1) := by decide +kernel
theorem dX6_heldOut_2 : decode cX6_heldOut 2 = .ok (.iconst 3, 1) := by decide +kernel
theorem dX6_heldOut_3 : decode cX6_heldOut 3 = .ok (.invokestatic 47, 3) := by decide +kernel
theorem dX6_heldOut_6 : decode cX6_heldOut 6 = .ok (.ifCond .ne 6, 3) := by decide +kernel
theorem dX6_heldOut_9 : decode cX6_heldOut 9 = .ok (.bipush (-2), 2) := by decide +kernel
theorem dX6_heldOut_11 : decode cX6_heldOut 11 = .ok (.ireturn, 1) := by decide +kernel
theorem dX6_heldOut_12 : decode cX6_heldOut 12 = .ok (.aload_n 0, 1) := by decide +kernel
theorem dX6_heldOut_13 : decode cX6_heldOut 13 = .ok (.getfield 12, 3) := by decide +kernel
theorem dX6_heldOut_16 : decode cX6_heldOut 16 = .ok (.invokevirtual 155, 3) := by decide +kernel
theorem dX6_heldOut_19 : decode cX6_heldOut 19 = .ok (.ifCond .ne 6, 3) := by decide +kernel
theorem dX6_heldOut_22 : decode cX6_heldOut 22 = .ok (.bipush (-3), 2) := by decide +kernel
theorem dX6_heldOut_24 : decode cX6_heldOut 24 = .ok (.ireturn, 1) := by decide +kernel
theorem dX6_heldOut_25 : decode cX6_heldOut 25 = .ok (.aload_n 0, 1) := by decide +kernel
theorem dX6_heldOut_26 : decode cX6_heldOut 26 = .ok (.iload_n 1, 1) := by decide +kernel
theorem dX6_heldOut_27 : decode cX6_heldOut 27 = .ok (.invokevirtual 187, 3) := by decide +kernel
theorem dX6_heldOut_30 : decode cX6_heldOut 30 = .ok (.iconst 0, 1) := by decide +kernel
theorem dX6_heldOut_31 : decode cX6_heldOut 31 = .ok (.istore_n 2, 1) := by decide +kernel
theorem dX6_heldOut_32 : decode cX6_heldOut 32 = .ok (.iconst 0, 1) := by decide +kernel
theorem dX6_heldOut_33 : decode cX6_heldOut 33 = .ok (.istore_n 3, 1) := by decide +kernel
theorem dX6_heldOut_34 : decode cX6_heldOut 34 = .ok (.iload_n 3, 1) := by decide +kernel
theorem dX6_heldOut_35 : decode cX6_heldOut 35 = .ok (.aload_n 0, 1) := by decide +kernel
theorem dX6_heldOut_36 : decode cX6_heldOut 36 = .ok (.getfield 12, 3) := by decide +kernel
theorem dX6_heldOut_39 : decode cX6_heldOut 39 = .ok (.getfield 190, 3) := by decide +kernel
theorem dX6_heldOut_42 : decode cX6_heldOut 42 = .ok (.if_icmp .ge 50, 3) := by decide +kernel
theorem dX6_heldOut_45 : decode cX6_heldOut 45 = .ok (.aload_n 0, 1) := by decide +kernel
theorem dX6_heldOut_46 : decode cX6_heldOut 46 = .ok (.getfield 12, 3) := by decide +kernel
theorem dX6_heldOut_49 : decode cX6_heldOut 49 = .ok (.iload_n 3, 1) := by decide +kernel
theorem dX6_heldOut_50 : decode cX6_heldOut 50 = .ok (.invokevirtual 193, 3) := by decide +kernel
theorem dX6_heldOut_53 : decode cX6_heldOut 53 = .ok (.ifCond .ne 33, 3) := by decide +kernel
theorem dX6_heldOut_56 : decode cX6_heldOut 56 = .ok (.aload_n 0, 1) := by decide +kernel
theorem dX6_heldOut_57 : decode cX6_heldOut 57 = .ok (.iload_n 1, 1) := by decide +kernel
theorem dX6_heldOut_58 : decode cX6_heldOut 58 = .ok (.iload_n 3, 1) := by decide +kernel
theorem dX6_heldOut_59 : decode cX6_heldOut 59 = .ok (.invokevirtual 196, 3) := by decide +kernel
theorem dX6_heldOut_62 : decode cX6_heldOut 62 = .ok (.istore 4, 2) := by decide +kernel
theorem dX6_heldOut_64 : decode cX6_heldOut 64 = .ok (.iload 4, 2) := by decide +kernel
theorem dX6_heldOut_66 : decode cX6_heldOut 66 = .ok (.iconst (-1), 1) := by decide +kernel
theorem dX6_heldOut_67 : decode cX6_heldOut 67 = .ok (.if_icmp .ne 6, 3) := by decide +kernel
theorem dX6_heldOut_70 : decode cX6_heldOut 70 = .ok (.bipush (-3), 2) := by decide +kernel
theorem dX6_heldOut_72 : decode cX6_heldOut 72 = .ok (.ireturn, 1) := by decide +kernel
theorem dX6_heldOut_73 : decode cX6_heldOut 73 = .ok (.iload_n 2, 1) := by decide +kernel
theorem dX6_heldOut_74 : decode cX6_heldOut 74 = .ok (.aload_n 0, 1) := by decide +kernel
theorem dX6_heldOut_75 : decode cX6_heldOut 75 = .ok (.getfield 12, 3) := by decide +kernel
theorem dX6_heldOut_78 : decode cX6_heldOut 78 = .ok (.iload 4, 2) := by decide +kernel
theorem dX6_heldOut_80 : decode cX6_heldOut 80 = .ok (.iload_n 3, 1) := by decide +kernel
theorem dX6_heldOut_81 : decode cX6_heldOut 81 = .ok (.invokevirtual 63, 3) := by decide +kernel
theorem dX6_heldOut_84 : decode cX6_heldOut 84 = .ok (.iadd, 1) := by decide +kernel
theorem dX6_heldOut_85 : decode cX6_heldOut 85 = .ok (.istore_n 2, 1) := by decide +kernel
theorem dX6_heldOut_86 : decode cX6_heldOut 86 = .ok (.iinc 3 1, 3) := by decide +kernel
theorem dX6_heldOut_89 : decode cX6_heldOut 89 = .ok (.goto (-55), 3) := by decide +kernel
theorem dX6_heldOut_92 : decode cX6_heldOut 92 = .ok (.iload_n 2, 1) := by decide +kernel
theorem dX6_heldOut_93 : decode cX6_heldOut 93 = .ok (.ireturn, 1) := by decide +kernel
theorem dX6_mean_0 : decode cX6_mean 0 = .ok (.aload_n 0, 1) := by decide +kernel
theorem dX6_mean_1 : decode cX6_mean 1 = .ok (.getfield 39, 3) := by decide +kernel
theorem dX6_mean_4 : decode cX6_mean 4 = .ok (.ifnull 40, 3) := by decide +kernel
theorem dX6_mean_7 : decode cX6_mean 7 = .ok (.aload_n 0, 1) := by decide +kernel
theorem dX6_mean_8 : decode cX6_mean 8 = .ok (.getfield 39, 3) := by decide +kernel
theorem dX6_mean_11 : decode cX6_mean 11 = .ok (.iload_n 1, 1) := by decide +kernel
theorem dX6_mean_12 : decode cX6_mean 12 = .ok (.invokevirtual 131, 3) := by decide +kernel
theorem dX6_mean_15 : decode cX6_mean 15 = .ok (.ifCond .eq 29, 3) := by decide +kernel
theorem dX6_mean_18 : decode cX6_mean 18 = .ok (.iload_n 3, 1) := by decide +kernel
theorem dX6_mean_19 : decode cX6_mean 19 = .ok (.iconst 0, 1) := by decide +kernel
theorem dX6_mean_20 : decode cX6_mean 20 = .ok (.iconst 1, 1) := by decide +kernel
theorem dX6_mean_21 : decode cX6_mean 21 = .ok (.invokestatic 47, 3) := by decide +kernel
theorem dX6_mean_24 : decode cX6_mean 24 = .ok (.ifCond .eq 20, 3) := by decide +kernel
theorem dX6_mean_27 : decode cX6_mean 27 = .ok (.iload_n 2, 1) := by decide +kernel
theorem dX6_mean_28 : decode cX6_mean 28 = .ok (.iconst 0, 1) := by decide +kernel
theorem dX6_mean_29 : decode cX6_mean 29 = .ok (.aload_n 0, 1) := by decide +kernel
theorem dX6_mean_30 : decode cX6_mean 30 = .ok (.getfield 39, 3) := by decide +kernel
theorem dX6_mean_33 : decode cX6_mean 33 = .ok (.getfield 199, 3) := by decide +kernel
theorem dX6_mean_36 : decode cX6_mean 36 = .ok (.iload_n 1, 1) := by decide +kernel
theorem dX6_mean_37 : decode cX6_mean 37 = .ok (.iaload, 1) := by decide +kernel
theorem dX6_mean_38 : decode cX6_mean 38 = .ok (.invokestatic 47, 3) := by decide +kernel
theorem dX6_mean_41 : decode cX6_mean 41 = .ok (.ifCond .ne 7, 3) := by decide +kernel
theorem dX6_mean_44 : decode cX6_mean 44 = .ok (.ldc2_w 138, 3) := by decide +kernel
theorem dX6_mean_47 : decode cX6_mean 47 = .ok (.lreturn, 1) := by decide +kernel
theorem dX6_mean_48 : decode cX6_mean 48 = .ok (.iload_n 2, 1) := by decide +kernel
theorem dX6_mean_49 : decode cX6_mean 49 = .ok (.ifCond .ne 13, 3) := by decide +kernel
theorem dX6_mean_52 : decode cX6_mean 52 = .ok (.new 202, 3) := by decide +kernel
theorem dX6_mean_55 : decode cX6_mean 55 = .ok (.dup, 1) := by decide +kernel
theorem dX6_mean_56 : decode cX6_mean 56 = .ok (.ldc 204, 2) := by decide +kernel
theorem dX6_mean_58 : decode cX6_mean 58 = .ok (.invokespecial 206, 3) := by decide +kernel
theorem dX6_mean_61 : decode cX6_mean 61 = .ok (.athrow, 1) := by decide +kernel
theorem dX6_mean_62 : decode cX6_mean 62 = .ok (.aload_n 0, 1) := by decide +kernel
theorem dX6_mean_63 : decode cX6_mean 63 = .ok (.getfield 39, 3) := by decide +kernel
theorem dX6_mean_66 : decode cX6_mean 66 = .ok (.iload_n 1, 1) := by decide +kernel
theorem dX6_mean_67 : decode cX6_mean 67 = .ok (.iload_n 2, 1) := by decide +kernel
theorem dX6_mean_68 : decode cX6_mean 68 = .ok (.invokevirtual 209, 3) := by decide +kernel
theorem dX6_mean_71 : decode cX6_mean 71 = .ok (.iload_n 2, 1) := by decide +kernel
theorem dX6_mean_72 : decode cX6_mean 72 = .ok (.i2l, 1) := by decide +kernel
theorem dX6_mean_73 : decode cX6_mean 73 = .ok (.iload_n 3, 1) := by decide +kernel
theorem dX6_mean_74 : decode cX6_mean 74 = .ok (.invokestatic 151, 3) := by decide +kernel
theorem dX6_mean_77 : decode cX6_mean 77 = .ok (.lreturn, 1) := by decide +kernel
theorem dX6_isWithin_0 : decode cX6_isWithin 0 = .ok (.iload_n 0, 1) := by decide +kernel
theorem dX6_isWithin_1 : decode cX6_isWithin 1 = .ok (.iload_n 1, 1) := by decide +kernel
theorem dX6_isWithin_2 : decode cX6_isWithin 2 = .ok (.if_icmp .lt 12, 3) := by decide +kernel
theorem dX6_isWithin_5 : decode cX6_isWithin 5 = .ok (.iload_n 0, 1) := by decide +kernel
theorem dX6_isWithin_6 : decode cX6_isWithin 6 = .ok (.iload_n 2, 1) := by decide +kernel
theorem dX6_isWithin_7 : decode cX6_isWithin 7 = .ok (.if_icmp .gt 7, 3) := by decide +kernel
theorem dX6_isWithin_10 : decode cX6_isWithin 10 = .ok (.iconst 1, 1) := by decide +kernel
theorem dX6_isWithin_11 : decode cX6_isWithin 11 = .ok (.goto 4, 3) := by decide +kernel
theorem dX6_isWithin_14 : decode cX6_isWithin 14 = .ok (.iconst 0, 1) := by decide +kernel
theorem dX6_isWithin_15 : decode cX6_isWithin 15 = .ok (.ireturn, 1) := by decide +kernel
theorem dX6_pickFor_0 : decode cX6_pickFor 0 = .ok (.aload_n 0, 1) := by decide +kernel
theorem dX6_pickFor_1 : decode cX6_pickFor 1 = .ok (.getfield 12, 3) := by decide +kernel
theorem dX6_pickFor_4 : decode cX6_pickFor 4 = .ok (.aload_n 0, 1) := by decide +kernel
theorem dX6_pickFor_5 : decode cX6_pickFor 5 = .ok (.getfield 12, 3) := by decide +kernel
theorem dX6_pickFor_8 : decode cX6_pickFor 8 = .ok (.iload_n 1, 1) := by decide +kernel
theorem dX6_pickFor_9 : decode cX6_pickFor 9 = .ok (.invokevirtual 213, 3) := by decide +kernel
theorem dX6_pickFor_12 : decode cX6_pickFor 12 = .ok (.invokevirtual 216, 3) := by decide +kernel
theorem dX6_pickFor_15 : decode cX6_pickFor 15 = .ok (.ireturn, 1) := by decide +kernel
theorem dX6_findChoice_0 : decode cX6_findChoice 0 = .ok (.iload_n 1, 1) := by decide +kernel
theorem dX6_findChoice_1 : decode cX6_findChoice 1 = .ok (.iconst 1, 1) := by decide +kernel
theorem dX6_findChoice_2 : decode cX6_findChoice 2 = .ok (.if_icmp .ne 18, 3) := by decide +kernel
theorem dX6_findChoice_5 : decode cX6_findChoice 5 = .ok (.aload_n 0, 1) := by decide +kernel
theorem dX6_findChoice_6 : decode cX6_findChoice 6 = .ok (.getfield 28, 3) := by decide +kernel
theorem dX6_findChoice_9 : decode cX6_findChoice 9 = .ok (.aload_n 0, 1) := by decide +kernel
theorem dX6_findChoice_10 : decode cX6_findChoice 10 = .ok (.getfield 12, 3) := by decide +kernel
theorem dX6_findChoice_13 : decode cX6_findChoice 13 = .ok (.iconst 1, 1) := by decide +kernel
theorem dX6_findChoice_14 : decode cX6_findChoice 14 = .ok (.invokevirtual 158, 3) := by decide +kernel
theorem dX6_findChoice_17 : decode cX6_findChoice 17 = .ok (.goto 19, 3) := by decide +kernel
theorem dX6_findChoice_20 : decode cX6_findChoice 20 = .ok (.iload_n 1, 1) := by decide +kernel
theorem dX6_findChoice_21 : decode cX6_findChoice 21 = .ok (.iconst 3, 1) := by decide +kernel
theorem dX6_findChoice_22 : decode cX6_findChoice 22 = .ok (.if_icmp .ne 14, 3) := by decide +kernel
theorem dX6_findChoice_25 : decode cX6_findChoice 25 = .ok (.aload_n 0, 1) := by decide +kernel
theorem dX6_findChoice_26 : decode cX6_findChoice 26 = .ok (.getfield 35, 3) := by decide +kernel
theorem dX6_findChoice_29 : decode cX6_findChoice 29 = .ok (.aload_n 0, 1) := by decide +kernel
theorem dX6_findChoice_30 : decode cX6_findChoice 30 = .ok (.getfield 12, 3) := by decide +kernel
theorem dX6_findChoice_33 : decode cX6_findChoice 33 = .ok (.invokevirtual 171, 3) := by decide +kernel
theorem dX6_findChoice_36 : decode cX6_findChoice 36 = .ok (.return_, 1) := by decide +kernel
theorem dX6_chosenFor_0 : decode cX6_chosenFor 0 = .ok (.iload_n 1, 1) := by decide +kernel
theorem dX6_chosenFor_1 : decode cX6_chosenFor 1 = .ok (.tableswitch 51 0 2 #[27, 33, 42], 27) := by decide +kernel
theorem dX6_chosenFor_28 : decode cX6_chosenFor 28 = .ok (.aload_n 0, 1) := by decide +kernel
theorem dX6_chosenFor_29 : decode cX6_chosenFor 29 = .ok (.iload_n 2, 1) := by decide +kernel
theorem dX6_chosenFor_30 : decode cX6_chosenFor 30 = .ok (.invokevirtual 168, 3) := by decide +kernel
theorem dX6_chosenFor_33 : decode cX6_chosenFor 33 = .ok (.ireturn, 1) := by decide +kernel
theorem dX6_chosenFor_34 : decode cX6_chosenFor 34 = .ok (.aload_n 0, 1) := by decide +kernel
theorem dX6_chosenFor_35 : decode cX6_chosenFor 35 = .ok (.getfield 28, 3) := by decide +kernel
theorem dX6_chosenFor_38 : decode cX6_chosenFor 38 = .ok (.iconst 0, 1) := by decide +kernel
theorem dX6_chosenFor_39 : decode cX6_chosenFor 39 = .ok (.invokevirtual 165, 3) := by decide +kernel
theorem dX6_chosenFor_42 : decode cX6_chosenFor 42 = .ok (.ireturn, 1) := by decide +kernel
theorem dX6_chosenFor_43 : decode cX6_chosenFor 43 = .ok (.aload_n 0, 1) := by decide +kernel
theorem dX6_chosenFor_44 : decode cX6_chosenFor 44 = .ok (.getfield 12, 3) := by decide +kernel
theorem dX6_chosenFor_47 : decode cX6_chosenFor 47 = .ok (.iload_n 2, 1) := by decide +kernel
theorem dX6_chosenFor_48 : decode cX6_chosenFor 48 = .ok (.invokevirtual 216, 3) := by decide +kernel
theorem dX6_chosenFor_51 : decode cX6_chosenFor 51 = .ok (.ireturn, 1) := by decide +kernel
theorem dX6_chosenFor_52 : decode cX6_chosenFor 52 = .ok (.aload_n 0, 1) := by decide +kernel
theorem dX6_chosenFor_53 : decode cX6_chosenFor 53 = .ok (.getfield 35, 3) := by decide +kernel
theorem dX6_chosenFor_56 : decode cX6_chosenFor 56 = .ok (.aload_n 0, 1) := by decide +kernel
theorem dX6_chosenFor_57 : decode cX6_chosenFor 57 = .ok (.getfield 12, 3) := by decide +kernel
theorem dX6_chosenFor_60 : decode cX6_chosenFor 60 = .ok (.iload_n 2, 1) := by decide +kernel
theorem dX6_chosenFor_61 : decode cX6_chosenFor 61 = .ok (.invokevirtual 219, 3) := by decide +kernel
theorem dX6_chosenFor_64 : decode cX6_chosenFor 64 = .ok (.ireturn, 1) := by decide +kernel
theorem dX6_lowestTerms_0 : decode cX6_lowestTerms 0 = .ok (.lload_n 0, 1) := by decide +kernel
theorem dX6_lowestTerms_1 : decode cX6_lowestTerms 1 = .ok (.lload_n 2, 1) := by decide +kernel
theorem dX6_lowestTerms_2 : decode cX6_lowestTerms 2 = .ok (.invokestatic 223, 3) := by decide +kernel
theorem dX6_lowestTerms_5 : decode cX6_lowestTerms 5 = .ok (.lstore 5, 2) := by decide +kernel
theorem dX6_lowestTerms_7 : decode cX6_lowestTerms 7 = .ok (.iload 4, 2) := by decide +kernel
theorem dX6_lowestTerms_9 : decode cX6_lowestTerms 9 = .ok (.ifCond .ne 7, 3) := by decide +kernel
theorem dX6_lowestTerms_12 : decode cX6_lowestTerms 12 = .ok (.lload_n 0, 1) := by decide +kernel
theorem dX6_lowestTerms_13 : decode cX6_lowestTerms 13 = .ok (.goto 4, 3) := by decide +kernel
theorem dX6_lowestTerms_16 : decode cX6_lowestTerms 16 = .ok (.lload_n 2, 1) := by decide +kernel
theorem dX6_lowestTerms_17 : decode cX6_lowestTerms 17 = .ok (.lstore 7, 2) := by decide +kernel
theorem dX6_lowestTerms_19 : decode cX6_lowestTerms 19 = .ok (.lload 5, 2) := by decide +kernel
theorem dX6_lowestTerms_21 : decode cX6_lowestTerms 21 = .ok (.lconst 0, 1) := by decide +kernel
theorem dX6_lowestTerms_22 : decode cX6_lowestTerms 22 = .ok (.lcmp, 1) := by decide +kernel
theorem dX6_lowestTerms_23 : decode cX6_lowestTerms 23 = .ok (.ifCond .ne 8, 3) := by decide +kernel
theorem dX6_lowestTerms_26 : decode cX6_lowestTerms 26 = .ok (.lload 7, 2) := by decide +kernel
theorem dX6_lowestTerms_28 : decode cX6_lowestTerms 28 = .ok (.goto 8, 3) := by decide +kernel
theorem dX6_lowestTerms_31 : decode cX6_lowestTerms 31 = .ok (.lload 7, 2) := by decide +kernel
theorem dX6_lowestTerms_33 : decode cX6_lowestTerms 33 = .ok (.lload 5, 2) := by decide +kernel
theorem dX6_lowestTerms_35 : decode cX6_lowestTerms 35 = .ok (.ldiv, 1) := by decide +kernel
theorem dX6_lowestTerms_36 : decode cX6_lowestTerms 36 = .ok (.lreturn, 1) := by decide +kernel
theorem dX6_greatestDivisor_0 : decode cX6_greatestDivisor 0 = .ok (.lload_n 0, 1) := by decide +kernel
theorem dX6_greatestDivisor_1 : decode cX6_greatestDivisor 1 = .ok (.lstore 4, 2) := by decide +kernel
theorem dX6_greatestDivisor_3 : decode cX6_greatestDivisor 3 = .ok (.lload_n 2, 1) := by decide +kernel
theorem dX6_greatestDivisor_4 : decode cX6_greatestDivisor 4 = .ok (.lstore 6, 2) := by decide +kernel
theorem dX6_greatestDivisor_6 : decode cX6_greatestDivisor 6 = .ok (.iconst 0, 1) := by decide +kernel
theorem dX6_greatestDivisor_7 : decode cX6_greatestDivisor 7 = .ok (.istore 8, 2) := by decide +kernel
theorem dX6_greatestDivisor_9 : decode cX6_greatestDivisor 9 = .ok (.iload 8, 2) := by decide +kernel
theorem dX6_greatestDivisor_11 : decode cX6_greatestDivisor 11 = .ok (.bipush 64, 2) := by decide +kernel
theorem dX6_greatestDivisor_13 : decode cX6_greatestDivisor 13 = .ok (.if_icmp .ge 31, 3) := by decide +kernel
theorem dX6_greatestDivisor_16 : decode cX6_greatestDivisor 16 = .ok (.lload 6, 2) := by decide +kernel
theorem dX6_greatestDivisor_18 : decode cX6_greatestDivisor 18 = .ok (.lconst 0, 1) := by decide +kernel
theorem dX6_greatestDivisor_19 : decode cX6_greatestDivisor 19 = .ok (.lcmp, 1) := by decide +kernel
theorem dX6_greatestDivisor_20 : decode cX6_greatestDivisor 20 = .ok (.ifCond .eq 24, 3) := by decide +kernel
theorem dX6_greatestDivisor_23 : decode cX6_greatestDivisor 23 = .ok (.lload 4, 2) := by decide +kernel
theorem dX6_greatestDivisor_25 : decode cX6_greatestDivisor 25 = .ok (.lload 6, 2) := by decide +kernel
theorem dX6_greatestDivisor_27 : decode cX6_greatestDivisor 27 = .ok (.lrem, 1) := by decide +kernel
theorem dX6_greatestDivisor_28 : decode cX6_greatestDivisor 28 = .ok (.lstore 9, 2) := by decide +kernel
theorem dX6_greatestDivisor_30 : decode cX6_greatestDivisor 30 = .ok (.lload 6, 2) := by decide +kernel
theorem dX6_greatestDivisor_32 : decode cX6_greatestDivisor 32 = .ok (.lstore 4, 2) := by decide +kernel
theorem dX6_greatestDivisor_34 : decode cX6_greatestDivisor 34 = .ok (.lload 9, 2) := by decide +kernel
theorem dX6_greatestDivisor_36 : decode cX6_greatestDivisor 36 = .ok (.lstore 6, 2) := by decide +kernel
theorem dX6_greatestDivisor_38 : decode cX6_greatestDivisor 38 = .ok (.iinc 8 1, 3) := by decide +kernel
theorem dX6_greatestDivisor_41 : decode cX6_greatestDivisor 41 = .ok (.goto (-32), 3) := by decide +kernel
theorem dX6_greatestDivisor_44 : decode cX6_greatestDivisor 44 = .ok (.lload 4, 2) := by decide +kernel
theorem dX6_greatestDivisor_46 : decode cX6_greatestDivisor 46 = .ok (.lreturn, 1) := by decide +kernel
end
section
theorem dX7_init_0 : decode cX7_init 0 = .ok (.aload_n 0, 1) := by decide +kernel
theorem dX7_init_1 : decode cX7_init 1 = .ok (.invokespecial 1, 3) := by decide +kernel
theorem dX7_init_4 : decode cX7_init 4 = .ok (.aload_n 0, 1) := by decide +kernel
theorem dX7_init_5 : decode cX7_init 5 = .ok (.bipush 48, 2) := by decide +kernel
theorem dX7_init_7 : decode cX7_init 7 = .ok (.newarray .int, 2) := by decide +kernel
theorem dX7_init_9 : decode cX7_init 9 = .ok (.putfield 7, 3) := by decide +kernel
theorem dX7_init_12 : decode cX7_init 12 = .ok (.aload_n 0, 1) := by decide +kernel
theorem dX7_init_13 : decode cX7_init 13 = .ok (.bipush 24, 2) := by decide +kernel
theorem dX7_init_15 : decode cX7_init 15 = .ok (.newarray .boolean, 2) := by decide +kernel
theorem dX7_init_17 : decode cX7_init 17 = .ok (.putfield 13, 3) := by decide +kernel
theorem dX7_init_20 : decode cX7_init 20 = .ok (.aload_n 0, 1) := by decide +kernel
theorem dX7_init_21 : decode cX7_init 21 = .ok (.sipush 288, 3) := by decide +kernel
theorem dX7_init_24 : decode cX7_init 24 = .ok (.newarray .int, 2) := by decide +kernel
theorem dX7_init_26 : decode cX7_init 26 = .ok (.putfield 17, 3) := by decide +kernel
theorem dX7_init_29 : decode cX7_init 29 = .ok (.aload_n 0, 1) := by decide +kernel
theorem dX7_init_30 : decode cX7_init 30 = .ok (.iconst (-1), 1) := by decide +kernel
theorem dX7_init_31 : decode cX7_init 31 = .ok (.putfield 20, 3) := by decide +kernel
theorem dX7_init_34 : decode cX7_init 34 = .ok (.aload_n 0, 1) := by decide +kernel
theorem dX7_init_35 : decode cX7_init 35 = .ok (.bipush 24, 2) := by decide +kernel
theorem dX7_init_37 : decode cX7_init 37 = .ok (.newarray .int, 2) := by decide +kernel
theorem dX7_init_39 : decode cX7_init 39 = .ok (.putfield 24, 3) := by decide +kernel
theorem dX7_init_42 : decode cX7_init 42 = .ok (.aload_n 0, 1) := by decide +kernel
theorem dX7_init_43 : decode cX7_init 43 = .ok (.bipush 12, 2) := by decide +kernel
theorem dX7_init_45 : decode cX7_init 45 = .ok (.newarray .int, 2) := by decide +kernel
theorem dX7_init_47 : decode cX7_init 47 = .ok (.putfield 27, 3) := by decide +kernel
theorem dX7_init_50 : decode cX7_init 50 = .ok (.aload_n 0, 1) := by decide +kernel
theorem dX7_init_51 : decode cX7_init 51 = .ok (.bipush 12, 2) := by decide +kernel
theorem dX7_init_53 : decode cX7_init 53 = .ok (.newarray .int, 2) := by decide +kernel
theorem dX7_init_55 : decode cX7_init 55 = .ok (.putfield 30, 3) := by decide +kernel
theorem dX7_init_58 : decode cX7_init 58 = .ok (.aload_n 0, 1) := by decide +kernel
theorem dX7_init_59 : decode cX7_init 59 = .ok (.bipush 24, 2) := by decide +kernel
theorem dX7_init_61 : decode cX7_init 61 = .ok (.newarray .int, 2) := by decide +kernel
theorem dX7_init_63 : decode cX7_init 63 = .ok (.putfield 33, 3) := by decide +kernel
theorem dX7_init_66 : decode cX7_init 66 = .ok (.aload_n 0, 1) := by decide +kernel
theorem dX7_init_67 : decode cX7_init 67 = .ok (.bipush 24, 2) := by decide +kernel
theorem dX7_init_69 : decode cX7_init 69 = .ok (.newarray .boolean, 2) := by decide +kernel
theorem dX7_init_71 : decode cX7_init 71 = .ok (.putfield 36, 3) := by decide +kernel
theorem dX7_init_74 : decode cX7_init 74 = .ok (.aload_n 0, 1) := by decide +kernel
theorem dX7_init_75 : decode cX7_init 75 = .ok (.sipush 1300, 3) := by decide +kernel
theorem dX7_init_78 : decode cX7_init 78 = .ok (.newarray .long, 2) := by decide +kernel
theorem dX7_init_80 : decode cX7_init 80 = .ok (.putfield 39, 3) := by decide +kernel
theorem dX7_init_83 : decode cX7_init 83 = .ok (.return_, 1) := by decide +kernel
theorem dX7_thrown_0 : decode cX7_thrown 0 = .ok (.aload_n 0, 1) := by decide +kernel
theorem dX7_thrown_1 : decode cX7_thrown 1 = .ok (.getfield 43, 3) := by decide +kernel
theorem dX7_thrown_4 : decode cX7_thrown 4 = .ok (.ireturn, 1) := by decide +kernel
theorem dX7_in_0 : decode cX7_in 0 = .ok (.iload_n 0, 1) := by decide +kernel
theorem dX7_in_1 : decode cX7_in 1 = .ok (.iload_n 1, 1) := by decide +kernel
theorem dX7_in_2 : decode cX7_in 2 = .ok (.if_icmp .lt 12, 3) := by decide +kernel
theorem dX7_in_5 : decode cX7_in 5 = .ok (.iload_n 0, 1) := by decide +kernel
theorem dX7_in_6 : decode cX7_in 6 = .ok (.iload_n 2, 1) := by decide +kernel
theorem dX7_in_7 : decode cX7_in 7 = .ok (.if_icmp .gt 7, 3) := by decide +kernel
theorem dX7_in_10 : decode cX7_in 10 = .ok (.iconst 1, 1) := by decide +kernel
theorem dX7_in_11 : decode cX7_in 11 = .ok (.goto 4, 3) := by decide +kernel
theorem dX7_in_14 : decode cX7_in 14 = .ok (.iconst 0, 1) := by decide +kernel
theorem dX7_in_15 : decode cX7_in 15 = .ok (.ireturn, 1) := by decide +kernel
theorem dX7_isSetting_0 : decode cX7_isSetting 0 = .ok (.iload_n 1, 1) := by decide +kernel
theorem dX7_isSetting_1 : decode cX7_isSetting 1 = .ok (.iconst 0, 1) := by decide +kernel
theorem dX7_isSetting_2 : decode cX7_isSetting 2 = .ok (.aload_n 0, 1) := by decide +kernel
theorem dX7_isSetting_3 : decode cX7_isSetting 3 = .ok (.getfield 46, 3) := by decide +kernel
theorem dX7_isSetting_6 : decode cX7_isSetting 6 = .ok (.iconst 1, 1) := by decide +kernel
theorem dX7_isSetting_7 : decode cX7_isSetting 7 = .ok (.isub, 1) := by decide +kernel
theorem dX7_isSetting_8 : decode cX7_isSetting 8 = .ok (.invokestatic 49, 3) := by decide +kernel
theorem dX7_isSetting_11 : decode cX7_isSetting 11 = .ok (.ireturn, 1) := by decide +kernel
theorem dX7_isInstance_0 : decode cX7_isInstance 0 = .ok (.iload_n 1, 1) := by decide +kernel
theorem dX7_isInstance_1 : decode cX7_isInstance 1 = .ok (.iconst 0, 1) := by decide +kernel
theorem dX7_isInstance_2 : decode cX7_isInstance 2 = .ok (.aload_n 0, 1) := by decide +kernel
theorem dX7_isInstance_3 : decode cX7_isInstance 3 = .ok (.getfield 53, 3) := by decide +kernel
theorem dX7_isInstance_6 : decode cX7_isInstance 6 = .ok (.iconst 1, 1) := by decide +kernel
theorem dX7_isInstance_7 : decode cX7_isInstance 7 = .ok (.isub, 1) := by decide +kernel
theorem dX7_isInstance_8 : decode cX7_isInstance 8 = .ok (.invokestatic 49, 3) := by decide +kernel
theorem dX7_isInstance_11 : decode cX7_isInstance 11 = .ok (.ireturn, 1) := by decide +kernel
theorem dX7_costAt_0 : decode cX7_costAt 0 = .ok (.aload_n 0, 1) := by decide +kernel
theorem dX7_costAt_1 : decode cX7_costAt 1 = .ok (.getfield 17, 3) := by decide +kernel
theorem dX7_costAt_4 : decode cX7_costAt 4 = .ok (.bipush 24, 2) := by decide +kernel
theorem dX7_costAt_6 : decode cX7_costAt 6 = .ok (.iload_n 1, 1) := by decide +kernel
theorem dX7_costAt_7 : decode cX7_costAt 7 = .ok (.imul, 1) := by decide +kernel
theorem dX7_costAt_8 : decode cX7_costAt 8 = .ok (.iload_n 2, 1) := by decide +kernel
theorem dX7_costAt_9 : decode cX7_costAt 9 = .ok (.iadd, 1) := by decide +kernel
theorem dX7_costAt_10 : decode cX7_costAt 10 = .ok (.iaload, 1) := by decide +kernel
theorem dX7_costAt_11 : decode cX7_costAt 11 = .ok (.iconst 1, 1) := by decide +kernel
theorem dX7_costAt_12 : decode cX7_costAt 12 = .ok (.isub, 1) := by decide +kernel
theorem dX7_costAt_13 : decode cX7_costAt 13 = .ok (.ireturn, 1) := by decide +kernel
theorem dX7_setting_0 : decode cX7_setting 0 = .ok (.aload_n 0, 1) := by decide +kernel
theorem dX7_setting_1 : decode cX7_setting 1 = .ok (.iconst 0, 1) := by decide +kernel
theorem dX7_setting_2 : decode cX7_setting 2 = .ok (.putfield 43, 3) := by decide +kernel
theorem dX7_setting_5 : decode cX7_setting 5 = .ok (.aload_n 0, 1) := by decide +kernel
theorem dX7_setting_6 : decode cX7_setting 6 = .ok (.getfield 46, 3) := by decide +kernel
theorem dX7_setting_9 : decode cX7_setting 9 = .ok (.bipush 12, 2) := by decide +kernel
theorem dX7_setting_11 : decode cX7_setting 11 = .ok (.if_icmp .ne 6, 3) := by decide +kernel
theorem dX7_setting_14 : decode cX7_setting 14 = .ok (.bipush (-4), 2) := by decide +kernel
theorem dX7_setting_16 : decode cX7_setting 16 = .ok (.ireturn, 1) := by decide +kernel
theorem dX7_setting_17 : decode cX7_setting 17 = .ok (.aload_n 0, 1) := by decide +kernel
theorem dX7_setting_18 : decode cX7_setting 18 = .ok (.dup, 1) := by decide +kernel
theorem dX7_setting_19 : decode cX7_setting 19 = .ok (.getfield 46, 3) := by decide +kernel
theorem dX7_setting_22 : decode cX7_setting 22 = .ok (.iconst 1, 1) := by decide +kernel
theorem dX7_setting_23 : decode cX7_setting 23 = .ok (.iadd, 1) := by decide +kernel
theorem dX7_setting_24 : decode cX7_setting 24 = .ok (.putfield 46, 3) := by decide +kernel
theorem dX7_setting_27 : decode cX7_setting 27 = .ok (.aload_n 0, 1) := by decide +kernel
theorem dX7_setting_28 : decode cX7_setting 28 = .ok (.getfield 46, 3) := by decide +kernel
theorem dX7_setting_31 : decode cX7_setting 31 = .ok (.iconst 1, 1) := by decide +kernel
theorem dX7_setting_32 : decode cX7_setting 32 = .ok (.isub, 1) := by decide +kernel
theorem dX7_setting_33 : decode cX7_setting 33 = .ok (.ireturn, 1) := by decide +kernel
theorem dX7_instance_0 : decode cX7_instance 0 = .ok (.aload_n 0, 1) := by decide +kernel
theorem dX7_instance_1 : decode cX7_instance 1 = .ok (.iconst 0, 1) := by decide +kernel
theorem dX7_instance_2 : decode cX7_instance 2 = .ok (.putfield 43, 3) := by decide +kernel
theorem dX7_instance_5 : decode cX7_instance 5 = .ok (.iload_n 1, 1) := by decide +kernel
theorem dX7_instance_6 : decode cX7_instance 6 = .ok (.iconst 0, 1) := by decide +kernel
theorem dX7_instance_7 : decode cX7_instance 7 = .ok (.bipush 100, 2) := by decide +kernel
theorem dX7_instance_9 : decode cX7_instance 9 = .ok (.invokestatic 49, 3) := by decide +kernel
theorem dX7_instance_12 : decode cX7_instance 12 = .ok (.ifCond .eq 13, 3) := by decide +kernel
theorem dX7_instance_15 : decode cX7_instance 15 = .ok (.iload_n 2, 1) := by decide +kernel
theorem dX7_instance_16 : decode cX7_instance 16 = .ok (.iconst 0, 1) := by decide +kernel
theorem dX7_instance_17 : decode cX7_instance 17 = .ok (.bipush 100, 2) := by decide +kernel
theorem dX7_instance_19 : decode cX7_instance 19 = .ok (.invokestatic 49, 3) := by decide +kernel
theorem dX7_instance_22 : decode cX7_instance 22 = .ok (.ifCond .ne 6, 3) := by decide +kernel
theorem dX7_instance_25 : decode cX7_instance 25 = .ok (.bipush (-2), 2) := by decide +kernel
theorem dX7_instance_27 : decode cX7_instance 27 = .ok (.ireturn, 1) := by decide +kernel
theorem dX7_instance_28 : decode cX7_instance 28 = .ok (.aload_n 0, 1) := by decide +kernel
theorem dX7_instance_29 : decode cX7_instance 29 = .ok (.getfield 53, 3) := by decide +kernel
theorem dX7_instance_32 : decode cX7_instance 32 = .ok (.bipush 24, 2) := by decide +kernel
theorem dX7_instance_34 : decode cX7_instance 34 = .ok (.if_icmp .ne 6, 3) := by decide +kernel
theorem dX7_instance_37 : decode cX7_instance 37 = .ok (.bipush (-4), 2) := by decide +kernel
theorem dX7_instance_39 : decode cX7_instance 39 = .ok (.ireturn, 1) := by decide +kernel
theorem dX7_instance_40 : decode cX7_instance 40 = .ok (.aload_n 0, 1) := by decide +kernel
theorem dX7_instance_41 : decode cX7_instance 41 = .ok (.getfield 7, 3) := by decide +kernel
theorem dX7_instance_44 : decode cX7_instance 44 = .ok (.iconst 2, 1) := by decide +kernel
theorem dX7_instance_45 : decode cX7_instance 45 = .ok (.aload_n 0, 1) := by decide +kernel
theorem dX7_instance_46 : decode cX7_instance 46 = .ok (.getfield 53, 3) := by decide +kernel
theorem dX7_instance_49 : decode cX7_instance 49 = .ok (.imul, 1) := by decide +kernel
theorem dX7_instance_50 : decode cX7_instance 50 = .ok (.iload_n 1, 1) := by decide +kernel
theorem dX7_instance_51 : decode cX7_instance 51 = .ok (.iastore, 1) := by decide +kernel
theorem dX7_instance_52 : decode cX7_instance 52 = .ok (.aload_n 0, 1) := by decide +kernel
theorem dX7_instance_53 : decode cX7_instance 53 = .ok (.getfield 7, 3) := by decide +kernel
theorem dX7_instance_56 : decode cX7_instance 56 = .ok (.iconst 2, 1) := by decide +kernel
theorem dX7_instance_57 : decode cX7_instance 57 = .ok (.aload_n 0, 1) := by decide +kernel
theorem dX7_instance_58 : decode cX7_instance 58 = .ok (.getfield 53, 3) := by decide +kernel
theorem dX7_instance_61 : decode cX7_instance 61 = .ok (.imul, 1) := by decide +kernel
theorem dX7_instance_62 : decode cX7_instance 62 = .ok (.iconst 1, 1) := by decide +kernel
theorem dX7_instance_63 : decode cX7_instance 63 = .ok (.iadd, 1) := by decide +kernel
theorem dX7_instance_64 : decode cX7_instance 64 = .ok (.iload_n 2, 1) := by decide +kernel
theorem dX7_instance_65 : decode cX7_instance 65 = .ok (.iastore, 1) := by decide +kernel
theorem dX7_instance_66 : decode cX7_instance 66 = .ok (.aload_n 0, 1) := by decide +kernel
theorem dX7_instance_67 : decode cX7_instance 67 = .ok (.getfield 13, 3) := by decide +kernel
theorem dX7_instance_70 : decode cX7_instance 70 = .ok (.aload_n 0, 1) := by decide +kernel
theorem dX7_instance_71 : decode cX7_instance 71 = .ok (.getfield 53, 3) := by decide +kernel
theorem dX7_instance_74 : decode cX7_instance 74 = .ok (.iload_n 3, 1) := by decide +kernel
theorem dX7_instance_75 : decode cX7_instance 75 = .ok (.bastore, 1) := by decide +kernel
theorem dX7_instance_76 : decode cX7_instance 76 = .ok (.aload_n 0, 1) := by decide +kernel
theorem dX7_instance_77 : decode cX7_instance 77 = .ok (.dup, 1) := by decide +kernel
theorem dX7_instance_78 : decode cX7_instance 78 = .ok (.getfield 53, 3) := by decide +kernel
theorem dX7_instance_81 : decode cX7_instance 81 = .ok (.iconst 1, 1) := by decide +kernel
theorem dX7_instance_82 : decode cX7_instance 82 = .ok (.iadd, 1) := by decide +kernel
theorem dX7_instance_83 : decode cX7_instance 83 = .ok (.putfield 53, 3) := by decide +kernel
theorem dX7_instance_86 : decode cX7_instance 86 = .ok (.aload_n 0, 1) := by decide +kernel
theorem dX7_instance_87 : decode cX7_instance 87 = .ok (.getfield 53, 3) := by decide +kernel
theorem dX7_instance_90 : decode cX7_instance 90 = .ok (.iconst 1, 1) := by decide +kernel
theorem dX7_instance_91 : decode cX7_instance 91 = .ok (.isub, 1) := by decide +kernel
theorem dX7_instance_92 : decode cX7_instance 92 = .ok (.ireturn, 1) := by decide +kernel
theorem dX7_cost_0 : decode cX7_cost 0 = .ok (.aload_n 0, 1) := by decide +kernel
theorem dX7_cost_1 : decode cX7_cost 1 = .ok (.iconst 0, 1) := by decide +kernel
theorem dX7_cost_2 : decode cX7_cost 2 = .ok (.putfield 43, 3) := by decide +kernel
theorem dX7_cost_5 : decode cX7_cost 5 = .ok (.aload_n 0, 1) := by decide +kernel
theorem dX7_cost_6 : decode cX7_cost 6 = .ok (.iload_n 1, 1) := by decide +kernel
theorem dX7_cost_7 : decode cX7_cost 7 = .ok (.invokevirtual 56, 3) := by decide +kernel
theorem dX7_cost_10 : decode cX7_cost 10 = .ok (.ifCond .eq 11, 3) := by decide +kernel
theorem dX7_cost_13 : decode cX7_cost 13 = .ok (.aload_n 0, 1) := by decide +kernel
theorem dX7_cost_14 : decode cX7_cost 14 = .ok (.iload_n 2, 1) := by decide +kernel
theorem dX7_cost_15 : decode cX7_cost 15 = .ok (.invokevirtual 60, 3) := by decide +kernel
theorem dX7_cost_18 : decode cX7_cost 18 = .ok (.ifCond .ne 5, 3) := by decide +kernel
theorem dX7_cost_21 : decode cX7_cost 21 = .ok (.iconst (-1), 1) := by decide +kernel
theorem dX7_cost_22 : decode cX7_cost 22 = .ok (.ireturn, 1) := by decide +kernel
theorem dX7_cost_23 : decode cX7_cost 23 = .ok (.iload_n 3, 1) := by decide +kernel
theorem dX7_cost_24 : decode cX7_cost 24 = .ok (.iconst (-1), 1) := by decide +kernel
theorem dX7_cost_25 : decode cX7_cost 25 = .ok (.ldc 63, 2) := by decide +kernel
theorem dX7_cost_27 : decode cX7_cost 27 = .ok (.invokestatic 49, 3) := by decide +kernel
theorem dX7_cost_30 : decode cX7_cost 30 = .ok (.ifCond .ne 6, 3) := by decide +kernel
theorem dX7_cost_33 : decode cX7_cost 33 = .ok (.bipush (-2), 2) := by decide +kernel
theorem dX7_cost_35 : decode cX7_cost 35 = .ok (.ireturn, 1) := by decide +kernel
theorem dX7_cost_36 : decode cX7_cost 36 = .ok (.aload_n 0, 1) := by decide +kernel
theorem dX7_cost_37 : decode cX7_cost 37 = .ok (.getfield 17, 3) := by decide +kernel
theorem dX7_cost_40 : decode cX7_cost 40 = .ok (.bipush 24, 2) := by decide +kernel
theorem dX7_cost_42 : decode cX7_cost 42 = .ok (.iload_n 1, 1) := by decide +kernel
theorem dX7_cost_43 : decode cX7_cost 43 = .ok (.imul, 1) := by decide +kernel
theorem dX7_cost_44 : decode cX7_cost 44 = .ok (.iload_n 2, 1) := by decide +kernel
theorem dX7_cost_45 : decode cX7_cost 45 = .ok (.iadd, 1) := by decide +kernel
theorem dX7_cost_46 : decode cX7_cost 46 = .ok (.iaload, 1) := by decide +kernel
theorem dX7_cost_47 : decode cX7_cost 47 = .ok (.ifCond .eq 6, 3) := by decide +kernel
theorem dX7_cost_50 : decode cX7_cost 50 = .ok (.bipush (-3), 2) := by decide +kernel
theorem dX7_cost_52 : decode cX7_cost 52 = .ok (.ireturn, 1) := by decide +kernel
theorem dX7_cost_53 : decode cX7_cost 53 = .ok (.aload_n 0, 1) := by decide +kernel
theorem dX7_cost_54 : decode cX7_cost 54 = .ok (.getfield 17, 3) := by decide +kernel
theorem dX7_cost_57 : decode cX7_cost 57 = .ok (.bipush 24, 2) := by decide +kernel
theorem dX7_cost_59 : decode cX7_cost 59 = .ok (.iload_n 1, 1) := by decide +kernel
theorem dX7_cost_60 : decode cX7_cost 60 = .ok (.imul, 1) := by decide +kernel
theorem dX7_cost_61 : decode cX7_cost 61 = .ok (.iload_n 2, 1) := by decide +kernel
theorem dX7_cost_62 : decode cX7_cost 62 = .ok (.iadd, 1) := by decide +kernel
theorem dX7_cost_63 : decode cX7_cost 63 = .ok (.iload_n 3, 1) := by decide +kernel
theorem dX7_cost_64 : decode cX7_cost 64 = .ok (.ifCond .ge 8, 3) := by decide +kernel
theorem dX7_cost_67 : decode cX7_cost 67 = .ok (.ldc 64, 2) := by decide +kernel
theorem dX7_cost_69 : decode cX7_cost 69 = .ok (.goto 6, 3) := by decide +kernel
theorem dX7_cost_72 : decode cX7_cost 72 = .ok (.iload_n 3, 1) := by decide +kernel
theorem dX7_cost_73 : decode cX7_cost 73 = .ok (.iconst 1, 1) := by decide +kernel
theorem dX7_cost_74 : decode cX7_cost 74 = .ok (.iadd, 1) := by decide +kernel
theorem dX7_cost_75 : decode cX7_cost 75 = .ok (.iastore, 1) := by decide +kernel
theorem dX7_cost_76 : decode cX7_cost 76 = .ok (.iconst 0, 1) := by decide +kernel
theorem dX7_cost_77 : decode cX7_cost 77 = .ok (.istore 4, 2) := by decide +kernel
theorem dX7_cost_79 : decode cX7_cost 79 = .ok (.iconst 0, 1) := by decide +kernel
theorem dX7_cost_80 : decode cX7_cost 80 = .ok (.istore 5, 2) := by decide +kernel
theorem dX7_cost_82 : decode cX7_cost 82 = .ok (.iload 5, 2) := by decide +kernel
theorem dX7_cost_84 : decode cX7_cost 84 = .ok (.bipush 24, 2) := by decide +kernel
theorem dX7_cost_86 : decode cX7_cost 86 = .ok (.if_icmp .ge 34, 3) := by decide +kernel
theorem dX7_cost_89 : decode cX7_cost 89 = .ok (.iload 4, 2) := by decide +kernel
theorem dX7_cost_91 : decode cX7_cost 91 = .ok (.aload_n 0, 1) := by decide +kernel
theorem dX7_cost_92 : decode cX7_cost 92 = .ok (.getfield 17, 3) := by decide +kernel
theorem dX7_cost_95 : decode cX7_cost 95 = .ok (.bipush 24, 2) := by decide +kernel
theorem dX7_cost_97 : decode cX7_cost 97 = .ok (.iload_n 1, 1) := by decide +kernel
theorem dX7_cost_98 : decode cX7_cost 98 = .ok (.imul, 1) := by decide +kernel
theorem dX7_cost_99 : decode cX7_cost 99 = .ok (.iload 5, 2) := by decide +kernel
theorem dX7_cost_101 : decode cX7_cost 101 = .ok (.iadd, 1) := by decide +kernel
theorem dX7_cost_102 : decode cX7_cost 102 = .ok (.iaload, 1) := by decide +kernel
theorem dX7_cost_103 : decode cX7_cost 103 = .ok (.ifCond .eq 7, 3) := by decide +kernel
theorem dX7_cost_106 : decode cX7_cost 106 = .ok (.iconst 1, 1) := by decide +kernel
theorem dX7_cost_107 : decode cX7_cost 107 = .ok (.goto 4, 3) := by decide +kernel
theorem dX7_cost_110 : decode cX7_cost 110 = .ok (.iconst 0, 1) := by decide +kernel
theorem dX7_cost_111 : decode cX7_cost 111 = .ok (.iadd, 1) := by decide +kernel
theorem dX7_cost_112 : decode cX7_cost 112 = .ok (.istore 4, 2) := by decide +kernel
theorem dX7_cost_114 : decode cX7_cost 114 = .ok (.iinc 5 1, 3) := by decide +kernel
theorem dX7_cost_117 : decode cX7_cost 117 = .ok (.goto (-35), 3) := by decide +kernel
theorem dX7_cost_120 : decode cX7_cost 120 = .ok (.iload 4, 2) := by decide +kernel
theorem dX7_cost_122 : decode cX7_cost 122 = .ok (.ireturn, 1) := by decide +kernel
theorem dX7_costOf_0 : decode cX7_costOf 0 = .ok (.aload_n 0, 1) := by decide +kernel
theorem dX7_costOf_1 : decode cX7_costOf 1 = .ok (.iconst 0, 1) := by decide +kernel
theorem dX7_costOf_2 : decode cX7_costOf 2 = .ok (.putfield 43, 3) := by decide +kernel
theorem dX7_costOf_5 : decode cX7_costOf 5 = .ok (.aload_n 0, 1) := by decide +kernel
theorem dX7_costOf_6 : decode cX7_costOf 6 = .ok (.iload_n 1, 1) := by decide +kernel
theorem dX7_costOf_7 : decode cX7_costOf 7 = .ok (.invokevirtual 56, 3) := by decide +kernel
theorem dX7_costOf_10 : decode cX7_costOf 10 = .ok (.ifCond .eq 11, 3) := by decide +kernel
theorem dX7_costOf_13 : decode cX7_costOf 13 = .ok (.aload_n 0, 1) := by decide +kernel
theorem dX7_costOf_14 : decode cX7_costOf 14 = .ok (.iload_n 2, 1) := by decide +kernel
theorem dX7_costOf_15 : decode cX7_costOf 15 = .ok (.invokevirtual 60, 3) := by decide +kernel
theorem dX7_costOf_18 : decode cX7_costOf 18 = .ok (.ifCond .ne 5, 3) := by decide +kernel
theorem dX7_costOf_21 : decode cX7_costOf 21 = .ok (.iconst (-1), 1) := by decide +kernel
theorem dX7_costOf_22 : decode cX7_costOf 22 = .ok (.ireturn, 1) := by decide +kernel
theorem dX7_costOf_23 : decode cX7_costOf 23 = .ok (.aload_n 0, 1) := by decide +kernel
theorem dX7_costOf_24 : decode cX7_costOf 24 = .ok (.getfield 17, 3) := by decide +kernel
theorem dX7_costOf_27 : decode cX7_costOf 27 = .ok (.bipush 24, 2) := by decide +kernel
theorem dX7_costOf_29 : decode cX7_costOf 29 = .ok (.iload_n 1, 1) := by decide +kernel
theorem dX7_costOf_30 : decode cX7_costOf 30 = .ok (.imul, 1) := by decide +kernel
theorem dX7_costOf_31 : decode cX7_costOf 31 = .ok (.iload_n 2, 1) := by decide +kernel
theorem dX7_costOf_32 : decode cX7_costOf 32 = .ok (.iadd, 1) := by decide +kernel
theorem dX7_costOf_33 : decode cX7_costOf 33 = .ok (.iaload, 1) := by decide +kernel
theorem dX7_costOf_34 : decode cX7_costOf 34 = .ok (.ifCond .ne 8, 3) := by decide +kernel
theorem dX7_costOf_37 : decode cX7_costOf 37 = .ok (.bipush (-3), 2) := by decide +kernel
theorem dX7_costOf_39 : decode cX7_costOf 39 = .ok (.goto 9, 3) := by decide +kernel
theorem dX7_costOf_42 : decode cX7_costOf 42 = .ok (.aload_n 0, 1) := by decide +kernel
theorem dX7_costOf_43 : decode cX7_costOf 43 = .ok (.iload_n 1, 1) := by decide +kernel
theorem dX7_costOf_44 : decode cX7_costOf 44 = .ok (.iload_n 2, 1) := by decide +kernel
theorem dX7_costOf_45 : decode cX7_costOf 45 = .ok (.invokevirtual 65, 3) := by decide +kernel
theorem dX7_costOf_48 : decode cX7_costOf 48 = .ok (.ireturn, 1) := by decide +kernel
theorem dX7_leftMany_0 : decode cX7_leftMany 0 = .ok (.iconst 0, 1) := by decide +kernel
theorem dX7_leftMany_1 : decode cX7_leftMany 1 = .ok (.istore_n 1, 1) := by decide +kernel
theorem dX7_leftMany_2 : decode cX7_leftMany 2 = .ok (.iconst 0, 1) := by decide +kernel
theorem dX7_leftMany_3 : decode cX7_leftMany 3 = .ok (.istore_n 2, 1) := by decide +kernel
theorem dX7_leftMany_4 : decode cX7_leftMany 4 = .ok (.iload_n 2, 1) := by decide +kernel
theorem dX7_leftMany_5 : decode cX7_leftMany 5 = .ok (.aload_n 0, 1) := by decide +kernel
theorem dX7_leftMany_6 : decode cX7_leftMany 6 = .ok (.getfield 69, 3) := by decide +kernel
theorem dX7_leftMany_9 : decode cX7_leftMany 9 = .ok (.if_icmp .ge 26, 3) := by decide +kernel
theorem dX7_leftMany_12 : decode cX7_leftMany 12 = .ok (.iload_n 1, 1) := by decide +kernel
theorem dX7_leftMany_13 : decode cX7_leftMany 13 = .ok (.aload_n 0, 1) := by decide +kernel
theorem dX7_leftMany_14 : decode cX7_leftMany 14 = .ok (.getfield 27, 3) := by decide +kernel
theorem dX7_leftMany_17 : decode cX7_leftMany 17 = .ok (.iload_n 2, 1) := by decide +kernel
theorem dX7_leftMany_18 : decode cX7_leftMany 18 = .ok (.iaload, 1) := by decide +kernel
theorem dX7_leftMany_19 : decode cX7_leftMany 19 = .ok (.ifCond .ne 7, 3) := by decide +kernel
theorem dX7_leftMany_22 : decode cX7_leftMany 22 = .ok (.iconst 1, 1) := by decide +kernel
theorem dX7_leftMany_23 : decode cX7_leftMany 23 = .ok (.goto 4, 3) := by decide +kernel
theorem dX7_leftMany_26 : decode cX7_leftMany 26 = .ok (.iconst 0, 1) := by decide +kernel
theorem dX7_leftMany_27 : decode cX7_leftMany 27 = .ok (.iadd, 1) := by decide +kernel
theorem dX7_leftMany_28 : decode cX7_leftMany 28 = .ok (.istore_n 1, 1) := by decide +kernel
theorem dX7_leftMany_29 : decode cX7_leftMany 29 = .ok (.iinc 2 1, 3) := by decide +kernel
theorem dX7_leftMany_32 : decode cX7_leftMany 32 = .ok (.goto (-28), 3) := by decide +kernel
theorem dX7_leftMany_35 : decode cX7_leftMany 35 = .ok (.iload_n 1, 1) := by decide +kernel
theorem dX7_leftMany_36 : decode cX7_leftMany 36 = .ok (.ireturn, 1) := by decide +kernel
theorem dX7_look_0 : decode cX7_look 0 = .ok (.aload_n 0, 1) := by decide +kernel
theorem dX7_look_1 : decode cX7_look 1 = .ok (.invokevirtual 72, 3) := by decide +kernel
theorem dX7_look_4 : decode cX7_look 4 = .ok (.istore_n 1, 1) := by decide +kernel
theorem dX7_look_5 : decode cX7_look 5 = .ok (.aload_n 0, 1) := by decide +kernel
theorem dX7_look_6 : decode cX7_look 6 = .ok (.iload_n 1, 1) := by decide +kernel
theorem dX7_look_7 : decode cX7_look 7 = .ok (.iconst 1, 1) := by decide +kernel
theorem dX7_look_8 : decode cX7_look 8 = .ok (.if_icmp .eq 11, 3) := by decide +kernel
theorem dX7_look_11 : decode cX7_look 11 = .ok (.iload_n 1, 1) := by decide +kernel
theorem dX7_look_12 : decode cX7_look 12 = .ok (.aload_n 0, 1) := by decide +kernel
theorem dX7_look_13 : decode cX7_look 13 = .ok (.getfield 76, 3) := by decide +kernel
theorem dX7_look_16 : decode cX7_look 16 = .ok (.if_icmp .gt 7, 3) := by decide +kernel
theorem dX7_look_19 : decode cX7_look 19 = .ok (.iconst 1, 1) := by decide +kernel
theorem dX7_look_20 : decode cX7_look 20 = .ok (.goto 36, 3) := by decide +kernel
theorem dX7_look_23 : decode cX7_look 23 = .ok (.aload_n 0, 1) := by decide +kernel
theorem dX7_look_24 : decode cX7_look 24 = .ok (.getfield 79, 3) := by decide +kernel
theorem dX7_look_27 : decode cX7_look 27 = .ok (.aload_n 0, 1) := by decide +kernel
theorem dX7_look_28 : decode cX7_look 28 = .ok (.getfield 82, 3) := by decide +kernel
theorem dX7_look_31 : decode cX7_look 31 = .ok (.if_icmp .ne 7, 3) := by decide +kernel
theorem dX7_look_34 : decode cX7_look 34 = .ok (.iconst 2, 1) := by decide +kernel
theorem dX7_look_35 : decode cX7_look 35 = .ok (.goto 21, 3) := by decide +kernel
theorem dX7_look_38 : decode cX7_look 38 = .ok (.aload_n 0, 1) := by decide +kernel
theorem dX7_look_39 : decode cX7_look 39 = .ok (.getfield 85, 3) := by decide +kernel
theorem dX7_look_42 : decode cX7_look 42 = .ok (.aload_n 0, 1) := by decide +kernel
theorem dX7_look_43 : decode cX7_look 43 = .ok (.getfield 88, 3) := by decide +kernel
theorem dX7_look_46 : decode cX7_look 46 = .ok (.isub, 1) := by decide +kernel
theorem dX7_look_47 : decode cX7_look 47 = .ok (.iload_n 1, 1) := by decide +kernel
theorem dX7_look_48 : decode cX7_look 48 = .ok (.if_icmp .ge 7, 3) := by decide +kernel
theorem dX7_look_51 : decode cX7_look 51 = .ok (.iconst 3, 1) := by decide +kernel
theorem dX7_look_52 : decode cX7_look 52 = .ok (.goto 4, 3) := by decide +kernel
theorem dX7_look_55 : decode cX7_look 55 = .ok (.iconst 0, 1) := by decide +kernel
theorem dX7_look_56 : decode cX7_look 56 = .ok (.putfield 91, 3) := by decide +kernel
theorem dX7_look_59 : decode cX7_look 59 = .ok (.aload_n 0, 1) := by decide +kernel
theorem dX7_look_60 : decode cX7_look 60 = .ok (.iconst 0, 1) := by decide +kernel
theorem dX7_look_61 : decode cX7_look 61 = .ok (.putfield 94, 3) := by decide +kernel
theorem dX7_look_64 : decode cX7_look 64 = .ok (.aload_n 0, 1) := by decide +kernel
theorem dX7_look_65 : decode cX7_look 65 = .ok (.getfield 94, 3) := by decide +kernel
theorem dX7_look_68 : decode cX7_look 68 = .ok (.aload_n 0, 1) := by decide +kernel
theorem dX7_look_69 : decode cX7_look 69 = .ok (.getfield 69, 3) := by decide +kernel
theorem dX7_look_72 : decode cX7_look 72 = .ok (.if_icmp .ge 28, 3) := by decide +kernel
theorem dX7_look_75 : decode cX7_look 75 = .ok (.aload_n 0, 1) := by decide +kernel
theorem dX7_look_76 : decode cX7_look 76 = .ok (.getfield 27, 3) := by decide +kernel
theorem dX7_look_79 : decode cX7_look 79 = .ok (.aload_n 0, 1) := by decide +kernel
theorem dX7_look_80 : decode cX7_look 80 = .ok (.getfield 94, 3) := by decide +kernel
theorem dX7_look_83 : decode cX7_look 83 = .ok (.iaload, 1) := by decide +kernel
theorem dX7_look_84 : decode cX7_look 84 = .ok (.ifCond .eq 16, 3) := by decide +kernel
theorem dX7_look_87 : decode cX7_look 87 = .ok (.aload_n 0, 1) := by decide +kernel
theorem dX7_look_88 : decode cX7_look 88 = .ok (.dup, 1) := by decide +kernel
theorem dX7_look_89 : decode cX7_look 89 = .ok (.getfield 94, 3) := by decide +kernel
theorem dX7_look_92 : decode cX7_look 92 = .ok (.iconst 1, 1) := by decide +kernel
theorem dX7_look_93 : decode cX7_look 93 = .ok (.iadd, 1) := by decide +kernel
theorem dX7_look_94 : decode cX7_look 94 = .ok (.putfield 94, 3) := by decide +kernel
theorem dX7_look_97 : decode cX7_look 97 = .ok (.goto (-33), 3) := by decide +kernel
theorem dX7_look_100 : decode cX7_look 100 = .ok (.return_, 1) := by decide +kernel
theorem dX7_race_0 : decode cX7_race 0 = .ok (.aload_n 0, 1) := by decide +kernel
theorem dX7_race_1 : decode cX7_race 1 = .ok (.iconst 0, 1) := by decide +kernel
theorem dX7_race_2 : decode cX7_race 2 = .ok (.putfield 43, 3) := by decide +kernel
theorem dX7_race_5 : decode cX7_race 5 = .ok (.iload_n 1, 1) := by decide +kernel
theorem dX7_race_6 : decode cX7_race 6 = .ok (.iconst 0, 1) := by decide +kernel
theorem dX7_race_7 : decode cX7_race 7 = .ok (.iconst 1, 1) := by decide +kernel
theorem dX7_race_8 : decode cX7_race 8 = .ok (.invokestatic 49, 3) := by decide +kernel
theorem dX7_race_11 : decode cX7_race 11 = .ok (.ifCond .eq 65, 3) := by decide +kernel
theorem dX7_race_14 : decode cX7_race 14 = .ok (.iload_n 2, 1) := by decide +kernel
theorem dX7_race_15 : decode cX7_race 15 = .ok (.iconst 1, 1) := by decide +kernel
theorem dX7_race_16 : decode cX7_race 16 = .ok (.bipush 24, 2) := by decide +kernel
theorem dX7_race_18 : decode cX7_race 18 = .ok (.invokestatic 49, 3) := by decide +kernel
theorem dX7_race_21 : decode cX7_race 21 = .ok (.ifCond .eq 55, 3) := by decide +kernel
theorem dX7_race_24 : decode cX7_race 24 = .ok (.iload_n 3, 1) := by decide +kernel
theorem dX7_race_25 : decode cX7_race 25 = .ok (.iconst 1, 1) := by decide +kernel
theorem dX7_race_26 : decode cX7_race 26 = .ok (.sipush 1000, 3) := by decide +kernel
theorem dX7_race_29 : decode cX7_race 29 = .ok (.invokestatic 49, 3) := by decide +kernel
theorem dX7_race_32 : decode cX7_race 32 = .ok (.ifCond .eq 44, 3) := by decide +kernel
theorem dX7_race_35 : decode cX7_race 35 = .ok (.iload 4, 2) := by decide +kernel
theorem dX7_race_37 : decode cX7_race 37 = .ok (.iconst 1, 1) := by decide +kernel
theorem dX7_race_38 : decode cX7_race 38 = .ok (.sipush 1000, 3) := by decide +kernel
theorem dX7_race_41 : decode cX7_race 41 = .ok (.invokestatic 49, 3) := by decide +kernel
theorem dX7_race_44 : decode cX7_race 44 = .ok (.ifCond .eq 32, 3) := by decide +kernel
theorem dX7_race_47 : decode cX7_race 47 = .ok (.iload_n 3, 1) := by decide +kernel
theorem dX7_race_48 : decode cX7_race 48 = .ok (.iload 4, 2) := by decide +kernel
theorem dX7_race_50 : decode cX7_race 50 = .ok (.if_icmp .gt 26, 3) := by decide +kernel
theorem dX7_race_53 : decode cX7_race 53 = .ok (.iload 5, 2) := by decide +kernel
theorem dX7_race_55 : decode cX7_race 55 = .ok (.iconst 1, 1) := by decide +kernel
theorem dX7_race_56 : decode cX7_race 56 = .ok (.bipush 12, 2) := by decide +kernel
theorem dX7_race_58 : decode cX7_race 58 = .ok (.invokestatic 49, 3) := by decide +kernel
theorem dX7_race_61 : decode cX7_race 61 = .ok (.ifCond .eq 15, 3) := by decide +kernel
theorem dX7_race_64 : decode cX7_race 64 = .ok (.iload 6, 2) := by decide +kernel
theorem dX7_race_66 : decode cX7_race 66 = .ok (.iconst 0, 1) := by decide +kernel
theorem dX7_race_67 : decode cX7_race 67 = .ok (.sipush 1000, 3) := by decide +kernel
theorem dX7_race_70 : decode cX7_race 70 = .ok (.invokestatic 49, 3) := by decide +kernel
theorem dX7_race_73 : decode cX7_race 73 = .ok (.ifCond .ne 6, 3) := by decide +kernel
theorem dX7_race_76 : decode cX7_race 76 = .ok (.bipush (-2), 2) := by decide +kernel
theorem dX7_race_78 : decode cX7_race 78 = .ok (.ireturn, 1) := by decide +kernel
theorem dX7_race_79 : decode cX7_race 79 = .ok (.aload_n 0, 1) := by decide +kernel
theorem dX7_race_80 : decode cX7_race 80 = .ok (.getfield 46, 3) := by decide +kernel
theorem dX7_race_83 : decode cX7_race 83 = .ok (.ifCond .ne 6, 3) := by decide +kernel
theorem dX7_race_86 : decode cX7_race 86 = .ok (.bipush (-3), 2) := by decide +kernel
theorem dX7_race_88 : decode cX7_race 88 = .ok (.ireturn, 1) := by decide +kernel
theorem dX7_race_89 : decode cX7_race 89 = .ok (.aload_n 0, 1) := by decide +kernel
theorem dX7_race_90 : decode cX7_race 90 = .ok (.iload_n 1, 1) := by decide +kernel
theorem dX7_race_91 : decode cX7_race 91 = .ok (.putfield 20, 3) := by decide +kernel
theorem dX7_race_94 : decode cX7_race 94 = .ok (.aload_n 0, 1) := by decide +kernel
theorem dX7_race_95 : decode cX7_race 95 = .ok (.iload_n 2, 1) := by decide +kernel
theorem dX7_race_96 : decode cX7_race 96 = .ok (.putfield 97, 3) := by decide +kernel
theorem dX7_race_99 : decode cX7_race 99 = .ok (.aload_n 0, 1) := by decide +kernel
theorem dX7_race_100 : decode cX7_race 100 = .ok (.iload_n 3, 1) := by decide +kernel
theorem dX7_race_101 : decode cX7_race 101 = .ok (.putfield 100, 3) := by decide +kernel
theorem dX7_race_104 : decode cX7_race 104 = .ok (.aload_n 0, 1) := by decide +kernel
theorem dX7_race_105 : decode cX7_race 105 = .ok (.iload 4, 2) := by decide +kernel
theorem dX7_race_107 : decode cX7_race 107 = .ok (.putfield 103, 3) := by decide +kernel
theorem dX7_race_110 : decode cX7_race 110 = .ok (.aload_n 0, 1) := by decide +kernel
theorem dX7_race_111 : decode cX7_race 111 = .ok (.iload 5, 2) := by decide +kernel
theorem dX7_race_113 : decode cX7_race 113 = .ok (.putfield 76, 3) := by decide +kernel
theorem dX7_race_116 : decode cX7_race 116 = .ok (.aload_n 0, 1) := by decide +kernel
theorem dX7_race_117 : decode cX7_race 117 = .ok (.iload 6, 2) := by decide +kernel
theorem dX7_race_119 : decode cX7_race 119 = .ok (.putfield 85, 3) := by decide +kernel
theorem dX7_race_122 : decode cX7_race 122 = .ok (.aload_n 0, 1) := by decide +kernel
theorem dX7_race_123 : decode cX7_race 123 = .ok (.aload_n 0, 1) := by decide +kernel
theorem dX7_race_124 : decode cX7_race 124 = .ok (.getfield 46, 3) := by decide +kernel
theorem dX7_race_127 : decode cX7_race 127 = .ok (.putfield 69, 3) := by decide +kernel
theorem dX7_race_130 : decode cX7_race 130 = .ok (.aload_n 0, 1) := by decide +kernel
theorem dX7_race_131 : decode cX7_race 131 = .ok (.iconst 0, 1) := by decide +kernel
theorem dX7_race_132 : decode cX7_race 132 = .ok (.putfield 82, 3) := by decide +kernel
theorem dX7_race_135 : decode cX7_race 135 = .ok (.iconst 0, 1) := by decide +kernel
theorem dX7_race_136 : decode cX7_race 136 = .ok (.istore 8, 2) := by decide +kernel
theorem dX7_race_138 : decode cX7_race 138 = .ok (.iload 8, 2) := by decide +kernel
theorem dX7_race_140 : decode cX7_race 140 = .ok (.aload_n 0, 1) := by decide +kernel
theorem dX7_race_141 : decode cX7_race 141 = .ok (.getfield 53, 3) := by decide +kernel
theorem dX7_race_144 : decode cX7_race 144 = .ok (.if_icmp .ge 40, 3) := by decide +kernel
theorem dX7_race_147 : decode cX7_race 147 = .ok (.aload_n 0, 1) := by decide +kernel
theorem dX7_race_148 : decode cX7_race 148 = .ok (.getfield 13, 3) := by decide +kernel
theorem dX7_race_151 : decode cX7_race 151 = .ok (.iload 8, 2) := by decide +kernel
theorem dX7_race_153 : decode cX7_race 153 = .ok (.baload, 1) := by decide +kernel
theorem dX7_race_154 : decode cX7_race 154 = .ok (.ifCond .ne 24, 3) := by decide +kernel
theorem dX7_race_157 : decode cX7_race 157 = .ok (.aload_n 0, 1) := by decide +kernel
theorem dX7_race_158 : decode cX7_race 158 = .ok (.getfield 24, 3) := by decide +kernel
theorem dX7_race_161 : decode cX7_race 161 = .ok (.aload_n 0, 1) := by decide +kernel
theorem dX7_race_162 : decode cX7_race 162 = .ok (.getfield 82, 3) := by decide +kernel
theorem dX7_race_165 : decode cX7_race 165 = .ok (.iload 8, 2) := by decide +kernel
theorem dX7_race_167 : decode cX7_race 167 = .ok (.iastore, 1) := by decide +kernel
theorem dX7_race_168 : decode cX7_race 168 = .ok (.aload_n 0, 1) := by decide +kernel
theorem dX7_race_169 : decode cX7_race 169 = .ok (.dup, 1) := by decide +kernel
theorem dX7_race_170 : decode cX7_race 170 = .ok (.getfield 82, 3) := by decide +kernel
theorem dX7_race_173 : decode cX7_race 173 = .ok (.iconst 1, 1) := by decide +kernel
theorem dX7_race_174 : decode cX7_race 174 = .ok (.iadd, 1) := by decide +kernel
theorem dX7_race_175 : decode cX7_race 175 = .ok (.putfield 82, 3) := by decide +kernel
theorem dX7_race_178 : decode cX7_race 178 = .ok (.iinc 8 1, 3) := by decide +kernel
theorem dX7_race_181 : decode cX7_race 181 = .ok (.goto (-43), 3) := by decide +kernel
theorem dX7_race_184 : decode cX7_race 184 = .ok (.iload 7, 2) := by decide +kernel
theorem dX7_race_186 : decode cX7_race 186 = .ok (.istore 8, 2) := by decide +kernel
theorem dX7_race_188 : decode cX7_race 188 = .ok (.aload_n 0, 1) := by decide +kernel
theorem dX7_race_189 : decode cX7_race 189 = .ok (.getfield 82, 3) := by decide +kernel
theorem dX7_race_192 : decode cX7_race 192 = .ok (.iconst 1, 1) := by decide +kernel
theorem dX7_race_193 : decode cX7_race 193 = .ok (.isub, 1) := by decide +kernel
theorem dX7_race_194 : decode cX7_race 194 = .ok (.istore 9, 2) := by decide +kernel
theorem dX7_race_196 : decode cX7_race 196 = .ok (.iload 9, 2) := by decide +kernel
theorem dX7_race_198 : decode cX7_race 198 = .ok (.ifCond .le 64, 3) := by decide +kernel
theorem dX7_race_201 : decode cX7_race 201 = .ok (.iload 8, 2) := by decide +kernel
theorem dX7_race_203 : decode cX7_race 203 = .ok (.ldc 106, 2) := by decide +kernel
theorem dX7_race_205 : decode cX7_race 205 = .ok (.imul, 1) := by decide +kernel
theorem dX7_race_206 : decode cX7_race 206 = .ok (.sipush 12345, 3) := by decide +kernel
theorem dX7_race_209 : decode cX7_race 209 = .ok (.iadd, 1) := by decide +kernel
theorem dX7_race_210 : decode cX7_race 210 = .ok (.istore 8, 2) := by decide +kernel
theorem dX7_race_212 : decode cX7_race 212 = .ok (.iload 8, 2) := by decide +kernel
theorem dX7_race_214 : decode cX7_race 214 = .ok (.bipush 16, 2) := by decide +kernel
theorem dX7_race_216 : decode cX7_race 216 = .ok (.iushr, 1) := by decide +kernel
theorem dX7_race_217 : decode cX7_race 217 = .ok (.iload 9, 2) := by decide +kernel
theorem dX7_race_219 : decode cX7_race 219 = .ok (.iconst 1, 1) := by decide +kernel
theorem dX7_race_220 : decode cX7_race 220 = .ok (.iadd, 1) := by decide +kernel
theorem dX7_race_221 : decode cX7_race 221 = .ok (.irem, 1) := by decide +kernel
theorem dX7_race_222 : decode cX7_race 222 = .ok (.istore 10, 2) := by decide +kernel
theorem dX7_race_224 : decode cX7_race 224 = .ok (.aload_n 0, 1) := by decide +kernel
theorem dX7_race_225 : decode cX7_race 225 = .ok (.getfield 24, 3) := by decide +kernel
theorem dX7_race_228 : decode cX7_race 228 = .ok (.iload 9, 2) := by decide +kernel
theorem dX7_race_230 : decode cX7_race 230 = .ok (.iaload, 1) := by decide +kernel
theorem dX7_race_231 : decode cX7_race 231 = .ok (.istore 11, 2) := by decide +kernel
theorem dX7_race_233 : decode cX7_race 233 = .ok (.aload_n 0, 1) := by decide +kernel
theorem dX7_race_234 : decode cX7_race 234 = .ok (.getfield 24, 3) := by decide +kernel
theorem dX7_race_237 : decode cX7_race 237 = .ok (.iload 9, 2) := by decide +kernel
theorem dX7_race_239 : decode cX7_race 239 = .ok (.aload_n 0, 1) := by decide +kernel
theorem dX7_race_240 : decode cX7_race 240 = .ok (.getfield 24, 3) := by decide +kernel
theorem dX7_race_243 : decode cX7_race 243 = .ok (.iload 10, 2) := by decide +kernel
theorem dX7_race_245 : decode cX7_race 245 = .ok (.iaload, 1) := by decide +kernel
theorem dX7_race_246 : decode cX7_race 246 = .ok (.iastore, 1) := by decide +kernel
theorem dX7_race_247 : decode cX7_race 247 = .ok (.aload_n 0, 1) := by decide +kernel
theorem dX7_race_248 : decode cX7_race 248 = .ok (.getfield 24, 3) := by decide +kernel
theorem dX7_race_251 : decode cX7_race 251 = .ok (.iload 10, 2) := by decide +kernel
theorem dX7_race_253 : decode cX7_race 253 = .ok (.iload 11, 2) := by decide +kernel
theorem dX7_race_255 : decode cX7_race 255 = .ok (.iastore, 1) := by decide +kernel
theorem dX7_race_256 : decode cX7_race 256 = .ok (.iinc 9 (-1), 3) := by decide +kernel
theorem dX7_race_259 : decode cX7_race 259 = .ok (.goto (-63), 3) := by decide +kernel
theorem dX7_race_262 : decode cX7_race 262 = .ok (.aload_n 0, 1) := by decide +kernel
theorem dX7_race_263 : decode cX7_race 263 = .ok (.iconst 0, 1) := by decide +kernel
theorem dX7_race_264 : decode cX7_race 264 = .ok (.putfield 79, 3) := by decide +kernel
theorem dX7_race_267 : decode cX7_race 267 = .ok (.aload_n 0, 1) := by decide +kernel
theorem dX7_race_268 : decode cX7_race 268 = .ok (.iconst 0, 1) := by decide +kernel
theorem dX7_race_269 : decode cX7_race 269 = .ok (.putfield 88, 3) := by decide +kernel
theorem dX7_race_272 : decode cX7_race 272 = .ok (.iconst 0, 1) := by decide +kernel
theorem dX7_race_273 : decode cX7_race 273 = .ok (.istore 9, 2) := by decide +kernel
theorem dX7_race_275 : decode cX7_race 275 = .ok (.iload 9, 2) := by decide +kernel
theorem dX7_race_277 : decode cX7_race 277 = .ok (.bipush 12, 2) := by decide +kernel
theorem dX7_race_279 : decode cX7_race 279 = .ok (.if_icmp .ge 17, 3) := by decide +kernel
theorem dX7_race_282 : decode cX7_race 282 = .ok (.aload_n 0, 1) := by decide +kernel
theorem dX7_race_283 : decode cX7_race 283 = .ok (.getfield 27, 3) := by decide +kernel
theorem dX7_race_286 : decode cX7_race 286 = .ok (.iload 9, 2) := by decide +kernel
theorem dX7_race_288 : decode cX7_race 288 = .ok (.iconst 0, 1) := by decide +kernel
theorem dX7_race_289 : decode cX7_race 289 = .ok (.iastore, 1) := by decide +kernel
theorem dX7_race_290 : decode cX7_race 290 = .ok (.iinc 9 1, 3) := by decide +kernel
theorem dX7_race_293 : decode cX7_race 293 = .ok (.goto (-18), 3) := by decide +kernel
theorem dX7_race_296 : decode cX7_race 296 = .ok (.aload_n 0, 1) := by decide +kernel
theorem dX7_race_297 : decode cX7_race 297 = .ok (.invokevirtual 107, 3) := by decide +kernel
theorem dX7_race_300 : decode cX7_race 300 = .ok (.aload_n 0, 1) := by decide +kernel
theorem dX7_race_301 : decode cX7_race 301 = .ok (.getfield 69, 3) := by decide +kernel
theorem dX7_race_304 : decode cX7_race 304 = .ok (.ireturn, 1) := by decide +kernel
theorem dX7_isOn_0 : decode cX7_isOn 0 = .ok (.aload_n 0, 1) := by decide +kernel
theorem dX7_isOn_1 : decode cX7_isOn 1 = .ok (.getfield 20, 3) := by decide +kernel
theorem dX7_isOn_4 : decode cX7_isOn 4 = .ok (.ifCond .lt 14, 3) := by decide +kernel
theorem dX7_isOn_7 : decode cX7_isOn 7 = .ok (.aload_n 0, 1) := by decide +kernel
theorem dX7_isOn_8 : decode cX7_isOn 8 = .ok (.getfield 91, 3) := by decide +kernel
theorem dX7_isOn_11 : decode cX7_isOn 11 = .ok (.ifCond .ne 7, 3) := by decide +kernel
theorem dX7_isOn_14 : decode cX7_isOn 14 = .ok (.iconst 1, 1) := by decide +kernel
theorem dX7_isOn_15 : decode cX7_isOn 15 = .ok (.goto 4, 3) := by decide +kernel
theorem dX7_isOn_18 : decode cX7_isOn 18 = .ok (.iconst 0, 1) := by decide +kernel
theorem dX7_isOn_19 : decode cX7_isOn 19 = .ok (.ireturn, 1) := by decide +kernel
theorem dX7_wants_0 : decode cX7_wants 0 = .ok (.aload_n 0, 1) := by decide +kernel
theorem dX7_wants_1 : decode cX7_wants 1 = .ok (.iconst 0, 1) := by decide +kernel
theorem dX7_wants_2 : decode cX7_wants 2 = .ok (.putfield 43, 3) := by decide +kernel
theorem dX7_wants_5 : decode cX7_wants 5 = .ok (.iload_n 1, 1) := by decide +kernel
theorem dX7_wants_6 : decode cX7_wants 6 = .ok (.iconst 0, 1) := by decide +kernel
theorem dX7_wants_7 : decode cX7_wants 7 = .ok (.iconst 1, 1) := by decide +kernel
theorem dX7_wants_8 : decode cX7_wants 8 = .ok (.invokestatic 49, 3) := by decide +kernel
theorem dX7_wants_11 : decode cX7_wants 11 = .ok (.ifCond .ne 6, 3) := by decide +kernel
theorem dX7_wants_14 : decode cX7_wants 14 = .ok (.bipush (-2), 2) := by decide +kernel
theorem dX7_wants_16 : decode cX7_wants 16 = .ok (.ireturn, 1) := by decide +kernel
theorem dX7_wants_17 : decode cX7_wants 17 = .ok (.aload_n 0, 1) := by decide +kernel
theorem dX7_wants_18 : decode cX7_wants 18 = .ok (.invokevirtual 110, 3) := by decide +kernel
theorem dX7_wants_21 : decode cX7_wants 21 = .ok (.ifCond .ne 8, 3) := by decide +kernel
theorem dX7_wants_24 : decode cX7_wants 24 = .ok (.bipush (-3), 2) := by decide +kernel
theorem dX7_wants_26 : decode cX7_wants 26 = .ok (.goto 23, 3) := by decide +kernel
theorem dX7_wants_29 : decode cX7_wants 29 = .ok (.iload_n 1, 1) := by decide +kernel
theorem dX7_wants_30 : decode cX7_wants 30 = .ok (.ifCond .ne 10, 3) := by decide +kernel
theorem dX7_wants_33 : decode cX7_wants 33 = .ok (.aload_n 0, 1) := by decide +kernel
theorem dX7_wants_34 : decode cX7_wants 34 = .ok (.getfield 94, 3) := by decide +kernel
theorem dX7_wants_37 : decode cX7_wants 37 = .ok (.goto 12, 3) := by decide +kernel
theorem dX7_wants_40 : decode cX7_wants 40 = .ok (.aload_n 0, 1) := by decide +kernel
theorem dX7_wants_41 : decode cX7_wants 41 = .ok (.getfield 24, 3) := by decide +kernel
theorem dX7_wants_44 : decode cX7_wants 44 = .ok (.aload_n 0, 1) := by decide +kernel
theorem dX7_wants_45 : decode cX7_wants 45 = .ok (.getfield 79, 3) := by decide +kernel
theorem dX7_wants_48 : decode cX7_wants 48 = .ok (.iaload, 1) := by decide +kernel
theorem dX7_wants_49 : decode cX7_wants 49 = .ok (.ireturn, 1) := by decide +kernel
theorem dX7_run_0 : decode cX7_run 0 = .ok (.aload_n 0, 1) := by decide +kernel
theorem dX7_run_1 : decode cX7_run 1 = .ok (.iconst 0, 1) := by decide +kernel
theorem dX7_run_2 : decode cX7_run 2 = .ok (.putfield 43, 3) := by decide +kernel
theorem dX7_run_5 : decode cX7_run 5 = .ok (.aload_n 0, 1) := by decide +kernel
theorem dX7_run_6 : decode cX7_run 6 = .ok (.invokevirtual 110, 3) := by decide +kernel
theorem dX7_run_9 : decode cX7_run 9 = .ok (.ifCond .eq 28, 3) := by decide +kernel
theorem dX7_run_12 : decode cX7_run 12 = .ok (.aload_n 0, 1) := by decide +kernel
theorem dX7_run_13 : decode cX7_run 13 = .ok (.getfield 17, 3) := by decide +kernel
theorem dX7_run_16 : decode cX7_run 16 = .ok (.bipush 24, 2) := by decide +kernel
theorem dX7_run_18 : decode cX7_run 18 = .ok (.aload_n 0, 1) := by decide +kernel
theorem dX7_run_19 : decode cX7_run 19 = .ok (.getfield 94, 3) := by decide +kernel
theorem dX7_run_22 : decode cX7_run 22 = .ok (.imul, 1) := by decide +kernel
theorem dX7_run_23 : decode cX7_run 23 = .ok (.aload_n 0, 1) := by decide +kernel
theorem dX7_run_24 : decode cX7_run 24 = .ok (.getfield 24, 3) := by decide +kernel
theorem dX7_run_27 : decode cX7_run 27 = .ok (.aload_n 0, 1) := by decide +kernel
theorem dX7_run_28 : decode cX7_run 28 = .ok (.getfield 79, 3) := by decide +kernel
theorem dX7_run_31 : decode cX7_run 31 = .ok (.iaload, 1) := by decide +kernel
theorem dX7_run_32 : decode cX7_run 32 = .ok (.iadd, 1) := by decide +kernel
theorem dX7_run_33 : decode cX7_run 33 = .ok (.iaload, 1) := by decide +kernel
theorem dX7_run_34 : decode cX7_run 34 = .ok (.ifCond .ne 6, 3) := by decide +kernel
theorem dX7_run_37 : decode cX7_run 37 = .ok (.bipush (-3), 2) := by decide +kernel
theorem dX7_run_39 : decode cX7_run 39 = .ok (.ireturn, 1) := by decide +kernel
theorem dX7_run_40 : decode cX7_run 40 = .ok (.aload_n 0, 1) := by decide +kernel
theorem dX7_run_41 : decode cX7_run 41 = .ok (.dup, 1) := by decide +kernel
theorem dX7_run_42 : decode cX7_run 42 = .ok (.getfield 88, 3) := by decide +kernel
theorem dX7_run_45 : decode cX7_run 45 = .ok (.iconst 1, 1) := by decide +kernel
theorem dX7_run_46 : decode cX7_run 46 = .ok (.iadd, 1) := by decide +kernel
theorem dX7_run_47 : decode cX7_run 47 = .ok (.putfield 88, 3) := by decide +kernel
theorem dX7_run_50 : decode cX7_run 50 = .ok (.aload_n 0, 1) := by decide +kernel
theorem dX7_run_51 : decode cX7_run 51 = .ok (.dup, 1) := by decide +kernel
theorem dX7_run_52 : decode cX7_run 52 = .ok (.getfield 94, 3) := by decide +kernel
theorem dX7_run_55 : decode cX7_run 55 = .ok (.iconst 1, 1) := by decide +kernel
theorem dX7_run_56 : decode cX7_run 56 = .ok (.iadd, 1) := by decide +kernel
theorem dX7_run_57 : decode cX7_run 57 = .ok (.putfield 94, 3) := by decide +kernel
theorem dX7_run_60 : decode cX7_run 60 = .ok (.aload_n 0, 1) := by decide +kernel
theorem dX7_run_61 : decode cX7_run 61 = .ok (.getfield 94, 3) := by decide +kernel
theorem dX7_run_64 : decode cX7_run 64 = .ok (.aload_n 0, 1) := by decide +kernel
theorem dX7_run_65 : decode cX7_run 65 = .ok (.getfield 69, 3) := by decide +kernel
theorem dX7_run_68 : decode cX7_run 68 = .ok (.if_icmp .ge 28, 3) := by decide +kernel
theorem dX7_run_71 : decode cX7_run 71 = .ok (.aload_n 0, 1) := by decide +kernel
theorem dX7_run_72 : decode cX7_run 72 = .ok (.getfield 27, 3) := by decide +kernel
theorem dX7_run_75 : decode cX7_run 75 = .ok (.aload_n 0, 1) := by decide +kernel
theorem dX7_run_76 : decode cX7_run 76 = .ok (.getfield 94, 3) := by decide +kernel
theorem dX7_run_79 : decode cX7_run 79 = .ok (.iaload, 1) := by decide +kernel
theorem dX7_run_80 : decode cX7_run 80 = .ok (.ifCond .eq 16, 3) := by decide +kernel
theorem dX7_run_83 : decode cX7_run 83 = .ok (.aload_n 0, 1) := by decide +kernel
theorem dX7_run_84 : decode cX7_run 84 = .ok (.dup, 1) := by decide +kernel
theorem dX7_run_85 : decode cX7_run 85 = .ok (.getfield 94, 3) := by decide +kernel
theorem dX7_run_88 : decode cX7_run 88 = .ok (.iconst 1, 1) := by decide +kernel
theorem dX7_run_89 : decode cX7_run 89 = .ok (.iadd, 1) := by decide +kernel
theorem dX7_run_90 : decode cX7_run 90 = .ok (.putfield 94, 3) := by decide +kernel
theorem dX7_run_93 : decode cX7_run 93 = .ok (.goto (-33), 3) := by decide +kernel
theorem dX7_run_96 : decode cX7_run 96 = .ok (.aload_n 0, 1) := by decide +kernel
theorem dX7_run_97 : decode cX7_run 97 = .ok (.getfield 94, 3) := by decide +kernel
theorem dX7_run_100 : decode cX7_run 100 = .ok (.aload_n 0, 1) := by decide +kernel
theorem dX7_run_101 : decode cX7_run 101 = .ok (.getfield 69, 3) := by decide +kernel
theorem dX7_run_104 : decode cX7_run 104 = .ok (.if_icmp .ne 32, 3) := by decide +kernel
theorem dX7_run_107 : decode cX7_run 107 = .ok (.aload_n 0, 1) := by decide +kernel
theorem dX7_run_108 : decode cX7_run 108 = .ok (.dup, 1) := by decide +kernel
theorem dX7_run_109 : decode cX7_run 109 = .ok (.getfield 79, 3) := by decide +kernel
theorem dX7_run_112 : decode cX7_run 112 = .ok (.iconst 1, 1) := by decide +kernel
theorem dX7_run_113 : decode cX7_run 113 = .ok (.iadd, 1) := by decide +kernel
theorem dX7_run_114 : decode cX7_run 114 = .ok (.putfield 79, 3) := by decide +kernel
theorem dX7_run_117 : decode cX7_run 117 = .ok (.aload_n 0, 1) := by decide +kernel
theorem dX7_run_118 : decode cX7_run 118 = .ok (.getfield 79, 3) := by decide +kernel
theorem dX7_run_121 : decode cX7_run 121 = .ok (.aload_n 0, 1) := by decide +kernel
theorem dX7_run_122 : decode cX7_run 122 = .ok (.getfield 97, 3) := by decide +kernel
theorem dX7_run_125 : decode cX7_run 125 = .ok (.if_icmp .lt 7, 3) := by decide +kernel
theorem dX7_run_128 : decode cX7_run 128 = .ok (.aload_n 0, 1) := by decide +kernel
theorem dX7_run_129 : decode cX7_run 129 = .ok (.invokevirtual 114, 3) := by decide +kernel
theorem dX7_run_132 : decode cX7_run 132 = .ok (.aload_n 0, 1) := by decide +kernel
theorem dX7_run_133 : decode cX7_run 133 = .ok (.invokevirtual 107, 3) := by decide +kernel
theorem dX7_run_136 : decode cX7_run 136 = .ok (.aload_n 0, 1) := by decide +kernel
theorem dX7_run_137 : decode cX7_run 137 = .ok (.getfield 88, 3) := by decide +kernel
theorem dX7_run_140 : decode cX7_run 140 = .ok (.ireturn, 1) := by decide +kernel
theorem dX7_rankOf_0 : decode cX7_rankOf 0 = .ok (.iconst 0, 1) := by decide +kernel
theorem dX7_rankOf_1 : decode cX7_rankOf 1 = .ok (.istore_n 2, 1) := by decide +kernel
theorem dX7_rankOf_2 : decode cX7_rankOf 2 = .ok (.iconst 0, 1) := by decide +kernel
theorem dX7_rankOf_3 : decode cX7_rankOf 3 = .ok (.istore_n 3, 1) := by decide +kernel
theorem dX7_rankOf_4 : decode cX7_rankOf 4 = .ok (.iload_n 3, 1) := by decide +kernel
theorem dX7_rankOf_5 : decode cX7_rankOf 5 = .ok (.aload_n 0, 1) := by decide +kernel
theorem dX7_rankOf_6 : decode cX7_rankOf 6 = .ok (.getfield 79, 3) := by decide +kernel
theorem dX7_rankOf_9 : decode cX7_rankOf 9 = .ok (.if_icmp .ge 96, 3) := by decide +kernel
theorem dX7_rankOf_12 : decode cX7_rankOf 12 = .ok (.aload_n 0, 1) := by decide +kernel
theorem dX7_rankOf_13 : decode cX7_rankOf 13 = .ok (.iload_n 1, 1) := by decide +kernel
theorem dX7_rankOf_14 : decode cX7_rankOf 14 = .ok (.aload_n 0, 1) := by decide +kernel
theorem dX7_rankOf_15 : decode cX7_rankOf 15 = .ok (.getfield 24, 3) := by decide +kernel
theorem dX7_rankOf_18 : decode cX7_rankOf 18 = .ok (.iload_n 3, 1) := by decide +kernel
theorem dX7_rankOf_19 : decode cX7_rankOf 19 = .ok (.iaload, 1) := by decide +kernel
theorem dX7_rankOf_20 : decode cX7_rankOf 20 = .ok (.invokevirtual 65, 3) := by decide +kernel
theorem dX7_rankOf_23 : decode cX7_rankOf 23 = .ok (.istore 4, 2) := by decide +kernel
theorem dX7_rankOf_25 : decode cX7_rankOf 25 = .ok (.iconst 0, 1) := by decide +kernel
theorem dX7_rankOf_26 : decode cX7_rankOf 26 = .ok (.istore 5, 2) := by decide +kernel
theorem dX7_rankOf_28 : decode cX7_rankOf 28 = .ok (.iload 5, 2) := by decide +kernel
theorem dX7_rankOf_30 : decode cX7_rankOf 30 = .ok (.aload_n 0, 1) := by decide +kernel
theorem dX7_rankOf_31 : decode cX7_rankOf 31 = .ok (.getfield 69, 3) := by decide +kernel
theorem dX7_rankOf_34 : decode cX7_rankOf 34 = .ok (.if_icmp .ge 65, 3) := by decide +kernel
theorem dX7_rankOf_37 : decode cX7_rankOf 37 = .ok (.iload 5, 2) := by decide +kernel
theorem dX7_rankOf_39 : decode cX7_rankOf 39 = .ok (.iload_n 1, 1) := by decide +kernel
theorem dX7_rankOf_40 : decode cX7_rankOf 40 = .ok (.if_icmp .eq 53, 3) := by decide +kernel
theorem dX7_rankOf_43 : decode cX7_rankOf 43 = .ok (.aload_n 0, 1) := by decide +kernel
theorem dX7_rankOf_44 : decode cX7_rankOf 44 = .ok (.getfield 27, 3) := by decide +kernel
theorem dX7_rankOf_47 : decode cX7_rankOf 47 = .ok (.iload 5, 2) := by decide +kernel
theorem dX7_rankOf_49 : decode cX7_rankOf 49 = .ok (.iaload, 1) := by decide +kernel
theorem dX7_rankOf_50 : decode cX7_rankOf 50 = .ok (.ifCond .ne 43, 3) := by decide +kernel
theorem dX7_rankOf_53 : decode cX7_rankOf 53 = .ok (.aload_n 0, 1) := by decide +kernel
theorem dX7_rankOf_54 : decode cX7_rankOf 54 = .ok (.iload 5, 2) := by decide +kernel
theorem dX7_rankOf_56 : decode cX7_rankOf 56 = .ok (.aload_n 0, 1) := by decide +kernel
theorem dX7_rankOf_57 : decode cX7_rankOf 57 = .ok (.getfield 24, 3) := by decide +kernel
theorem dX7_rankOf_60 : decode cX7_rankOf 60 = .ok (.iload_n 3, 1) := by decide +kernel
theorem dX7_rankOf_61 : decode cX7_rankOf 61 = .ok (.iaload, 1) := by decide +kernel
theorem dX7_rankOf_62 : decode cX7_rankOf 62 = .ok (.invokevirtual 65, 3) := by decide +kernel
theorem dX7_rankOf_65 : decode cX7_rankOf 65 = .ok (.istore 6, 2) := by decide +kernel
theorem dX7_rankOf_67 : decode cX7_rankOf 67 = .ok (.iload_n 2, 1) := by decide +kernel
theorem dX7_rankOf_68 : decode cX7_rankOf 68 = .ok (.iload 6, 2) := by decide +kernel
theorem dX7_rankOf_70 : decode cX7_rankOf 70 = .ok (.iload 4, 2) := by decide +kernel
theorem dX7_rankOf_72 : decode cX7_rankOf 72 = .ok (.if_icmp .ge 7, 3) := by decide +kernel
theorem dX7_rankOf_75 : decode cX7_rankOf 75 = .ok (.iconst 2, 1) := by decide +kernel
theorem dX7_rankOf_76 : decode cX7_rankOf 76 = .ok (.goto 15, 3) := by decide +kernel
theorem dX7_rankOf_79 : decode cX7_rankOf 79 = .ok (.iload 6, 2) := by decide +kernel
theorem dX7_rankOf_81 : decode cX7_rankOf 81 = .ok (.iload 4, 2) := by decide +kernel
theorem dX7_rankOf_83 : decode cX7_rankOf 83 = .ok (.if_icmp .ne 7, 3) := by decide +kernel
theorem dX7_rankOf_86 : decode cX7_rankOf 86 = .ok (.iconst 1, 1) := by decide +kernel
theorem dX7_rankOf_87 : decode cX7_rankOf 87 = .ok (.goto 4, 3) := by decide +kernel
theorem dX7_rankOf_90 : decode cX7_rankOf 90 = .ok (.iconst 0, 1) := by decide +kernel
theorem dX7_rankOf_91 : decode cX7_rankOf 91 = .ok (.iadd, 1) := by decide +kernel
theorem dX7_rankOf_92 : decode cX7_rankOf 92 = .ok (.istore_n 2, 1) := by decide +kernel
theorem dX7_rankOf_93 : decode cX7_rankOf 93 = .ok (.iinc 5 1, 3) := by decide +kernel
theorem dX7_rankOf_96 : decode cX7_rankOf 96 = .ok (.goto (-68), 3) := by decide +kernel
theorem dX7_rankOf_99 : decode cX7_rankOf 99 = .ok (.iinc 3 1, 3) := by decide +kernel
theorem dX7_rankOf_102 : decode cX7_rankOf 102 = .ok (.goto (-98), 3) := by decide +kernel
theorem dX7_rankOf_105 : decode cX7_rankOf 105 = .ok (.iload_n 2, 1) := by decide +kernel
theorem dX7_rankOf_106 : decode cX7_rankOf 106 = .ok (.ireturn, 1) := by decide +kernel
theorem dX7_leader_0 : decode cX7_leader 0 = .ok (.iconst (-1), 1) := by decide +kernel
theorem dX7_leader_1 : decode cX7_leader 1 = .ok (.istore_n 1, 1) := by decide +kernel
theorem dX7_leader_2 : decode cX7_leader 2 = .ok (.iconst 0, 1) := by decide +kernel
theorem dX7_leader_3 : decode cX7_leader 3 = .ok (.istore_n 2, 1) := by decide +kernel
theorem dX7_leader_4 : decode cX7_leader 4 = .ok (.iload_n 2, 1) := by decide +kernel
theorem dX7_leader_5 : decode cX7_leader 5 = .ok (.aload_n 0, 1) := by decide +kernel
theorem dX7_leader_6 : decode cX7_leader 6 = .ok (.getfield 69, 3) := by decide +kernel
theorem dX7_leader_9 : decode cX7_leader 9 = .ok (.if_icmp .ge 41, 3) := by decide +kernel
theorem dX7_leader_12 : decode cX7_leader 12 = .ok (.aload_n 0, 1) := by decide +kernel
theorem dX7_leader_13 : decode cX7_leader 13 = .ok (.getfield 27, 3) := by decide +kernel
theorem dX7_leader_16 : decode cX7_leader 16 = .ok (.iload_n 2, 1) := by decide +kernel
theorem dX7_leader_17 : decode cX7_leader 17 = .ok (.iaload, 1) := by decide +kernel
theorem dX7_leader_18 : decode cX7_leader 18 = .ok (.ifCond .ne 24, 3) := by decide +kernel
theorem dX7_leader_21 : decode cX7_leader 21 = .ok (.iload_n 1, 1) := by decide +kernel
theorem dX7_leader_22 : decode cX7_leader 22 = .ok (.ifCond .lt 16, 3) := by decide +kernel
theorem dX7_leader_25 : decode cX7_leader 25 = .ok (.aload_n 0, 1) := by decide +kernel
theorem dX7_leader_26 : decode cX7_leader 26 = .ok (.iload_n 2, 1) := by decide +kernel
theorem dX7_leader_27 : decode cX7_leader 27 = .ok (.invokevirtual 117, 3) := by decide +kernel
theorem dX7_leader_30 : decode cX7_leader 30 = .ok (.aload_n 0, 1) := by decide +kernel
theorem dX7_leader_31 : decode cX7_leader 31 = .ok (.iload_n 1, 1) := by decide +kernel
theorem dX7_leader_32 : decode cX7_leader 32 = .ok (.invokevirtual 117, 3) := by decide +kernel
theorem dX7_leader_35 : decode cX7_leader 35 = .ok (.if_icmp .ge 7, 3) := by decide +kernel
theorem dX7_leader_38 : decode cX7_leader 38 = .ok (.iload_n 2, 1) := by decide +kernel
theorem dX7_leader_39 : decode cX7_leader 39 = .ok (.goto 4, 3) := by decide +kernel
theorem dX7_leader_42 : decode cX7_leader 42 = .ok (.iload_n 1, 1) := by decide +kernel
theorem dX7_leader_43 : decode cX7_leader 43 = .ok (.istore_n 1, 1) := by decide +kernel
theorem dX7_leader_44 : decode cX7_leader 44 = .ok (.iinc 2 1, 3) := by decide +kernel
theorem dX7_leader_47 : decode cX7_leader 47 = .ok (.goto (-43), 3) := by decide +kernel
theorem dX7_leader_50 : decode cX7_leader 50 = .ok (.iload_n 1, 1) := by decide +kernel
theorem dX7_leader_51 : decode cX7_leader 51 = .ok (.ireturn, 1) := by decide +kernel
theorem dX7_drop_0 : decode cX7_drop 0 = .ok (.aload_n 0, 1) := by decide +kernel
theorem dX7_drop_1 : decode cX7_drop 1 = .ok (.invokevirtual 121, 3) := by decide +kernel
theorem dX7_drop_4 : decode cX7_drop 4 = .ok (.istore_n 1, 1) := by decide +kernel
theorem dX7_drop_5 : decode cX7_drop 5 = .ok (.aload_n 0, 1) := by decide +kernel
theorem dX7_drop_6 : decode cX7_drop 6 = .ok (.invokevirtual 72, 3) := by decide +kernel
theorem dX7_drop_9 : decode cX7_drop 9 = .ok (.istore_n 2, 1) := by decide +kernel
theorem dX7_drop_10 : decode cX7_drop 10 = .ok (.iconst 0, 1) := by decide +kernel
theorem dX7_drop_11 : decode cX7_drop 11 = .ok (.istore_n 3, 1) := by decide +kernel
theorem dX7_drop_12 : decode cX7_drop 12 = .ok (.iload_n 3, 1) := by decide +kernel
theorem dX7_drop_13 : decode cX7_drop 13 = .ok (.aload_n 0, 1) := by decide +kernel
theorem dX7_drop_14 : decode cX7_drop 14 = .ok (.getfield 69, 3) := by decide +kernel
theorem dX7_drop_17 : decode cX7_drop 17 = .ok (.if_icmp .ge 38, 3) := by decide +kernel
theorem dX7_drop_20 : decode cX7_drop 20 = .ok (.aload_n 0, 1) := by decide +kernel
theorem dX7_drop_21 : decode cX7_drop 21 = .ok (.getfield 30, 3) := by decide +kernel
theorem dX7_drop_24 : decode cX7_drop 24 = .ok (.iload_n 3, 1) := by decide +kernel
theorem dX7_drop_25 : decode cX7_drop 25 = .ok (.aload_n 0, 1) := by decide +kernel
theorem dX7_drop_26 : decode cX7_drop 26 = .ok (.getfield 27, 3) := by decide +kernel
theorem dX7_drop_29 : decode cX7_drop 29 = .ok (.iload_n 3, 1) := by decide +kernel
theorem dX7_drop_30 : decode cX7_drop 30 = .ok (.iaload, 1) := by decide +kernel
theorem dX7_drop_31 : decode cX7_drop 31 = .ok (.ifCond .ne 16, 3) := by decide +kernel
theorem dX7_drop_34 : decode cX7_drop 34 = .ok (.iload_n 3, 1) := by decide +kernel
theorem dX7_drop_35 : decode cX7_drop 35 = .ok (.iload_n 1, 1) := by decide +kernel
theorem dX7_drop_36 : decode cX7_drop 36 = .ok (.if_icmp .eq 11, 3) := by decide +kernel
theorem dX7_drop_39 : decode cX7_drop 39 = .ok (.aload_n 0, 1) := by decide +kernel
theorem dX7_drop_40 : decode cX7_drop 40 = .ok (.iload_n 3, 1) := by decide +kernel
theorem dX7_drop_41 : decode cX7_drop 41 = .ok (.invokevirtual 117, 3) := by decide +kernel
theorem dX7_drop_44 : decode cX7_drop 44 = .ok (.goto 4, 3) := by decide +kernel
theorem dX7_drop_47 : decode cX7_drop 47 = .ok (.iconst (-1), 1) := by decide +kernel
theorem dX7_drop_48 : decode cX7_drop 48 = .ok (.iastore, 1) := by decide +kernel
theorem dX7_drop_49 : decode cX7_drop 49 = .ok (.iinc 3 1, 3) := by decide +kernel
theorem dX7_drop_52 : decode cX7_drop 52 = .ok (.goto (-40), 3) := by decide +kernel
theorem dX7_drop_55 : decode cX7_drop 55 = .ok (.iconst 1, 1) := by decide +kernel
theorem dX7_drop_56 : decode cX7_drop 56 = .ok (.istore_n 3, 1) := by decide +kernel
theorem dX7_drop_57 : decode cX7_drop 57 = .ok (.iload_n 3, 1) := by decide +kernel
theorem dX7_drop_58 : decode cX7_drop 58 = .ok (.bipush 12, 2) := by decide +kernel
theorem dX7_drop_60 : decode cX7_drop 60 = .ok (.if_icmp .ge 137, 3) := by decide +kernel
theorem dX7_drop_63 : decode cX7_drop 63 = .ok (.iconst (-1), 1) := by decide +kernel
theorem dX7_drop_64 : decode cX7_drop 64 = .ok (.istore 4, 2) := by decide +kernel
theorem dX7_drop_66 : decode cX7_drop 66 = .ok (.iconst 0, 1) := by decide +kernel
theorem dX7_drop_67 : decode cX7_drop 67 = .ok (.istore 5, 2) := by decide +kernel
theorem dX7_drop_69 : decode cX7_drop 69 = .ok (.iload 5, 2) := by decide +kernel
theorem dX7_drop_71 : decode cX7_drop 71 = .ok (.aload_n 0, 1) := by decide +kernel
theorem dX7_drop_72 : decode cX7_drop 72 = .ok (.getfield 69, 3) := by decide +kernel
theorem dX7_drop_75 : decode cX7_drop 75 = .ok (.if_icmp .ge 50, 3) := by decide +kernel
theorem dX7_drop_78 : decode cX7_drop 78 = .ok (.aload_n 0, 1) := by decide +kernel
theorem dX7_drop_79 : decode cX7_drop 79 = .ok (.getfield 30, 3) := by decide +kernel
theorem dX7_drop_82 : decode cX7_drop 82 = .ok (.iload 5, 2) := by decide +kernel
theorem dX7_drop_84 : decode cX7_drop 84 = .ok (.iaload, 1) := by decide +kernel
theorem dX7_drop_85 : decode cX7_drop 85 = .ok (.ifCond .lt 30, 3) := by decide +kernel
theorem dX7_drop_88 : decode cX7_drop 88 = .ok (.iload 4, 2) := by decide +kernel
theorem dX7_drop_90 : decode cX7_drop 90 = .ok (.ifCond .lt 20, 3) := by decide +kernel
theorem dX7_drop_93 : decode cX7_drop 93 = .ok (.aload_n 0, 1) := by decide +kernel
theorem dX7_drop_94 : decode cX7_drop 94 = .ok (.getfield 30, 3) := by decide +kernel
theorem dX7_drop_97 : decode cX7_drop 97 = .ok (.iload 5, 2) := by decide +kernel
theorem dX7_drop_99 : decode cX7_drop 99 = .ok (.iaload, 1) := by decide +kernel
theorem dX7_drop_100 : decode cX7_drop 100 = .ok (.aload_n 0, 1) := by decide +kernel
theorem dX7_drop_101 : decode cX7_drop 101 = .ok (.getfield 30, 3) := by decide +kernel
theorem dX7_drop_104 : decode cX7_drop 104 = .ok (.iload 4, 2) := by decide +kernel
theorem dX7_drop_106 : decode cX7_drop 106 = .ok (.iaload, 1) := by decide +kernel
theorem dX7_drop_107 : decode cX7_drop 107 = .ok (.if_icmp .lt 8, 3) := by decide +kernel
theorem dX7_drop_110 : decode cX7_drop 110 = .ok (.iload 5, 2) := by decide +kernel
theorem dX7_drop_112 : decode cX7_drop 112 = .ok (.goto 5, 3) := by decide +kernel
theorem dX7_drop_115 : decode cX7_drop 115 = .ok (.iload 4, 2) := by decide +kernel
theorem dX7_drop_117 : decode cX7_drop 117 = .ok (.istore 4, 2) := by decide +kernel
theorem dX7_drop_119 : decode cX7_drop 119 = .ok (.iinc 5 1, 3) := by decide +kernel
theorem dX7_drop_122 : decode cX7_drop 122 = .ok (.goto (-53), 3) := by decide +kernel
theorem dX7_drop_125 : decode cX7_drop 125 = .ok (.iload 4, 2) := by decide +kernel
theorem dX7_drop_127 : decode cX7_drop 127 = .ok (.ifCond .lt 64, 3) := by decide +kernel
theorem dX7_drop_130 : decode cX7_drop 130 = .ok (.aload_n 0, 1) := by decide +kernel
theorem dX7_drop_131 : decode cX7_drop 131 = .ok (.getfield 30, 3) := by decide +kernel
theorem dX7_drop_134 : decode cX7_drop 134 = .ok (.iload 4, 2) := by decide +kernel
theorem dX7_drop_136 : decode cX7_drop 136 = .ok (.iconst (-1), 1) := by decide +kernel
theorem dX7_drop_137 : decode cX7_drop 137 = .ok (.iastore, 1) := by decide +kernel
theorem dX7_drop_138 : decode cX7_drop 138 = .ok (.aload_n 0, 1) := by decide +kernel
theorem dX7_drop_139 : decode cX7_drop 139 = .ok (.iload_n 1, 1) := by decide +kernel
theorem dX7_drop_140 : decode cX7_drop 140 = .ok (.iload 4, 2) := by decide +kernel
theorem dX7_drop_142 : decode cX7_drop 142 = .ok (.invokevirtual 124, 3) := by decide +kernel
theorem dX7_drop_145 : decode cX7_drop 145 = .ok (.iload_n 2, 1) := by decide +kernel
theorem dX7_drop_146 : decode cX7_drop 146 = .ok (.aload_n 0, 1) := by decide +kernel
theorem dX7_drop_147 : decode cX7_drop 147 = .ok (.getfield 76, 3) := by decide +kernel
theorem dX7_drop_150 : decode cX7_drop 150 = .ok (.if_icmp .le 41, 3) := by decide +kernel
theorem dX7_drop_153 : decode cX7_drop 153 = .ok (.aload_n 0, 1) := by decide +kernel
theorem dX7_drop_154 : decode cX7_drop 154 = .ok (.getfield 128, 3) := by decide +kernel
theorem dX7_drop_157 : decode cX7_drop 157 = .ok (.aload_n 0, 1) := by decide +kernel
theorem dX7_drop_158 : decode cX7_drop 158 = .ok (.getfield 103, 3) := by decide +kernel
theorem dX7_drop_161 : decode cX7_drop 161 = .ok (.i2l, 1) := by decide +kernel
theorem dX7_drop_162 : decode cX7_drop 162 = .ok (.lmul, 1) := by decide +kernel
theorem dX7_drop_163 : decode cX7_drop 163 = .ok (.aload_n 0, 1) := by decide +kernel
theorem dX7_drop_164 : decode cX7_drop 164 = .ok (.getfield 132, 3) := by decide +kernel
theorem dX7_drop_167 : decode cX7_drop 167 = .ok (.aload_n 0, 1) := by decide +kernel
theorem dX7_drop_168 : decode cX7_drop 168 = .ok (.getfield 100, 3) := by decide +kernel
theorem dX7_drop_171 : decode cX7_drop 171 = .ok (.i2l, 1) := by decide +kernel
theorem dX7_drop_172 : decode cX7_drop 172 = .ok (.lmul, 1) := by decide +kernel
theorem dX7_drop_173 : decode cX7_drop 173 = .ok (.lcmp, 1) := by decide +kernel
theorem dX7_drop_174 : decode cX7_drop 174 = .ok (.ifCond .gt 17, 3) := by decide +kernel
theorem dX7_drop_177 : decode cX7_drop 177 = .ok (.aload_n 0, 1) := by decide +kernel
theorem dX7_drop_178 : decode cX7_drop 178 = .ok (.getfield 27, 3) := by decide +kernel
theorem dX7_drop_181 : decode cX7_drop 181 = .ok (.iload 4, 2) := by decide +kernel
theorem dX7_drop_183 : decode cX7_drop 183 = .ok (.aload_n 0, 1) := by decide +kernel
theorem dX7_drop_184 : decode cX7_drop 184 = .ok (.getfield 79, 3) := by decide +kernel
theorem dX7_drop_187 : decode cX7_drop 187 = .ok (.iastore, 1) := by decide +kernel
theorem dX7_drop_188 : decode cX7_drop 188 = .ok (.iinc 2 (-1), 3) := by decide +kernel
theorem dX7_drop_191 : decode cX7_drop 191 = .ok (.iinc 3 1, 3) := by decide +kernel
theorem dX7_drop_194 : decode cX7_drop 194 = .ok (.goto (-137), 3) := by decide +kernel
theorem dX7_drop_197 : decode cX7_drop 197 = .ok (.return_, 1) := by decide +kernel
theorem dX7_ranOf_0 : decode cX7_ranOf 0 = .ok (.aload_n 0, 1) := by decide +kernel
theorem dX7_ranOf_1 : decode cX7_ranOf 1 = .ok (.getfield 27, 3) := by decide +kernel
theorem dX7_ranOf_4 : decode cX7_ranOf 4 = .ok (.iload_n 1, 1) := by decide +kernel
theorem dX7_ranOf_5 : decode cX7_ranOf 5 = .ok (.iaload, 1) := by decide +kernel
theorem dX7_ranOf_6 : decode cX7_ranOf 6 = .ok (.ifCond .ne 10, 3) := by decide +kernel
theorem dX7_ranOf_9 : decode cX7_ranOf 9 = .ok (.aload_n 0, 1) := by decide +kernel
theorem dX7_ranOf_10 : decode cX7_ranOf 10 = .ok (.getfield 79, 3) := by decide +kernel
theorem dX7_ranOf_13 : decode cX7_ranOf 13 = .ok (.goto 9, 3) := by decide +kernel
theorem dX7_ranOf_16 : decode cX7_ranOf 16 = .ok (.aload_n 0, 1) := by decide +kernel
theorem dX7_ranOf_17 : decode cX7_ranOf 17 = .ok (.getfield 27, 3) := by decide +kernel
theorem dX7_ranOf_20 : decode cX7_ranOf 20 = .ok (.iload_n 1, 1) := by decide +kernel
theorem dX7_ranOf_21 : decode cX7_ranOf 21 = .ok (.iaload, 1) := by decide +kernel
theorem dX7_ranOf_22 : decode cX7_ranOf 22 = .ok (.ireturn, 1) := by decide +kernel
theorem dX7_findOdds_0 : decode cX7_findOdds 0 = .ok (.iconst 0, 1) := by decide +kernel
theorem dX7_findOdds_1 : decode cX7_findOdds 1 = .ok (.istore_n 3, 1) := by decide +kernel
theorem dX7_findOdds_2 : decode cX7_findOdds 2 = .ok (.iconst 0, 1) := by decide +kernel
theorem dX7_findOdds_3 : decode cX7_findOdds 3 = .ok (.istore 4, 2) := by decide +kernel
theorem dX7_findOdds_5 : decode cX7_findOdds 5 = .ok (.aload_n 0, 1) := by decide +kernel
theorem dX7_findOdds_6 : decode cX7_findOdds 6 = .ok (.iload_n 1, 1) := by decide +kernel
theorem dX7_findOdds_7 : decode cX7_findOdds 7 = .ok (.invokevirtual 135, 3) := by decide +kernel
theorem dX7_findOdds_10 : decode cX7_findOdds 10 = .ok (.aload_n 0, 1) := by decide +kernel
theorem dX7_findOdds_11 : decode cX7_findOdds 11 = .ok (.iload_n 2, 1) := by decide +kernel
theorem dX7_findOdds_12 : decode cX7_findOdds 12 = .ok (.invokevirtual 135, 3) := by decide +kernel
theorem dX7_findOdds_15 : decode cX7_findOdds 15 = .ok (.if_icmp .ge 11, 3) := by decide +kernel
theorem dX7_findOdds_18 : decode cX7_findOdds 18 = .ok (.aload_n 0, 1) := by decide +kernel
theorem dX7_findOdds_19 : decode cX7_findOdds 19 = .ok (.iload_n 1, 1) := by decide +kernel
theorem dX7_findOdds_20 : decode cX7_findOdds 20 = .ok (.invokevirtual 135, 3) := by decide +kernel
theorem dX7_findOdds_23 : decode cX7_findOdds 23 = .ok (.goto 8, 3) := by decide +kernel
theorem dX7_findOdds_26 : decode cX7_findOdds 26 = .ok (.aload_n 0, 1) := by decide +kernel
theorem dX7_findOdds_27 : decode cX7_findOdds 27 = .ok (.iload_n 2, 1) := by decide +kernel
theorem dX7_findOdds_28 : decode cX7_findOdds 28 = .ok (.invokevirtual 135, 3) := by decide +kernel
theorem dX7_findOdds_31 : decode cX7_findOdds 31 = .ok (.istore 5, 2) := by decide +kernel
theorem dX7_findOdds_33 : decode cX7_findOdds 33 = .ok (.iconst 0, 1) := by decide +kernel
theorem dX7_findOdds_34 : decode cX7_findOdds 34 = .ok (.istore 6, 2) := by decide +kernel
theorem dX7_findOdds_36 : decode cX7_findOdds 36 = .ok (.iload 6, 2) := by decide +kernel
theorem dX7_findOdds_38 : decode cX7_findOdds 38 = .ok (.iload 5, 2) := by decide +kernel
theorem dX7_findOdds_40 : decode cX7_findOdds 40 = .ok (.if_icmp .ge 94, 3) := by decide +kernel
theorem dX7_findOdds_43 : decode cX7_findOdds 43 = .ok (.aload_n 0, 1) := by decide +kernel
theorem dX7_findOdds_44 : decode cX7_findOdds 44 = .ok (.iload_n 1, 1) := by decide +kernel
theorem dX7_findOdds_45 : decode cX7_findOdds 45 = .ok (.aload_n 0, 1) := by decide +kernel
theorem dX7_findOdds_46 : decode cX7_findOdds 46 = .ok (.getfield 24, 3) := by decide +kernel
theorem dX7_findOdds_49 : decode cX7_findOdds 49 = .ok (.iload 6, 2) := by decide +kernel
theorem dX7_findOdds_51 : decode cX7_findOdds 51 = .ok (.iaload, 1) := by decide +kernel
theorem dX7_findOdds_52 : decode cX7_findOdds 52 = .ok (.invokevirtual 65, 3) := by decide +kernel
theorem dX7_findOdds_55 : decode cX7_findOdds 55 = .ok (.aload_n 0, 1) := by decide +kernel
theorem dX7_findOdds_56 : decode cX7_findOdds 56 = .ok (.iload_n 2, 1) := by decide +kernel
theorem dX7_findOdds_57 : decode cX7_findOdds 57 = .ok (.aload_n 0, 1) := by decide +kernel
theorem dX7_findOdds_58 : decode cX7_findOdds 58 = .ok (.getfield 24, 3) := by decide +kernel
theorem dX7_findOdds_61 : decode cX7_findOdds 61 = .ok (.iload 6, 2) := by decide +kernel
theorem dX7_findOdds_63 : decode cX7_findOdds 63 = .ok (.iaload, 1) := by decide +kernel
theorem dX7_findOdds_64 : decode cX7_findOdds 64 = .ok (.invokevirtual 65, 3) := by decide +kernel
theorem dX7_findOdds_67 : decode cX7_findOdds 67 = .ok (.isub, 1) := by decide +kernel
theorem dX7_findOdds_68 : decode cX7_findOdds 68 = .ok (.istore 7, 2) := by decide +kernel
theorem dX7_findOdds_70 : decode cX7_findOdds 70 = .ok (.iload 7, 2) := by decide +kernel
theorem dX7_findOdds_72 : decode cX7_findOdds 72 = .ok (.ifCond .eq 56, 3) := by decide +kernel
theorem dX7_findOdds_75 : decode cX7_findOdds 75 = .ok (.aload_n 0, 1) := by decide +kernel
theorem dX7_findOdds_76 : decode cX7_findOdds 76 = .ok (.getfield 33, 3) := by decide +kernel
theorem dX7_findOdds_79 : decode cX7_findOdds 79 = .ok (.iload_n 3, 1) := by decide +kernel
theorem dX7_findOdds_80 : decode cX7_findOdds 80 = .ok (.iload 7, 2) := by decide +kernel
theorem dX7_findOdds_82 : decode cX7_findOdds 82 = .ok (.ifCond .ge 9, 3) := by decide +kernel
theorem dX7_findOdds_85 : decode cX7_findOdds 85 = .ok (.iload 7, 2) := by decide +kernel
theorem dX7_findOdds_87 : decode cX7_findOdds 87 = .ok (.ineg, 1) := by decide +kernel
theorem dX7_findOdds_88 : decode cX7_findOdds 88 = .ok (.goto 5, 3) := by decide +kernel
theorem dX7_findOdds_91 : decode cX7_findOdds 91 = .ok (.iload 7, 2) := by decide +kernel
theorem dX7_findOdds_93 : decode cX7_findOdds 93 = .ok (.iastore, 1) := by decide +kernel
theorem dX7_findOdds_94 : decode cX7_findOdds 94 = .ok (.aload_n 0, 1) := by decide +kernel
theorem dX7_findOdds_95 : decode cX7_findOdds 95 = .ok (.getfield 36, 3) := by decide +kernel
theorem dX7_findOdds_98 : decode cX7_findOdds 98 = .ok (.iload_n 3, 1) := by decide +kernel
theorem dX7_findOdds_99 : decode cX7_findOdds 99 = .ok (.iload 7, 2) := by decide +kernel
theorem dX7_findOdds_101 : decode cX7_findOdds 101 = .ok (.ifCond .ge 7, 3) := by decide +kernel
theorem dX7_findOdds_104 : decode cX7_findOdds 104 = .ok (.iconst 1, 1) := by decide +kernel
theorem dX7_findOdds_105 : decode cX7_findOdds 105 = .ok (.goto 4, 3) := by decide +kernel
theorem dX7_findOdds_108 : decode cX7_findOdds 108 = .ok (.iconst 0, 1) := by decide +kernel
theorem dX7_findOdds_109 : decode cX7_findOdds 109 = .ok (.bastore, 1) := by decide +kernel
theorem dX7_findOdds_110 : decode cX7_findOdds 110 = .ok (.iload 4, 2) := by decide +kernel
theorem dX7_findOdds_112 : decode cX7_findOdds 112 = .ok (.iload 7, 2) := by decide +kernel
theorem dX7_findOdds_114 : decode cX7_findOdds 114 = .ok (.ifCond .ge 7, 3) := by decide +kernel
theorem dX7_findOdds_117 : decode cX7_findOdds 117 = .ok (.iconst 1, 1) := by decide +kernel
theorem dX7_findOdds_118 : decode cX7_findOdds 118 = .ok (.goto 4, 3) := by decide +kernel
theorem dX7_findOdds_121 : decode cX7_findOdds 121 = .ok (.iconst 0, 1) := by decide +kernel
theorem dX7_findOdds_122 : decode cX7_findOdds 122 = .ok (.iadd, 1) := by decide +kernel
theorem dX7_findOdds_123 : decode cX7_findOdds 123 = .ok (.istore 4, 2) := by decide +kernel
theorem dX7_findOdds_125 : decode cX7_findOdds 125 = .ok (.iinc 3 1, 3) := by decide +kernel
theorem dX7_findOdds_128 : decode cX7_findOdds 128 = .ok (.iinc 6 1, 3) := by decide +kernel
theorem dX7_findOdds_131 : decode cX7_findOdds 131 = .ok (.goto (-95), 3) := by decide +kernel
theorem dX7_findOdds_134 : decode cX7_findOdds 134 = .ok (.iconst 0, 1) := by decide +kernel
theorem dX7_findOdds_135 : decode cX7_findOdds 135 = .ok (.istore 6, 2) := by decide +kernel
theorem dX7_findOdds_137 : decode cX7_findOdds 137 = .ok (.iconst 0, 1) := by decide +kernel
theorem dX7_findOdds_138 : decode cX7_findOdds 138 = .ok (.istore 7, 2) := by decide +kernel
theorem dX7_findOdds_140 : decode cX7_findOdds 140 = .ok (.iconst 0, 1) := by decide +kernel
theorem dX7_findOdds_141 : decode cX7_findOdds 141 = .ok (.istore 8, 2) := by decide +kernel
theorem dX7_findOdds_143 : decode cX7_findOdds 143 = .ok (.iload 8, 2) := by decide +kernel
theorem dX7_findOdds_145 : decode cX7_findOdds 145 = .ok (.sipush 1300, 3) := by decide +kernel
theorem dX7_findOdds_148 : decode cX7_findOdds 148 = .ok (.if_icmp .ge 17, 3) := by decide +kernel
theorem dX7_findOdds_151 : decode cX7_findOdds 151 = .ok (.aload_n 0, 1) := by decide +kernel
theorem dX7_findOdds_152 : decode cX7_findOdds 152 = .ok (.getfield 39, 3) := by decide +kernel
theorem dX7_findOdds_155 : decode cX7_findOdds 155 = .ok (.iload 8, 2) := by decide +kernel
theorem dX7_findOdds_157 : decode cX7_findOdds 157 = .ok (.lconst 0, 1) := by decide +kernel
theorem dX7_findOdds_158 : decode cX7_findOdds 158 = .ok (.lastore, 1) := by decide +kernel
theorem dX7_findOdds_159 : decode cX7_findOdds 159 = .ok (.iinc 8 1, 3) := by decide +kernel
theorem dX7_findOdds_162 : decode cX7_findOdds 162 = .ok (.goto (-19), 3) := by decide +kernel
theorem dX7_findOdds_165 : decode cX7_findOdds 165 = .ok (.aload_n 0, 1) := by decide +kernel
theorem dX7_findOdds_166 : decode cX7_findOdds 166 = .ok (.getfield 39, 3) := by decide +kernel
theorem dX7_findOdds_169 : decode cX7_findOdds 169 = .ok (.iconst 0, 1) := by decide +kernel
theorem dX7_findOdds_170 : decode cX7_findOdds 170 = .ok (.lconst 1, 1) := by decide +kernel
theorem dX7_findOdds_171 : decode cX7_findOdds 171 = .ok (.lastore, 1) := by decide +kernel
theorem dX7_findOdds_172 : decode cX7_findOdds 172 = .ok (.iconst 0, 1) := by decide +kernel
theorem dX7_findOdds_173 : decode cX7_findOdds 173 = .ok (.istore 8, 2) := by decide +kernel
theorem dX7_findOdds_175 : decode cX7_findOdds 175 = .ok (.iload 8, 2) := by decide +kernel
theorem dX7_findOdds_177 : decode cX7_findOdds 177 = .ok (.iload_n 3, 1) := by decide +kernel
theorem dX7_findOdds_178 : decode cX7_findOdds 178 = .ok (.if_icmp .ge 170, 3) := by decide +kernel
theorem dX7_findOdds_181 : decode cX7_findOdds 181 = .ok (.aload_n 0, 1) := by decide +kernel
theorem dX7_findOdds_182 : decode cX7_findOdds 182 = .ok (.getfield 20, 3) := by decide +kernel
theorem dX7_findOdds_185 : decode cX7_findOdds 185 = .ok (.ifCond .ne 7, 3) := by decide +kernel
theorem dX7_findOdds_188 : decode cX7_findOdds 188 = .ok (.iconst 1, 1) := by decide +kernel
theorem dX7_findOdds_189 : decode cX7_findOdds 189 = .ok (.goto 4, 3) := by decide +kernel
theorem dX7_findOdds_192 : decode cX7_findOdds 192 = .ok (.iconst 2, 1) := by decide +kernel
theorem dX7_findOdds_193 : decode cX7_findOdds 193 = .ok (.istore 9, 2) := by decide +kernel
theorem dX7_findOdds_195 : decode cX7_findOdds 195 = .ok (.iconst 0, 1) := by decide +kernel
theorem dX7_findOdds_196 : decode cX7_findOdds 196 = .ok (.istore 10, 2) := by decide +kernel
theorem dX7_findOdds_198 : decode cX7_findOdds 198 = .ok (.iload 10, 2) := by decide +kernel
theorem dX7_findOdds_200 : decode cX7_findOdds 200 = .ok (.iload_n 3, 1) := by decide +kernel
theorem dX7_findOdds_201 : decode cX7_findOdds 201 = .ok (.if_icmp .ge 76, 3) := by decide +kernel
theorem dX7_findOdds_204 : decode cX7_findOdds 204 = .ok (.aload_n 0, 1) := by decide +kernel
theorem dX7_findOdds_205 : decode cX7_findOdds 205 = .ok (.getfield 20, 3) := by decide +kernel
theorem dX7_findOdds_208 : decode cX7_findOdds 208 = .ok (.iconst 1, 1) := by decide +kernel
theorem dX7_findOdds_209 : decode cX7_findOdds 209 = .ok (.if_icmp .ne 68, 3) := by decide +kernel
theorem dX7_findOdds_212 : decode cX7_findOdds 212 = .ok (.iload 9, 2) := by decide +kernel
theorem dX7_findOdds_214 : decode cX7_findOdds 214 = .ok (.iload 10, 2) := by decide +kernel
theorem dX7_findOdds_216 : decode cX7_findOdds 216 = .ok (.iload 8, 2) := by decide +kernel
theorem dX7_findOdds_218 : decode cX7_findOdds 218 = .ok (.if_icmp .ne 7, 3) := by decide +kernel
theorem dX7_findOdds_221 : decode cX7_findOdds 221 = .ok (.iconst 0, 1) := by decide +kernel
theorem dX7_findOdds_222 : decode cX7_findOdds 222 = .ok (.goto 46, 3) := by decide +kernel
theorem dX7_findOdds_225 : decode cX7_findOdds 225 = .ok (.aload_n 0, 1) := by decide +kernel
theorem dX7_findOdds_226 : decode cX7_findOdds 226 = .ok (.getfield 33, 3) := by decide +kernel
theorem dX7_findOdds_229 : decode cX7_findOdds 229 = .ok (.iload 10, 2) := by decide +kernel
theorem dX7_findOdds_231 : decode cX7_findOdds 231 = .ok (.iaload, 1) := by decide +kernel
theorem dX7_findOdds_232 : decode cX7_findOdds 232 = .ok (.aload_n 0, 1) := by decide +kernel
theorem dX7_findOdds_233 : decode cX7_findOdds 233 = .ok (.getfield 33, 3) := by decide +kernel
theorem dX7_findOdds_236 : decode cX7_findOdds 236 = .ok (.iload 8, 2) := by decide +kernel
theorem dX7_findOdds_238 : decode cX7_findOdds 238 = .ok (.iaload, 1) := by decide +kernel
theorem dX7_findOdds_239 : decode cX7_findOdds 239 = .ok (.if_icmp .ge 7, 3) := by decide +kernel
theorem dX7_findOdds_242 : decode cX7_findOdds 242 = .ok (.iconst 2, 1) := by decide +kernel
theorem dX7_findOdds_243 : decode cX7_findOdds 243 = .ok (.goto 25, 3) := by decide +kernel
theorem dX7_findOdds_246 : decode cX7_findOdds 246 = .ok (.aload_n 0, 1) := by decide +kernel
theorem dX7_findOdds_247 : decode cX7_findOdds 247 = .ok (.getfield 33, 3) := by decide +kernel
theorem dX7_findOdds_250 : decode cX7_findOdds 250 = .ok (.iload 10, 2) := by decide +kernel
theorem dX7_findOdds_252 : decode cX7_findOdds 252 = .ok (.iaload, 1) := by decide +kernel
theorem dX7_findOdds_253 : decode cX7_findOdds 253 = .ok (.aload_n 0, 1) := by decide +kernel
theorem dX7_findOdds_254 : decode cX7_findOdds 254 = .ok (.getfield 33, 3) := by decide +kernel
theorem dX7_findOdds_257 : decode cX7_findOdds 257 = .ok (.iload 8, 2) := by decide +kernel
theorem dX7_findOdds_259 : decode cX7_findOdds 259 = .ok (.iaload, 1) := by decide +kernel
theorem dX7_findOdds_260 : decode cX7_findOdds 260 = .ok (.if_icmp .ne 7, 3) := by decide +kernel
theorem dX7_findOdds_263 : decode cX7_findOdds 263 = .ok (.iconst 1, 1) := by decide +kernel
theorem dX7_findOdds_264 : decode cX7_findOdds 264 = .ok (.goto 4, 3) := by decide +kernel
theorem dX7_findOdds_267 : decode cX7_findOdds 267 = .ok (.iconst 0, 1) := by decide +kernel
theorem dX7_findOdds_268 : decode cX7_findOdds 268 = .ok (.iadd, 1) := by decide +kernel
theorem dX7_findOdds_269 : decode cX7_findOdds 269 = .ok (.istore 9, 2) := by decide +kernel
theorem dX7_findOdds_271 : decode cX7_findOdds 271 = .ok (.iinc 10 1, 3) := by decide +kernel
theorem dX7_findOdds_274 : decode cX7_findOdds 274 = .ok (.goto (-76), 3) := by decide +kernel
theorem dX7_findOdds_277 : decode cX7_findOdds 277 = .ok (.iload 7, 2) := by decide +kernel
theorem dX7_findOdds_279 : decode cX7_findOdds 279 = .ok (.aload_n 0, 1) := by decide +kernel
theorem dX7_findOdds_280 : decode cX7_findOdds 280 = .ok (.getfield 36, 3) := by decide +kernel
theorem dX7_findOdds_283 : decode cX7_findOdds 283 = .ok (.iload 8, 2) := by decide +kernel
theorem dX7_findOdds_285 : decode cX7_findOdds 285 = .ok (.baload, 1) := by decide +kernel
theorem dX7_findOdds_286 : decode cX7_findOdds 286 = .ok (.ifCond .eq 8, 3) := by decide +kernel
theorem dX7_findOdds_289 : decode cX7_findOdds 289 = .ok (.iload 9, 2) := by decide +kernel
theorem dX7_findOdds_291 : decode cX7_findOdds 291 = .ok (.goto 4, 3) := by decide +kernel
theorem dX7_findOdds_294 : decode cX7_findOdds 294 = .ok (.iconst 0, 1) := by decide +kernel
theorem dX7_findOdds_295 : decode cX7_findOdds 295 = .ok (.iadd, 1) := by decide +kernel
theorem dX7_findOdds_296 : decode cX7_findOdds 296 = .ok (.istore 7, 2) := by decide +kernel
theorem dX7_findOdds_298 : decode cX7_findOdds 298 = .ok (.iload 6, 2) := by decide +kernel
theorem dX7_findOdds_300 : decode cX7_findOdds 300 = .ok (.iload 9, 2) := by decide +kernel
theorem dX7_findOdds_302 : decode cX7_findOdds 302 = .ok (.iadd, 1) := by decide +kernel
theorem dX7_findOdds_303 : decode cX7_findOdds 303 = .ok (.istore 6, 2) := by decide +kernel
theorem dX7_findOdds_305 : decode cX7_findOdds 305 = .ok (.iload 6, 2) := by decide +kernel
theorem dX7_findOdds_307 : decode cX7_findOdds 307 = .ok (.istore 10, 2) := by decide +kernel
theorem dX7_findOdds_309 : decode cX7_findOdds 309 = .ok (.iload 10, 2) := by decide +kernel
theorem dX7_findOdds_311 : decode cX7_findOdds 311 = .ok (.iload 9, 2) := by decide +kernel
theorem dX7_findOdds_313 : decode cX7_findOdds 313 = .ok (.if_icmp .lt 29, 3) := by decide +kernel
theorem dX7_findOdds_316 : decode cX7_findOdds 316 = .ok (.aload_n 0, 1) := by decide +kernel
theorem dX7_findOdds_317 : decode cX7_findOdds 317 = .ok (.getfield 39, 3) := by decide +kernel
theorem dX7_findOdds_320 : decode cX7_findOdds 320 = .ok (.iload 10, 2) := by decide +kernel
theorem dX7_findOdds_322 : decode cX7_findOdds 322 = .ok (.dup2, 1) := by decide +kernel
theorem dX7_findOdds_323 : decode cX7_findOdds 323 = .ok (.laload, 1) := by decide +kernel
theorem dX7_findOdds_324 : decode cX7_findOdds 324 = .ok (.aload_n 0, 1) := by decide +kernel
theorem dX7_findOdds_325 : decode cX7_findOdds 325 = .ok (.getfield 39, 3) := by decide +kernel
theorem dX7_findOdds_328 : decode cX7_findOdds 328 = .ok (.iload 10, 2) := by decide +kernel
theorem dX7_findOdds_330 : decode cX7_findOdds 330 = .ok (.iload 9, 2) := by decide +kernel
theorem dX7_findOdds_332 : decode cX7_findOdds 332 = .ok (.isub, 1) := by decide +kernel
theorem dX7_findOdds_333 : decode cX7_findOdds 333 = .ok (.laload, 1) := by decide +kernel
theorem dX7_findOdds_334 : decode cX7_findOdds 334 = .ok (.ladd, 1) := by decide +kernel
theorem dX7_findOdds_335 : decode cX7_findOdds 335 = .ok (.lastore, 1) := by decide +kernel
theorem dX7_findOdds_336 : decode cX7_findOdds 336 = .ok (.iinc 10 (-1), 3) := by decide +kernel
theorem dX7_findOdds_339 : decode cX7_findOdds 339 = .ok (.goto (-30), 3) := by decide +kernel
theorem dX7_findOdds_342 : decode cX7_findOdds 342 = .ok (.iinc 8 1, 3) := by decide +kernel
theorem dX7_findOdds_345 : decode cX7_findOdds 345 = .ok (.goto (-170), 3) := by decide +kernel
theorem dX7_findOdds_348 : decode cX7_findOdds 348 = .ok (.aload_n 0, 1) := by decide +kernel
theorem dX7_findOdds_349 : decode cX7_findOdds 349 = .ok (.lconst 0, 1) := by decide +kernel
theorem dX7_findOdds_350 : decode cX7_findOdds 350 = .ok (.putfield 128, 3) := by decide +kernel
theorem dX7_findOdds_353 : decode cX7_findOdds 353 = .ok (.iload 7, 2) := by decide +kernel
theorem dX7_findOdds_355 : decode cX7_findOdds 355 = .ok (.istore 8, 2) := by decide +kernel
theorem dX7_findOdds_357 : decode cX7_findOdds 357 = .ok (.iload 8, 2) := by decide +kernel
theorem dX7_findOdds_359 : decode cX7_findOdds 359 = .ok (.iload 6, 2) := by decide +kernel
theorem dX7_findOdds_361 : decode cX7_findOdds 361 = .ok (.if_icmp .gt 25, 3) := by decide +kernel
theorem dX7_findOdds_364 : decode cX7_findOdds 364 = .ok (.aload_n 0, 1) := by decide +kernel
theorem dX7_findOdds_365 : decode cX7_findOdds 365 = .ok (.dup, 1) := by decide +kernel
theorem dX7_findOdds_366 : decode cX7_findOdds 366 = .ok (.getfield 128, 3) := by decide +kernel
theorem dX7_findOdds_369 : decode cX7_findOdds 369 = .ok (.aload_n 0, 1) := by decide +kernel
theorem dX7_findOdds_370 : decode cX7_findOdds 370 = .ok (.getfield 39, 3) := by decide +kernel
theorem dX7_findOdds_373 : decode cX7_findOdds 373 = .ok (.iload 8, 2) := by decide +kernel
theorem dX7_findOdds_375 : decode cX7_findOdds 375 = .ok (.laload, 1) := by decide +kernel
theorem dX7_findOdds_376 : decode cX7_findOdds 376 = .ok (.ladd, 1) := by decide +kernel
theorem dX7_findOdds_377 : decode cX7_findOdds 377 = .ok (.putfield 128, 3) := by decide +kernel
theorem dX7_findOdds_380 : decode cX7_findOdds 380 = .ok (.iinc 8 1, 3) := by decide +kernel
theorem dX7_findOdds_383 : decode cX7_findOdds 383 = .ok (.goto (-26), 3) := by decide +kernel
theorem dX7_findOdds_386 : decode cX7_findOdds 386 = .ok (.aload_n 0, 1) := by decide +kernel
theorem dX7_findOdds_387 : decode cX7_findOdds 387 = .ok (.lconst 1, 1) := by decide +kernel
theorem dX7_findOdds_388 : decode cX7_findOdds 388 = .ok (.iload_n 3, 1) := by decide +kernel
theorem dX7_findOdds_389 : decode cX7_findOdds 389 = .ok (.lshl, 1) := by decide +kernel
theorem dX7_findOdds_390 : decode cX7_findOdds 390 = .ok (.putfield 132, 3) := by decide +kernel
theorem dX7_findOdds_393 : decode cX7_findOdds 393 = .ok (.aload_n 0, 1) := by decide +kernel
theorem dX7_findOdds_394 : decode cX7_findOdds 394 = .ok (.getfield 128, 3) := by decide +kernel
theorem dX7_findOdds_397 : decode cX7_findOdds 397 = .ok (.ldc2_w 138, 3) := by decide +kernel
theorem dX7_findOdds_400 : decode cX7_findOdds 400 = .ok (.lrem, 1) := by decide +kernel
theorem dX7_findOdds_401 : decode cX7_findOdds 401 = .ok (.lconst 0, 1) := by decide +kernel
theorem dX7_findOdds_402 : decode cX7_findOdds 402 = .ok (.lcmp, 1) := by decide +kernel
theorem dX7_findOdds_403 : decode cX7_findOdds 403 = .ok (.ifCond .ne 39, 3) := by decide +kernel
theorem dX7_findOdds_406 : decode cX7_findOdds 406 = .ok (.aload_n 0, 1) := by decide +kernel
theorem dX7_findOdds_407 : decode cX7_findOdds 407 = .ok (.getfield 132, 3) := by decide +kernel
theorem dX7_findOdds_410 : decode cX7_findOdds 410 = .ok (.lconst 1, 1) := by decide +kernel
theorem dX7_findOdds_411 : decode cX7_findOdds 411 = .ok (.lcmp, 1) := by decide +kernel
theorem dX7_findOdds_412 : decode cX7_findOdds 412 = .ok (.ifCond .le 30, 3) := by decide +kernel
theorem dX7_findOdds_415 : decode cX7_findOdds 415 = .ok (.aload_n 0, 1) := by decide +kernel
theorem dX7_findOdds_416 : decode cX7_findOdds 416 = .ok (.dup, 1) := by decide +kernel
theorem dX7_findOdds_417 : decode cX7_findOdds 417 = .ok (.getfield 128, 3) := by decide +kernel
theorem dX7_findOdds_420 : decode cX7_findOdds 420 = .ok (.ldc2_w 138, 3) := by decide +kernel
theorem dX7_findOdds_423 : decode cX7_findOdds 423 = .ok (.ldiv, 1) := by decide +kernel
theorem dX7_findOdds_424 : decode cX7_findOdds 424 = .ok (.putfield 128, 3) := by decide +kernel
theorem dX7_findOdds_427 : decode cX7_findOdds 427 = .ok (.aload_n 0, 1) := by decide +kernel
theorem dX7_findOdds_428 : decode cX7_findOdds 428 = .ok (.dup, 1) := by decide +kernel
theorem dX7_findOdds_429 : decode cX7_findOdds 429 = .ok (.getfield 132, 3) := by decide +kernel
theorem dX7_findOdds_432 : decode cX7_findOdds 432 = .ok (.ldc2_w 138, 3) := by decide +kernel
theorem dX7_findOdds_435 : decode cX7_findOdds 435 = .ok (.ldiv, 1) := by decide +kernel
theorem dX7_findOdds_436 : decode cX7_findOdds 436 = .ok (.putfield 132, 3) := by decide +kernel
theorem dX7_findOdds_439 : decode cX7_findOdds 439 = .ok (.goto (-46), 3) := by decide +kernel
theorem dX7_findOdds_442 : decode cX7_findOdds 442 = .ok (.return_, 1) := by decide +kernel
theorem dX7_left_0 : decode cX7_left 0 = .ok (.aload_n 0, 1) := by decide +kernel
theorem dX7_left_1 : decode cX7_left 1 = .ok (.iconst 0, 1) := by decide +kernel
theorem dX7_left_2 : decode cX7_left 2 = .ok (.putfield 43, 3) := by decide +kernel
theorem dX7_left_5 : decode cX7_left 5 = .ok (.aload_n 0, 1) := by decide +kernel
theorem dX7_left_6 : decode cX7_left 6 = .ok (.getfield 20, 3) := by decide +kernel
theorem dX7_left_9 : decode cX7_left 9 = .ok (.ifCond .ge 5, 3) := by decide +kernel
theorem dX7_left_12 : decode cX7_left 12 = .ok (.iconst (-1), 1) := by decide +kernel
theorem dX7_left_13 : decode cX7_left 13 = .ok (.ireturn, 1) := by decide +kernel
theorem dX7_left_14 : decode cX7_left 14 = .ok (.iload_n 1, 1) := by decide +kernel
theorem dX7_left_15 : decode cX7_left 15 = .ok (.iconst (-1), 1) := by decide +kernel
theorem dX7_left_16 : decode cX7_left 16 = .ok (.if_icmp .ne 8, 3) := by decide +kernel
theorem dX7_left_19 : decode cX7_left 19 = .ok (.aload_n 0, 1) := by decide +kernel
theorem dX7_left_20 : decode cX7_left 20 = .ok (.invokevirtual 72, 3) := by decide +kernel
theorem dX7_left_23 : decode cX7_left 23 = .ok (.ireturn, 1) := by decide +kernel
theorem dX7_left_24 : decode cX7_left 24 = .ok (.iconst 0, 1) := by decide +kernel
theorem dX7_left_25 : decode cX7_left 25 = .ok (.istore_n 2, 1) := by decide +kernel
theorem dX7_left_26 : decode cX7_left 26 = .ok (.iconst 0, 1) := by decide +kernel
theorem dX7_left_27 : decode cX7_left 27 = .ok (.istore_n 3, 1) := by decide +kernel
theorem dX7_left_28 : decode cX7_left 28 = .ok (.iload_n 3, 1) := by decide +kernel
theorem dX7_left_29 : decode cX7_left 29 = .ok (.aload_n 0, 1) := by decide +kernel
theorem dX7_left_30 : decode cX7_left 30 = .ok (.getfield 69, 3) := by decide +kernel
theorem dX7_left_33 : decode cX7_left 33 = .ok (.if_icmp .ge 28, 3) := by decide +kernel
theorem dX7_left_36 : decode cX7_left 36 = .ok (.aload_n 0, 1) := by decide +kernel
theorem dX7_left_37 : decode cX7_left 37 = .ok (.getfield 27, 3) := by decide +kernel
theorem dX7_left_40 : decode cX7_left 40 = .ok (.iload_n 3, 1) := by decide +kernel
theorem dX7_left_41 : decode cX7_left 41 = .ok (.iaload, 1) := by decide +kernel
theorem dX7_left_42 : decode cX7_left 42 = .ok (.ifCond .ne 13, 3) := by decide +kernel
theorem dX7_left_45 : decode cX7_left 45 = .ok (.iload_n 2, 1) := by decide +kernel
theorem dX7_left_46 : decode cX7_left 46 = .ok (.iload_n 1, 1) := by decide +kernel
theorem dX7_left_47 : decode cX7_left 47 = .ok (.if_icmp .ne 5, 3) := by decide +kernel
theorem dX7_left_50 : decode cX7_left 50 = .ok (.iload_n 3, 1) := by decide +kernel
theorem dX7_left_51 : decode cX7_left 51 = .ok (.ireturn, 1) := by decide +kernel
theorem dX7_left_52 : decode cX7_left 52 = .ok (.iinc 2 1, 3) := by decide +kernel
theorem dX7_left_55 : decode cX7_left 55 = .ok (.iinc 3 1, 3) := by decide +kernel
theorem dX7_left_58 : decode cX7_left 58 = .ok (.goto (-30), 3) := by decide +kernel
theorem dX7_left_61 : decode cX7_left 61 = .ok (.iconst (-1), 1) := by decide +kernel
theorem dX7_left_62 : decode cX7_left 62 = .ok (.ireturn, 1) := by decide +kernel
theorem dX7_raceOf_0 : decode cX7_raceOf 0 = .ok (.aload_n 0, 1) := by decide +kernel
theorem dX7_raceOf_1 : decode cX7_raceOf 1 = .ok (.iconst 0, 1) := by decide +kernel
theorem dX7_raceOf_2 : decode cX7_raceOf 2 = .ok (.putfield 43, 3) := by decide +kernel
theorem dX7_raceOf_5 : decode cX7_raceOf 5 = .ok (.iload_n 1, 1) := by decide +kernel
theorem dX7_raceOf_6 : decode cX7_raceOf 6 = .ok (.iconst 0, 1) := by decide +kernel
theorem dX7_raceOf_7 : decode cX7_raceOf 7 = .ok (.iconst 4, 1) := by decide +kernel
theorem dX7_raceOf_8 : decode cX7_raceOf 8 = .ok (.invokestatic 49, 3) := by decide +kernel
theorem dX7_raceOf_11 : decode cX7_raceOf 11 = .ok (.ifCond .ne 6, 3) := by decide +kernel
theorem dX7_raceOf_14 : decode cX7_raceOf 14 = .ok (.bipush (-2), 2) := by decide +kernel
theorem dX7_raceOf_16 : decode cX7_raceOf 16 = .ok (.ireturn, 1) := by decide +kernel
theorem dX7_raceOf_17 : decode cX7_raceOf 17 = .ok (.aload_n 0, 1) := by decide +kernel
theorem dX7_raceOf_18 : decode cX7_raceOf 18 = .ok (.getfield 20, 3) := by decide +kernel
theorem dX7_raceOf_21 : decode cX7_raceOf 21 = .ok (.ifCond .ge 6, 3) := by decide +kernel
theorem dX7_raceOf_24 : decode cX7_raceOf 24 = .ok (.bipush (-3), 2) := by decide +kernel
theorem dX7_raceOf_26 : decode cX7_raceOf 26 = .ok (.ireturn, 1) := by decide +kernel
theorem dX7_raceOf_27 : decode cX7_raceOf 27 = .ok (.iload_n 1, 1) := by decide +kernel
theorem dX7_raceOf_28 : decode cX7_raceOf 28 = .ok (.ifCond .ne 10, 3) := by decide +kernel
theorem dX7_raceOf_31 : decode cX7_raceOf 31 = .ok (.aload_n 0, 1) := by decide +kernel
theorem dX7_raceOf_32 : decode cX7_raceOf 32 = .ok (.getfield 91, 3) := by decide +kernel
theorem dX7_raceOf_35 : decode cX7_raceOf 35 = .ok (.goto 48, 3) := by decide +kernel
theorem dX7_raceOf_38 : decode cX7_raceOf 38 = .ok (.iload_n 1, 1) := by decide +kernel
theorem dX7_raceOf_39 : decode cX7_raceOf 39 = .ok (.iconst 1, 1) := by decide +kernel
theorem dX7_raceOf_40 : decode cX7_raceOf 40 = .ok (.if_icmp .ne 10, 3) := by decide +kernel
theorem dX7_raceOf_43 : decode cX7_raceOf 43 = .ok (.aload_n 0, 1) := by decide +kernel
theorem dX7_raceOf_44 : decode cX7_raceOf 44 = .ok (.getfield 79, 3) := by decide +kernel
theorem dX7_raceOf_47 : decode cX7_raceOf 47 = .ok (.goto 36, 3) := by decide +kernel
theorem dX7_raceOf_50 : decode cX7_raceOf 50 = .ok (.iload_n 1, 1) := by decide +kernel
theorem dX7_raceOf_51 : decode cX7_raceOf 51 = .ok (.iconst 2, 1) := by decide +kernel
theorem dX7_raceOf_52 : decode cX7_raceOf 52 = .ok (.if_icmp .ne 10, 3) := by decide +kernel
theorem dX7_raceOf_55 : decode cX7_raceOf 55 = .ok (.aload_n 0, 1) := by decide +kernel
theorem dX7_raceOf_56 : decode cX7_raceOf 56 = .ok (.getfield 88, 3) := by decide +kernel
theorem dX7_raceOf_59 : decode cX7_raceOf 59 = .ok (.goto 24, 3) := by decide +kernel
theorem dX7_raceOf_62 : decode cX7_raceOf 62 = .ok (.iload_n 1, 1) := by decide +kernel
theorem dX7_raceOf_63 : decode cX7_raceOf 63 = .ok (.iconst 3, 1) := by decide +kernel
theorem dX7_raceOf_64 : decode cX7_raceOf 64 = .ok (.if_icmp .ne 10, 3) := by decide +kernel
theorem dX7_raceOf_67 : decode cX7_raceOf 67 = .ok (.aload_n 0, 1) := by decide +kernel
theorem dX7_raceOf_68 : decode cX7_raceOf 68 = .ok (.invokevirtual 121, 3) := by decide +kernel
theorem dX7_raceOf_71 : decode cX7_raceOf 71 = .ok (.goto 12, 3) := by decide +kernel
theorem dX7_raceOf_74 : decode cX7_raceOf 74 = .ok (.aload_n 0, 1) := by decide +kernel
theorem dX7_raceOf_75 : decode cX7_raceOf 75 = .ok (.getfield 69, 3) := by decide +kernel
theorem dX7_raceOf_78 : decode cX7_raceOf 78 = .ok (.aload_n 0, 1) := by decide +kernel
theorem dX7_raceOf_79 : decode cX7_raceOf 79 = .ok (.invokevirtual 72, 3) := by decide +kernel
theorem dX7_raceOf_82 : decode cX7_raceOf 82 = .ok (.isub, 1) := by decide +kernel
theorem dX7_raceOf_83 : decode cX7_raceOf 83 = .ok (.ireturn, 1) := by decide +kernel
theorem dX7_rank_0 : decode cX7_rank 0 = .ok (.aload_n 0, 1) := by decide +kernel
theorem dX7_rank_1 : decode cX7_rank 1 = .ok (.iconst 0, 1) := by decide +kernel
theorem dX7_rank_2 : decode cX7_rank 2 = .ok (.putfield 43, 3) := by decide +kernel
theorem dX7_rank_5 : decode cX7_rank 5 = .ok (.aload_n 0, 1) := by decide +kernel
theorem dX7_rank_6 : decode cX7_rank 6 = .ok (.getfield 20, 3) := by decide +kernel
theorem dX7_rank_9 : decode cX7_rank 9 = .ok (.ifCond .lt 26, 3) := by decide +kernel
theorem dX7_rank_12 : decode cX7_rank 12 = .ok (.iload_n 1, 1) := by decide +kernel
theorem dX7_rank_13 : decode cX7_rank 13 = .ok (.iconst 0, 1) := by decide +kernel
theorem dX7_rank_14 : decode cX7_rank 14 = .ok (.aload_n 0, 1) := by decide +kernel
theorem dX7_rank_15 : decode cX7_rank 15 = .ok (.getfield 69, 3) := by decide +kernel
theorem dX7_rank_18 : decode cX7_rank 18 = .ok (.iconst 1, 1) := by decide +kernel
theorem dX7_rank_19 : decode cX7_rank 19 = .ok (.isub, 1) := by decide +kernel
theorem dX7_rank_20 : decode cX7_rank 20 = .ok (.invokestatic 49, 3) := by decide +kernel
theorem dX7_rank_23 : decode cX7_rank 23 = .ok (.ifCond .eq 12, 3) := by decide +kernel
theorem dX7_rank_26 : decode cX7_rank 26 = .ok (.aload_n 0, 1) := by decide +kernel
theorem dX7_rank_27 : decode cX7_rank 27 = .ok (.getfield 27, 3) := by decide +kernel
theorem dX7_rank_30 : decode cX7_rank 30 = .ok (.iload_n 1, 1) := by decide +kernel
theorem dX7_rank_31 : decode cX7_rank 31 = .ok (.iaload, 1) := by decide +kernel
theorem dX7_rank_32 : decode cX7_rank 32 = .ok (.ifCond .eq 7, 3) := by decide +kernel
theorem dX7_rank_35 : decode cX7_rank 35 = .ok (.iconst (-1), 1) := by decide +kernel
theorem dX7_rank_36 : decode cX7_rank 36 = .ok (.goto 8, 3) := by decide +kernel
theorem dX7_rank_39 : decode cX7_rank 39 = .ok (.aload_n 0, 1) := by decide +kernel
theorem dX7_rank_40 : decode cX7_rank 40 = .ok (.iload_n 1, 1) := by decide +kernel
theorem dX7_rank_41 : decode cX7_rank 41 = .ok (.invokevirtual 117, 3) := by decide +kernel
theorem dX7_rank_44 : decode cX7_rank 44 = .ok (.ireturn, 1) := by decide +kernel
theorem dX7_dropped_0 : decode cX7_dropped 0 = .ok (.aload_n 0, 1) := by decide +kernel
theorem dX7_dropped_1 : decode cX7_dropped 1 = .ok (.iconst 0, 1) := by decide +kernel
theorem dX7_dropped_2 : decode cX7_dropped 2 = .ok (.putfield 43, 3) := by decide +kernel
theorem dX7_dropped_5 : decode cX7_dropped 5 = .ok (.aload_n 0, 1) := by decide +kernel
theorem dX7_dropped_6 : decode cX7_dropped 6 = .ok (.getfield 20, 3) := by decide +kernel
theorem dX7_dropped_9 : decode cX7_dropped 9 = .ok (.ifCond .lt 17, 3) := by decide +kernel
theorem dX7_dropped_12 : decode cX7_dropped 12 = .ok (.iload_n 1, 1) := by decide +kernel
theorem dX7_dropped_13 : decode cX7_dropped 13 = .ok (.iconst 0, 1) := by decide +kernel
theorem dX7_dropped_14 : decode cX7_dropped 14 = .ok (.aload_n 0, 1) := by decide +kernel
theorem dX7_dropped_15 : decode cX7_dropped 15 = .ok (.getfield 69, 3) := by decide +kernel
theorem dX7_dropped_18 : decode cX7_dropped 18 = .ok (.iconst 1, 1) := by decide +kernel
theorem dX7_dropped_19 : decode cX7_dropped 19 = .ok (.isub, 1) := by decide +kernel
theorem dX7_dropped_20 : decode cX7_dropped 20 = .ok (.invokestatic 49, 3) := by decide +kernel
theorem dX7_dropped_23 : decode cX7_dropped 23 = .ok (.ifCond .ne 7, 3) := by decide +kernel
theorem dX7_dropped_26 : decode cX7_dropped 26 = .ok (.iconst (-1), 1) := by decide +kernel
theorem dX7_dropped_27 : decode cX7_dropped 27 = .ok (.goto 23, 3) := by decide +kernel
theorem dX7_dropped_30 : decode cX7_dropped 30 = .ok (.aload_n 0, 1) := by decide +kernel
theorem dX7_dropped_31 : decode cX7_dropped 31 = .ok (.getfield 27, 3) := by decide +kernel
theorem dX7_dropped_34 : decode cX7_dropped 34 = .ok (.iload_n 1, 1) := by decide +kernel
theorem dX7_dropped_35 : decode cX7_dropped 35 = .ok (.iaload, 1) := by decide +kernel
theorem dX7_dropped_36 : decode cX7_dropped 36 = .ok (.ifCond .ne 8, 3) := by decide +kernel
theorem dX7_dropped_39 : decode cX7_dropped 39 = .ok (.bipush (-3), 2) := by decide +kernel
theorem dX7_dropped_41 : decode cX7_dropped 41 = .ok (.goto 9, 3) := by decide +kernel
theorem dX7_dropped_44 : decode cX7_dropped 44 = .ok (.aload_n 0, 1) := by decide +kernel
theorem dX7_dropped_45 : decode cX7_dropped 45 = .ok (.getfield 27, 3) := by decide +kernel
theorem dX7_dropped_48 : decode cX7_dropped 48 = .ok (.iload_n 1, 1) := by decide +kernel
theorem dX7_dropped_49 : decode cX7_dropped 49 = .ok (.iaload, 1) := by decide +kernel
theorem dX7_dropped_50 : decode cX7_dropped 50 = .ok (.ireturn, 1) := by decide +kernel
theorem dX7_odds_0 : decode cX7_odds 0 = .ok (.aload_n 0, 1) := by decide +kernel
theorem dX7_odds_1 : decode cX7_odds 1 = .ok (.iconst 0, 1) := by decide +kernel
theorem dX7_odds_2 : decode cX7_odds 2 = .ok (.putfield 43, 3) := by decide +kernel
theorem dX7_odds_5 : decode cX7_odds 5 = .ok (.aload_n 0, 1) := by decide +kernel
theorem dX7_odds_6 : decode cX7_odds 6 = .ok (.getfield 20, 3) := by decide +kernel
theorem dX7_odds_9 : decode cX7_odds 9 = .ok (.ifCond .lt 40, 3) := by decide +kernel
theorem dX7_odds_12 : decode cX7_odds 12 = .ok (.iload_n 1, 1) := by decide +kernel
theorem dX7_odds_13 : decode cX7_odds 13 = .ok (.iconst 0, 1) := by decide +kernel
theorem dX7_odds_14 : decode cX7_odds 14 = .ok (.aload_n 0, 1) := by decide +kernel
theorem dX7_odds_15 : decode cX7_odds 15 = .ok (.getfield 69, 3) := by decide +kernel
theorem dX7_odds_18 : decode cX7_odds 18 = .ok (.iconst 1, 1) := by decide +kernel
theorem dX7_odds_19 : decode cX7_odds 19 = .ok (.isub, 1) := by decide +kernel
theorem dX7_odds_20 : decode cX7_odds 20 = .ok (.invokestatic 49, 3) := by decide +kernel
theorem dX7_odds_23 : decode cX7_odds 23 = .ok (.ifCond .eq 26, 3) := by decide +kernel
theorem dX7_odds_26 : decode cX7_odds 26 = .ok (.iload_n 2, 1) := by decide +kernel
theorem dX7_odds_27 : decode cX7_odds 27 = .ok (.iconst 0, 1) := by decide +kernel
theorem dX7_odds_28 : decode cX7_odds 28 = .ok (.aload_n 0, 1) := by decide +kernel
theorem dX7_odds_29 : decode cX7_odds 29 = .ok (.getfield 69, 3) := by decide +kernel
theorem dX7_odds_32 : decode cX7_odds 32 = .ok (.iconst 1, 1) := by decide +kernel
theorem dX7_odds_33 : decode cX7_odds 33 = .ok (.isub, 1) := by decide +kernel
theorem dX7_odds_34 : decode cX7_odds 34 = .ok (.invokestatic 49, 3) := by decide +kernel
theorem dX7_odds_37 : decode cX7_odds 37 = .ok (.ifCond .eq 12, 3) := by decide +kernel
theorem dX7_odds_40 : decode cX7_odds 40 = .ok (.iload_n 3, 1) := by decide +kernel
theorem dX7_odds_41 : decode cX7_odds 41 = .ok (.iconst 0, 1) := by decide +kernel
theorem dX7_odds_42 : decode cX7_odds 42 = .ok (.iconst 1, 1) := by decide +kernel
theorem dX7_odds_43 : decode cX7_odds 43 = .ok (.invokestatic 49, 3) := by decide +kernel
theorem dX7_odds_46 : decode cX7_odds 46 = .ok (.ifCond .ne 7, 3) := by decide +kernel
theorem dX7_odds_49 : decode cX7_odds 49 = .ok (.ldc2_w 140, 3) := by decide +kernel
theorem dX7_odds_52 : decode cX7_odds 52 = .ok (.lreturn, 1) := by decide +kernel
theorem dX7_odds_53 : decode cX7_odds 53 = .ok (.aload_n 0, 1) := by decide +kernel
theorem dX7_odds_54 : decode cX7_odds 54 = .ok (.iload_n 1, 1) := by decide +kernel
theorem dX7_odds_55 : decode cX7_odds 55 = .ok (.iload_n 2, 1) := by decide +kernel
theorem dX7_odds_56 : decode cX7_odds 56 = .ok (.invokevirtual 124, 3) := by decide +kernel
theorem dX7_odds_59 : decode cX7_odds 59 = .ok (.iload_n 3, 1) := by decide +kernel
theorem dX7_odds_60 : decode cX7_odds 60 = .ok (.ifCond .ne 10, 3) := by decide +kernel
theorem dX7_odds_63 : decode cX7_odds 63 = .ok (.aload_n 0, 1) := by decide +kernel
theorem dX7_odds_64 : decode cX7_odds 64 = .ok (.getfield 128, 3) := by decide +kernel
theorem dX7_odds_67 : decode cX7_odds 67 = .ok (.goto 7, 3) := by decide +kernel
theorem dX7_odds_70 : decode cX7_odds 70 = .ok (.aload_n 0, 1) := by decide +kernel
theorem dX7_odds_71 : decode cX7_odds 71 = .ok (.getfield 132, 3) := by decide +kernel
theorem dX7_odds_74 : decode cX7_odds 74 = .ok (.lreturn, 1) := by decide +kernel
theorem dX7_isWhole_0 : decode cX7_isWhole 0 = .ok (.iconst 0, 1) := by decide +kernel
theorem dX7_isWhole_1 : decode cX7_isWhole 1 = .ok (.istore_n 2, 1) := by decide +kernel
theorem dX7_isWhole_2 : decode cX7_isWhole 2 = .ok (.iload_n 2, 1) := by decide +kernel
theorem dX7_isWhole_3 : decode cX7_isWhole 3 = .ok (.aload_n 0, 1) := by decide +kernel
theorem dX7_isWhole_4 : decode cX7_isWhole 4 = .ok (.getfield 53, 3) := by decide +kernel
theorem dX7_isWhole_7 : decode cX7_isWhole 7 = .ok (.if_icmp .ge 25, 3) := by decide +kernel
theorem dX7_isWhole_10 : decode cX7_isWhole 10 = .ok (.aload_n 0, 1) := by decide +kernel
theorem dX7_isWhole_11 : decode cX7_isWhole 11 = .ok (.getfield 17, 3) := by decide +kernel
theorem dX7_isWhole_14 : decode cX7_isWhole 14 = .ok (.bipush 24, 2) := by decide +kernel
theorem dX7_isWhole_16 : decode cX7_isWhole 16 = .ok (.iload_n 1, 1) := by decide +kernel
theorem dX7_isWhole_17 : decode cX7_isWhole 17 = .ok (.imul, 1) := by decide +kernel
theorem dX7_isWhole_18 : decode cX7_isWhole 18 = .ok (.iload_n 2, 1) := by decide +kernel
theorem dX7_isWhole_19 : decode cX7_isWhole 19 = .ok (.iadd, 1) := by decide +kernel
theorem dX7_isWhole_20 : decode cX7_isWhole 20 = .ok (.iaload, 1) := by decide +kernel
theorem dX7_isWhole_21 : decode cX7_isWhole 21 = .ok (.ifCond .ne 5, 3) := by decide +kernel
theorem dX7_isWhole_24 : decode cX7_isWhole 24 = .ok (.iconst 0, 1) := by decide +kernel
theorem dX7_isWhole_25 : decode cX7_isWhole 25 = .ok (.ireturn, 1) := by decide +kernel
theorem dX7_isWhole_26 : decode cX7_isWhole 26 = .ok (.iinc 2 1, 3) := by decide +kernel
theorem dX7_isWhole_29 : decode cX7_isWhole 29 = .ok (.goto (-27), 3) := by decide +kernel
theorem dX7_isWhole_32 : decode cX7_isWhole 32 = .ok (.iconst 1, 1) := by decide +kernel
theorem dX7_isWhole_33 : decode cX7_isWhole 33 = .ok (.ireturn, 1) := by decide +kernel
theorem dX7_wholes_0 : decode cX7_wholes 0 = .ok (.iconst 0, 1) := by decide +kernel
theorem dX7_wholes_1 : decode cX7_wholes 1 = .ok (.istore_n 1, 1) := by decide +kernel
theorem dX7_wholes_2 : decode cX7_wholes 2 = .ok (.iconst 0, 1) := by decide +kernel
theorem dX7_wholes_3 : decode cX7_wholes 3 = .ok (.istore_n 2, 1) := by decide +kernel
theorem dX7_wholes_4 : decode cX7_wholes 4 = .ok (.iload_n 2, 1) := by decide +kernel
theorem dX7_wholes_5 : decode cX7_wholes 5 = .ok (.aload_n 0, 1) := by decide +kernel
theorem dX7_wholes_6 : decode cX7_wholes 6 = .ok (.getfield 46, 3) := by decide +kernel
theorem dX7_wholes_9 : decode cX7_wholes 9 = .ok (.if_icmp .ge 27, 3) := by decide +kernel
theorem dX7_wholes_12 : decode cX7_wholes 12 = .ok (.iload_n 1, 1) := by decide +kernel
theorem dX7_wholes_13 : decode cX7_wholes 13 = .ok (.aload_n 0, 1) := by decide +kernel
theorem dX7_wholes_14 : decode cX7_wholes 14 = .ok (.iload_n 2, 1) := by decide +kernel
theorem dX7_wholes_15 : decode cX7_wholes 15 = .ok (.invokevirtual 142, 3) := by decide +kernel
theorem dX7_wholes_18 : decode cX7_wholes 18 = .ok (.ifCond .eq 9, 3) := by decide +kernel
theorem dX7_wholes_21 : decode cX7_wholes 21 = .ok (.iconst 1, 1) := by decide +kernel
theorem dX7_wholes_22 : decode cX7_wholes 22 = .ok (.iload_n 2, 1) := by decide +kernel
theorem dX7_wholes_23 : decode cX7_wholes 23 = .ok (.ishl, 1) := by decide +kernel
theorem dX7_wholes_24 : decode cX7_wholes 24 = .ok (.goto 4, 3) := by decide +kernel
theorem dX7_wholes_27 : decode cX7_wholes 27 = .ok (.iconst 0, 1) := by decide +kernel
theorem dX7_wholes_28 : decode cX7_wholes 28 = .ok (.ior, 1) := by decide +kernel
theorem dX7_wholes_29 : decode cX7_wholes 29 = .ok (.istore_n 1, 1) := by decide +kernel
theorem dX7_wholes_30 : decode cX7_wholes 30 = .ok (.iinc 2 1, 3) := by decide +kernel
theorem dX7_wholes_33 : decode cX7_wholes 33 = .ok (.goto (-29), 3) := by decide +kernel
theorem dX7_wholes_36 : decode cX7_wholes 36 = .ok (.iload_n 1, 1) := by decide +kernel
theorem dX7_wholes_37 : decode cX7_wholes 37 = .ok (.ireturn, 1) := by decide +kernel
theorem dX7_many_0 : decode cX7_many 0 = .ok (.iconst 0, 1) := by decide +kernel
theorem dX7_many_1 : decode cX7_many 1 = .ok (.istore_n 1, 1) := by decide +kernel
theorem dX7_many_2 : decode cX7_many 2 = .ok (.iconst 0, 1) := by decide +kernel
theorem dX7_many_3 : decode cX7_many 3 = .ok (.istore_n 2, 1) := by decide +kernel
theorem dX7_many_4 : decode cX7_many 4 = .ok (.iload_n 2, 1) := by decide +kernel
theorem dX7_many_5 : decode cX7_many 5 = .ok (.bipush 12, 2) := by decide +kernel
theorem dX7_many_7 : decode cX7_many 7 = .ok (.if_icmp .ge 17, 3) := by decide +kernel
theorem dX7_many_10 : decode cX7_many 10 = .ok (.iload_n 1, 1) := by decide +kernel
theorem dX7_many_11 : decode cX7_many 11 = .ok (.iload_n 0, 1) := by decide +kernel
theorem dX7_many_12 : decode cX7_many 12 = .ok (.iload_n 2, 1) := by decide +kernel
theorem dX7_many_13 : decode cX7_many 13 = .ok (.ishr, 1) := by decide +kernel
theorem dX7_many_14 : decode cX7_many 14 = .ok (.iconst 1, 1) := by decide +kernel
theorem dX7_many_15 : decode cX7_many 15 = .ok (.iand, 1) := by decide +kernel
theorem dX7_many_16 : decode cX7_many 16 = .ok (.iadd, 1) := by decide +kernel
theorem dX7_many_17 : decode cX7_many 17 = .ok (.istore_n 1, 1) := by decide +kernel
theorem dX7_many_18 : decode cX7_many 18 = .ok (.iinc 2 1, 3) := by decide +kernel
theorem dX7_many_21 : decode cX7_many 21 = .ok (.goto (-17), 3) := by decide +kernel
theorem dX7_many_24 : decode cX7_many 24 = .ok (.iload_n 1, 1) := by decide +kernel
theorem dX7_many_25 : decode cX7_many 25 = .ok (.ireturn, 1) := by decide +kernel
theorem dX7_isAhead_0 : decode cX7_isAhead 0 = .ok (.iload_n 0, 1) := by decide +kernel
theorem dX7_isAhead_1 : decode cX7_isAhead 1 = .ok (.iload_n 1, 1) := by decide +kernel
theorem dX7_isAhead_2 : decode cX7_isAhead 2 = .ok (.ixor, 1) := by decide +kernel
theorem dX7_isAhead_3 : decode cX7_isAhead 3 = .ok (.istore_n 2, 1) := by decide +kernel
theorem dX7_isAhead_4 : decode cX7_isAhead 4 = .ok (.iload_n 0, 1) := by decide +kernel
theorem dX7_isAhead_5 : decode cX7_isAhead 5 = .ok (.iload_n 2, 1) := by decide +kernel
theorem dX7_isAhead_6 : decode cX7_isAhead 6 = .ok (.iand, 1) := by decide +kernel
theorem dX7_isAhead_7 : decode cX7_isAhead 7 = .ok (.iload_n 2, 1) := by decide +kernel
theorem dX7_isAhead_8 : decode cX7_isAhead 8 = .ok (.ineg, 1) := by decide +kernel
theorem dX7_isAhead_9 : decode cX7_isAhead 9 = .ok (.iand, 1) := by decide +kernel
theorem dX7_isAhead_10 : decode cX7_isAhead 10 = .ok (.ifCond .eq 7, 3) := by decide +kernel
theorem dX7_isAhead_13 : decode cX7_isAhead 13 = .ok (.iconst 1, 1) := by decide +kernel
theorem dX7_isAhead_14 : decode cX7_isAhead 14 = .ok (.goto 4, 3) := by decide +kernel
theorem dX7_isAhead_17 : decode cX7_isAhead 17 = .ok (.iconst 0, 1) := by decide +kernel
theorem dX7_isAhead_18 : decode cX7_isAhead 18 = .ok (.ireturn, 1) := by decide +kernel
theorem dX7_findSet_0 : decode cX7_findSet 0 = .ok (.aload_n 0, 1) := by decide +kernel
theorem dX7_findSet_1 : decode cX7_findSet 1 = .ok (.invokevirtual 145, 3) := by decide +kernel
theorem dX7_findSet_4 : decode cX7_findSet 4 = .ok (.istore_n 2, 1) := by decide +kernel
theorem dX7_findSet_5 : decode cX7_findSet 5 = .ok (.aload_n 0, 1) := by decide +kernel
theorem dX7_findSet_6 : decode cX7_findSet 6 = .ok (.iconst (-1), 1) := by decide +kernel
theorem dX7_findSet_7 : decode cX7_findSet 7 = .ok (.putfield 148, 3) := by decide +kernel
theorem dX7_findSet_10 : decode cX7_findSet 10 = .ok (.aload_n 0, 1) := by decide +kernel
theorem dX7_findSet_11 : decode cX7_findSet 11 = .ok (.iconst 0, 1) := by decide +kernel
theorem dX7_findSet_12 : decode cX7_findSet 12 = .ok (.putfield 151, 3) := by decide +kernel
theorem dX7_findSet_15 : decode cX7_findSet 15 = .ok (.iconst 0, 1) := by decide +kernel
theorem dX7_findSet_16 : decode cX7_findSet 16 = .ok (.istore_n 3, 1) := by decide +kernel
theorem dX7_findSet_17 : decode cX7_findSet 17 = .ok (.iload_n 3, 1) := by decide +kernel
theorem dX7_findSet_18 : decode cX7_findSet 18 = .ok (.sipush 4096, 3) := by decide +kernel
theorem dX7_findSet_21 : decode cX7_findSet 21 = .ok (.if_icmp .ge 118, 3) := by decide +kernel
theorem dX7_findSet_24 : decode cX7_findSet 24 = .ok (.iload_n 3, 1) := by decide +kernel
theorem dX7_findSet_25 : decode cX7_findSet 25 = .ok (.iload_n 2, 1) := by decide +kernel
theorem dX7_findSet_26 : decode cX7_findSet 26 = .ok (.iand, 1) := by decide +kernel
theorem dX7_findSet_27 : decode cX7_findSet 27 = .ok (.iload_n 3, 1) := by decide +kernel
theorem dX7_findSet_28 : decode cX7_findSet 28 = .ok (.if_icmp .ne 105, 3) := by decide +kernel
theorem dX7_findSet_31 : decode cX7_findSet 31 = .ok (.iload_n 3, 1) := by decide +kernel
theorem dX7_findSet_32 : decode cX7_findSet 32 = .ok (.invokestatic 154, 3) := by decide +kernel
theorem dX7_findSet_35 : decode cX7_findSet 35 = .ok (.iload_n 1, 1) := by decide +kernel
theorem dX7_findSet_36 : decode cX7_findSet 36 = .ok (.if_icmp .ne 97, 3) := by decide +kernel
theorem dX7_findSet_39 : decode cX7_findSet 39 = .ok (.iconst 0, 1) := by decide +kernel
theorem dX7_findSet_40 : decode cX7_findSet 40 = .ok (.istore 4, 2) := by decide +kernel
theorem dX7_findSet_42 : decode cX7_findSet 42 = .ok (.iconst 0, 1) := by decide +kernel
theorem dX7_findSet_43 : decode cX7_findSet 43 = .ok (.istore 5, 2) := by decide +kernel
theorem dX7_findSet_45 : decode cX7_findSet 45 = .ok (.iload 5, 2) := by decide +kernel
theorem dX7_findSet_47 : decode cX7_findSet 47 = .ok (.aload_n 0, 1) := by decide +kernel
theorem dX7_findSet_48 : decode cX7_findSet 48 = .ok (.getfield 53, 3) := by decide +kernel
theorem dX7_findSet_51 : decode cX7_findSet 51 = .ok (.if_icmp .ge 35, 3) := by decide +kernel
theorem dX7_findSet_54 : decode cX7_findSet 54 = .ok (.iload 4, 2) := by decide +kernel
theorem dX7_findSet_56 : decode cX7_findSet 56 = .ok (.aload_n 0, 1) := by decide +kernel
theorem dX7_findSet_57 : decode cX7_findSet 57 = .ok (.getfield 13, 3) := by decide +kernel
theorem dX7_findSet_60 : decode cX7_findSet 60 = .ok (.iload 5, 2) := by decide +kernel
theorem dX7_findSet_62 : decode cX7_findSet 62 = .ok (.baload, 1) := by decide +kernel
theorem dX7_findSet_63 : decode cX7_findSet 63 = .ok (.ifCond .eq 7, 3) := by decide +kernel
theorem dX7_findSet_66 : decode cX7_findSet 66 = .ok (.iconst 0, 1) := by decide +kernel
theorem dX7_findSet_67 : decode cX7_findSet 67 = .ok (.goto 10, 3) := by decide +kernel
theorem dX7_findSet_70 : decode cX7_findSet 70 = .ok (.aload_n 0, 1) := by decide +kernel
theorem dX7_findSet_71 : decode cX7_findSet 71 = .ok (.iload_n 3, 1) := by decide +kernel
theorem dX7_findSet_72 : decode cX7_findSet 72 = .ok (.iload 5, 2) := by decide +kernel
theorem dX7_findSet_74 : decode cX7_findSet 74 = .ok (.invokevirtual 157, 3) := by decide +kernel
theorem dX7_findSet_77 : decode cX7_findSet 77 = .ok (.iadd, 1) := by decide +kernel
theorem dX7_findSet_78 : decode cX7_findSet 78 = .ok (.istore 4, 2) := by decide +kernel
theorem dX7_findSet_80 : decode cX7_findSet 80 = .ok (.iinc 5 1, 3) := by decide +kernel
theorem dX7_findSet_83 : decode cX7_findSet 83 = .ok (.goto (-38), 3) := by decide +kernel
theorem dX7_findSet_86 : decode cX7_findSet 86 = .ok (.aload_n 0, 1) := by decide +kernel
theorem dX7_findSet_87 : decode cX7_findSet 87 = .ok (.getfield 148, 3) := by decide +kernel
theorem dX7_findSet_90 : decode cX7_findSet 90 = .ok (.ifCond .lt 32, 3) := by decide +kernel
theorem dX7_findSet_93 : decode cX7_findSet 93 = .ok (.iload 4, 2) := by decide +kernel
theorem dX7_findSet_95 : decode cX7_findSet 95 = .ok (.aload_n 0, 1) := by decide +kernel
theorem dX7_findSet_96 : decode cX7_findSet 96 = .ok (.getfield 151, 3) := by decide +kernel
theorem dX7_findSet_99 : decode cX7_findSet 99 = .ok (.if_icmp .lt 23, 3) := by decide +kernel
theorem dX7_findSet_102 : decode cX7_findSet 102 = .ok (.iload 4, 2) := by decide +kernel
theorem dX7_findSet_104 : decode cX7_findSet 104 = .ok (.aload_n 0, 1) := by decide +kernel
theorem dX7_findSet_105 : decode cX7_findSet 105 = .ok (.getfield 151, 3) := by decide +kernel
theorem dX7_findSet_108 : decode cX7_findSet 108 = .ok (.if_icmp .ne 25, 3) := by decide +kernel
theorem dX7_findSet_111 : decode cX7_findSet 111 = .ok (.iload_n 3, 1) := by decide +kernel
theorem dX7_findSet_112 : decode cX7_findSet 112 = .ok (.aload_n 0, 1) := by decide +kernel
theorem dX7_findSet_113 : decode cX7_findSet 113 = .ok (.getfield 148, 3) := by decide +kernel
theorem dX7_findSet_116 : decode cX7_findSet 116 = .ok (.invokestatic 160, 3) := by decide +kernel
theorem dX7_findSet_119 : decode cX7_findSet 119 = .ok (.ifCond .eq 14, 3) := by decide +kernel
theorem dX7_findSet_122 : decode cX7_findSet 122 = .ok (.aload_n 0, 1) := by decide +kernel
theorem dX7_findSet_123 : decode cX7_findSet 123 = .ok (.iload_n 3, 1) := by decide +kernel
theorem dX7_findSet_124 : decode cX7_findSet 124 = .ok (.putfield 148, 3) := by decide +kernel
theorem dX7_findSet_127 : decode cX7_findSet 127 = .ok (.aload_n 0, 1) := by decide +kernel
theorem dX7_findSet_128 : decode cX7_findSet 128 = .ok (.iload 4, 2) := by decide +kernel
theorem dX7_findSet_130 : decode cX7_findSet 130 = .ok (.putfield 151, 3) := by decide +kernel
theorem dX7_findSet_133 : decode cX7_findSet 133 = .ok (.iinc 3 1, 3) := by decide +kernel
theorem dX7_findSet_136 : decode cX7_findSet 136 = .ok (.goto (-119), 3) := by decide +kernel
theorem dX7_findSet_139 : decode cX7_findSet 139 = .ok (.return_, 1) := by decide +kernel
theorem dX7_leastOf_0 : decode cX7_leastOf 0 = .ok (.ldc 64, 2) := by decide +kernel
theorem dX7_leastOf_2 : decode cX7_leastOf 2 = .ok (.istore_n 3, 1) := by decide +kernel
theorem dX7_leastOf_3 : decode cX7_leastOf 3 = .ok (.iconst 0, 1) := by decide +kernel
theorem dX7_leastOf_4 : decode cX7_leastOf 4 = .ok (.istore 4, 2) := by decide +kernel
theorem dX7_leastOf_6 : decode cX7_leastOf 6 = .ok (.iload 4, 2) := by decide +kernel
theorem dX7_leastOf_8 : decode cX7_leastOf 8 = .ok (.aload_n 0, 1) := by decide +kernel
theorem dX7_leastOf_9 : decode cX7_leastOf 9 = .ok (.getfield 46, 3) := by decide +kernel
theorem dX7_leastOf_12 : decode cX7_leastOf 12 = .ok (.if_icmp .ge 42, 3) := by decide +kernel
theorem dX7_leastOf_15 : decode cX7_leastOf 15 = .ok (.iload_n 1, 1) := by decide +kernel
theorem dX7_leastOf_16 : decode cX7_leastOf 16 = .ok (.iload 4, 2) := by decide +kernel
theorem dX7_leastOf_18 : decode cX7_leastOf 18 = .ok (.ishr, 1) := by decide +kernel
theorem dX7_leastOf_19 : decode cX7_leastOf 19 = .ok (.iconst 1, 1) := by decide +kernel
theorem dX7_leastOf_20 : decode cX7_leastOf 20 = .ok (.iand, 1) := by decide +kernel
theorem dX7_leastOf_21 : decode cX7_leastOf 21 = .ok (.iconst 1, 1) := by decide +kernel
theorem dX7_leastOf_22 : decode cX7_leastOf 22 = .ok (.if_icmp .ne 24, 3) := by decide +kernel
theorem dX7_leastOf_25 : decode cX7_leastOf 25 = .ok (.aload_n 0, 1) := by decide +kernel
theorem dX7_leastOf_26 : decode cX7_leastOf 26 = .ok (.iload 4, 2) := by decide +kernel
theorem dX7_leastOf_28 : decode cX7_leastOf 28 = .ok (.iload_n 2, 1) := by decide +kernel
theorem dX7_leastOf_29 : decode cX7_leastOf 29 = .ok (.invokevirtual 65, 3) := by decide +kernel
theorem dX7_leastOf_32 : decode cX7_leastOf 32 = .ok (.iload_n 3, 1) := by decide +kernel
theorem dX7_leastOf_33 : decode cX7_leastOf 33 = .ok (.if_icmp .ge 13, 3) := by decide +kernel
theorem dX7_leastOf_36 : decode cX7_leastOf 36 = .ok (.aload_n 0, 1) := by decide +kernel
theorem dX7_leastOf_37 : decode cX7_leastOf 37 = .ok (.iload 4, 2) := by decide +kernel
theorem dX7_leastOf_39 : decode cX7_leastOf 39 = .ok (.iload_n 2, 1) := by decide +kernel
theorem dX7_leastOf_40 : decode cX7_leastOf 40 = .ok (.invokevirtual 65, 3) := by decide +kernel
theorem dX7_leastOf_43 : decode cX7_leastOf 43 = .ok (.goto 4, 3) := by decide +kernel
theorem dX7_leastOf_46 : decode cX7_leastOf 46 = .ok (.iload_n 3, 1) := by decide +kernel
theorem dX7_leastOf_47 : decode cX7_leastOf 47 = .ok (.istore_n 3, 1) := by decide +kernel
theorem dX7_leastOf_48 : decode cX7_leastOf 48 = .ok (.iinc 4 1, 3) := by decide +kernel
theorem dX7_leastOf_51 : decode cX7_leastOf 51 = .ok (.goto (-45), 3) := by decide +kernel
theorem dX7_leastOf_54 : decode cX7_leastOf 54 = .ok (.iload_n 3, 1) := by decide +kernel
theorem dX7_leastOf_55 : decode cX7_leastOf 55 = .ok (.ireturn, 1) := by decide +kernel
theorem dX7_portfolio_0 : decode cX7_portfolio 0 = .ok (.aload_n 0, 1) := by decide +kernel
theorem dX7_portfolio_1 : decode cX7_portfolio 1 = .ok (.iconst 0, 1) := by decide +kernel
theorem dX7_portfolio_2 : decode cX7_portfolio 2 = .ok (.putfield 43, 3) := by decide +kernel
theorem dX7_portfolio_5 : decode cX7_portfolio 5 = .ok (.iload_n 1, 1) := by decide +kernel
theorem dX7_portfolio_6 : decode cX7_portfolio 6 = .ok (.iconst 1, 1) := by decide +kernel
theorem dX7_portfolio_7 : decode cX7_portfolio 7 = .ok (.if_icmp .ge 6, 3) := by decide +kernel
theorem dX7_portfolio_10 : decode cX7_portfolio 10 = .ok (.bipush (-2), 2) := by decide +kernel
theorem dX7_portfolio_12 : decode cX7_portfolio 12 = .ok (.ireturn, 1) := by decide +kernel
theorem dX7_portfolio_13 : decode cX7_portfolio 13 = .ok (.aload_n 0, 1) := by decide +kernel
theorem dX7_portfolio_14 : decode cX7_portfolio 14 = .ok (.invokevirtual 145, 3) := by decide +kernel
theorem dX7_portfolio_17 : decode cX7_portfolio 17 = .ok (.invokestatic 154, 3) := by decide +kernel
theorem dX7_portfolio_20 : decode cX7_portfolio 20 = .ok (.iload_n 1, 1) := by decide +kernel
theorem dX7_portfolio_21 : decode cX7_portfolio 21 = .ok (.if_icmp .ge 6, 3) := by decide +kernel
theorem dX7_portfolio_24 : decode cX7_portfolio 24 = .ok (.bipush (-3), 2) := by decide +kernel
theorem dX7_portfolio_26 : decode cX7_portfolio 26 = .ok (.ireturn, 1) := by decide +kernel
theorem dX7_portfolio_27 : decode cX7_portfolio 27 = .ok (.iload_n 2, 1) := by decide +kernel
theorem dX7_portfolio_28 : decode cX7_portfolio 28 = .ok (.iconst (-1), 1) := by decide +kernel
theorem dX7_portfolio_29 : decode cX7_portfolio 29 = .ok (.iload_n 1, 1) := by decide +kernel
theorem dX7_portfolio_30 : decode cX7_portfolio 30 = .ok (.iconst 1, 1) := by decide +kernel
theorem dX7_portfolio_31 : decode cX7_portfolio 31 = .ok (.isub, 1) := by decide +kernel
theorem dX7_portfolio_32 : decode cX7_portfolio 32 = .ok (.invokestatic 49, 3) := by decide +kernel
theorem dX7_portfolio_35 : decode cX7_portfolio 35 = .ok (.ifCond .ne 5, 3) := by decide +kernel
theorem dX7_portfolio_38 : decode cX7_portfolio 38 = .ok (.iconst (-1), 1) := by decide +kernel
theorem dX7_portfolio_39 : decode cX7_portfolio 39 = .ok (.ireturn, 1) := by decide +kernel
theorem dX7_portfolio_40 : decode cX7_portfolio 40 = .ok (.aload_n 0, 1) := by decide +kernel
theorem dX7_portfolio_41 : decode cX7_portfolio 41 = .ok (.iload_n 1, 1) := by decide +kernel
theorem dX7_portfolio_42 : decode cX7_portfolio 42 = .ok (.invokevirtual 164, 3) := by decide +kernel
theorem dX7_portfolio_45 : decode cX7_portfolio 45 = .ok (.iload_n 2, 1) := by decide +kernel
theorem dX7_portfolio_46 : decode cX7_portfolio 46 = .ok (.ifCond .ge 8, 3) := by decide +kernel
theorem dX7_portfolio_49 : decode cX7_portfolio 49 = .ok (.aload_n 0, 1) := by decide +kernel
theorem dX7_portfolio_50 : decode cX7_portfolio 50 = .ok (.getfield 151, 3) := by decide +kernel
theorem dX7_portfolio_53 : decode cX7_portfolio 53 = .ok (.ireturn, 1) := by decide +kernel
theorem dX7_portfolio_54 : decode cX7_portfolio 54 = .ok (.iconst 0, 1) := by decide +kernel
theorem dX7_portfolio_55 : decode cX7_portfolio 55 = .ok (.istore_n 3, 1) := by decide +kernel
theorem dX7_portfolio_56 : decode cX7_portfolio 56 = .ok (.iconst 0, 1) := by decide +kernel
theorem dX7_portfolio_57 : decode cX7_portfolio 57 = .ok (.istore 4, 2) := by decide +kernel
theorem dX7_portfolio_59 : decode cX7_portfolio 59 = .ok (.iload 4, 2) := by decide +kernel
theorem dX7_portfolio_61 : decode cX7_portfolio 61 = .ok (.bipush 12, 2) := by decide +kernel
theorem dX7_portfolio_63 : decode cX7_portfolio 63 = .ok (.if_icmp .ge 33, 3) := by decide +kernel
theorem dX7_portfolio_66 : decode cX7_portfolio 66 = .ok (.aload_n 0, 1) := by decide +kernel
theorem dX7_portfolio_67 : decode cX7_portfolio 67 = .ok (.getfield 148, 3) := by decide +kernel
theorem dX7_portfolio_70 : decode cX7_portfolio 70 = .ok (.iload 4, 2) := by decide +kernel
theorem dX7_portfolio_72 : decode cX7_portfolio 72 = .ok (.ishr, 1) := by decide +kernel
theorem dX7_portfolio_73 : decode cX7_portfolio 73 = .ok (.iconst 1, 1) := by decide +kernel
theorem dX7_portfolio_74 : decode cX7_portfolio 74 = .ok (.iand, 1) := by decide +kernel
theorem dX7_portfolio_75 : decode cX7_portfolio 75 = .ok (.iconst 1, 1) := by decide +kernel
theorem dX7_portfolio_76 : decode cX7_portfolio 76 = .ok (.if_icmp .ne 14, 3) := by decide +kernel
theorem dX7_portfolio_79 : decode cX7_portfolio 79 = .ok (.iload_n 3, 1) := by decide +kernel
theorem dX7_portfolio_80 : decode cX7_portfolio 80 = .ok (.iload_n 2, 1) := by decide +kernel
theorem dX7_portfolio_81 : decode cX7_portfolio 81 = .ok (.if_icmp .ne 6, 3) := by decide +kernel
theorem dX7_portfolio_84 : decode cX7_portfolio 84 = .ok (.iload 4, 2) := by decide +kernel
theorem dX7_portfolio_86 : decode cX7_portfolio 86 = .ok (.ireturn, 1) := by decide +kernel
theorem dX7_portfolio_87 : decode cX7_portfolio 87 = .ok (.iinc 3 1, 3) := by decide +kernel
theorem dX7_portfolio_90 : decode cX7_portfolio 90 = .ok (.iinc 4 1, 3) := by decide +kernel
theorem dX7_portfolio_93 : decode cX7_portfolio 93 = .ok (.goto (-34), 3) := by decide +kernel
theorem dX7_portfolio_96 : decode cX7_portfolio 96 = .ok (.iconst (-1), 1) := by decide +kernel
theorem dX7_portfolio_97 : decode cX7_portfolio 97 = .ok (.ireturn, 1) := by decide +kernel
theorem dX7_farOf_0 : decode cX7_farOf 0 = .ok (.aload_n 0, 1) := by decide +kernel
theorem dX7_farOf_1 : decode cX7_farOf 1 = .ok (.getfield 7, 3) := by decide +kernel
theorem dX7_farOf_4 : decode cX7_farOf 4 = .ok (.iconst 2, 1) := by decide +kernel
theorem dX7_farOf_5 : decode cX7_farOf 5 = .ok (.iload_n 1, 1) := by decide +kernel
theorem dX7_farOf_6 : decode cX7_farOf 6 = .ok (.imul, 1) := by decide +kernel
theorem dX7_farOf_7 : decode cX7_farOf 7 = .ok (.iaload, 1) := by decide +kernel
theorem dX7_farOf_8 : decode cX7_farOf 8 = .ok (.aload_n 0, 1) := by decide +kernel
theorem dX7_farOf_9 : decode cX7_farOf 9 = .ok (.getfield 7, 3) := by decide +kernel
theorem dX7_farOf_12 : decode cX7_farOf 12 = .ok (.iconst 2, 1) := by decide +kernel
theorem dX7_farOf_13 : decode cX7_farOf 13 = .ok (.iload_n 2, 1) := by decide +kernel
theorem dX7_farOf_14 : decode cX7_farOf 14 = .ok (.imul, 1) := by decide +kernel
theorem dX7_farOf_15 : decode cX7_farOf 15 = .ok (.iaload, 1) := by decide +kernel
theorem dX7_farOf_16 : decode cX7_farOf 16 = .ok (.isub, 1) := by decide +kernel
theorem dX7_farOf_17 : decode cX7_farOf 17 = .ok (.istore_n 3, 1) := by decide +kernel
theorem dX7_farOf_18 : decode cX7_farOf 18 = .ok (.aload_n 0, 1) := by decide +kernel
theorem dX7_farOf_19 : decode cX7_farOf 19 = .ok (.getfield 7, 3) := by decide +kernel
theorem dX7_farOf_22 : decode cX7_farOf 22 = .ok (.iconst 2, 1) := by decide +kernel
theorem dX7_farOf_23 : decode cX7_farOf 23 = .ok (.iload_n 1, 1) := by decide +kernel
theorem dX7_farOf_24 : decode cX7_farOf 24 = .ok (.imul, 1) := by decide +kernel
theorem dX7_farOf_25 : decode cX7_farOf 25 = .ok (.iconst 1, 1) := by decide +kernel
theorem dX7_farOf_26 : decode cX7_farOf 26 = .ok (.iadd, 1) := by decide +kernel
theorem dX7_farOf_27 : decode cX7_farOf 27 = .ok (.iaload, 1) := by decide +kernel
theorem dX7_farOf_28 : decode cX7_farOf 28 = .ok (.aload_n 0, 1) := by decide +kernel
theorem dX7_farOf_29 : decode cX7_farOf 29 = .ok (.getfield 7, 3) := by decide +kernel
theorem dX7_farOf_32 : decode cX7_farOf 32 = .ok (.iconst 2, 1) := by decide +kernel
theorem dX7_farOf_33 : decode cX7_farOf 33 = .ok (.iload_n 2, 1) := by decide +kernel
theorem dX7_farOf_34 : decode cX7_farOf 34 = .ok (.imul, 1) := by decide +kernel
theorem dX7_farOf_35 : decode cX7_farOf 35 = .ok (.iconst 1, 1) := by decide +kernel
theorem dX7_farOf_36 : decode cX7_farOf 36 = .ok (.iadd, 1) := by decide +kernel
theorem dX7_farOf_37 : decode cX7_farOf 37 = .ok (.iaload, 1) := by decide +kernel
theorem dX7_farOf_38 : decode cX7_farOf 38 = .ok (.isub, 1) := by decide +kernel
theorem dX7_farOf_39 : decode cX7_farOf 39 = .ok (.istore 4, 2) := by decide +kernel
theorem dX7_farOf_41 : decode cX7_farOf 41 = .ok (.iload_n 3, 1) := by decide +kernel
theorem dX7_farOf_42 : decode cX7_farOf 42 = .ok (.ifCond .ge 8, 3) := by decide +kernel
theorem dX7_farOf_45 : decode cX7_farOf 45 = .ok (.iload_n 3, 1) := by decide +kernel
theorem dX7_farOf_46 : decode cX7_farOf 46 = .ok (.ineg, 1) := by decide +kernel
theorem dX7_farOf_47 : decode cX7_farOf 47 = .ok (.goto 4, 3) := by decide +kernel
theorem dX7_farOf_50 : decode cX7_farOf 50 = .ok (.iload_n 3, 1) := by decide +kernel
theorem dX7_farOf_51 : decode cX7_farOf 51 = .ok (.iload 4, 2) := by decide +kernel
theorem dX7_farOf_53 : decode cX7_farOf 53 = .ok (.ifCond .ge 9, 3) := by decide +kernel
theorem dX7_farOf_56 : decode cX7_farOf 56 = .ok (.iload 4, 2) := by decide +kernel
theorem dX7_farOf_58 : decode cX7_farOf 58 = .ok (.ineg, 1) := by decide +kernel
theorem dX7_farOf_59 : decode cX7_farOf 59 = .ok (.goto 5, 3) := by decide +kernel
theorem dX7_farOf_62 : decode cX7_farOf 62 = .ok (.iload 4, 2) := by decide +kernel
theorem dX7_farOf_64 : decode cX7_farOf 64 = .ok (.iadd, 1) := by decide +kernel
theorem dX7_farOf_65 : decode cX7_farOf 65 = .ok (.ireturn, 1) := by decide +kernel
theorem dX7_pickOf_0 : decode cX7_pickOf 0 = .ok (.iconst (-1), 1) := by decide +kernel
theorem dX7_pickOf_1 : decode cX7_pickOf 1 = .ok (.istore_n 2, 1) := by decide +kernel
theorem dX7_pickOf_2 : decode cX7_pickOf 2 = .ok (.iconst 0, 1) := by decide +kernel
theorem dX7_pickOf_3 : decode cX7_pickOf 3 = .ok (.istore_n 3, 1) := by decide +kernel
theorem dX7_pickOf_4 : decode cX7_pickOf 4 = .ok (.iload_n 3, 1) := by decide +kernel
theorem dX7_pickOf_5 : decode cX7_pickOf 5 = .ok (.aload_n 0, 1) := by decide +kernel
theorem dX7_pickOf_6 : decode cX7_pickOf 6 = .ok (.getfield 53, 3) := by decide +kernel
theorem dX7_pickOf_9 : decode cX7_pickOf 9 = .ok (.if_icmp .ge 48, 3) := by decide +kernel
theorem dX7_pickOf_12 : decode cX7_pickOf 12 = .ok (.iload_n 3, 1) := by decide +kernel
theorem dX7_pickOf_13 : decode cX7_pickOf 13 = .ok (.iload_n 1, 1) := by decide +kernel
theorem dX7_pickOf_14 : decode cX7_pickOf 14 = .ok (.if_icmp .eq 35, 3) := by decide +kernel
theorem dX7_pickOf_17 : decode cX7_pickOf 17 = .ok (.aload_n 0, 1) := by decide +kernel
theorem dX7_pickOf_18 : decode cX7_pickOf 18 = .ok (.getfield 13, 3) := by decide +kernel
theorem dX7_pickOf_21 : decode cX7_pickOf 21 = .ok (.iload_n 3, 1) := by decide +kernel
theorem dX7_pickOf_22 : decode cX7_pickOf 22 = .ok (.baload, 1) := by decide +kernel
theorem dX7_pickOf_23 : decode cX7_pickOf 23 = .ok (.ifCond .ne 26, 3) := by decide +kernel
theorem dX7_pickOf_26 : decode cX7_pickOf 26 = .ok (.iload_n 2, 1) := by decide +kernel
theorem dX7_pickOf_27 : decode cX7_pickOf 27 = .ok (.ifCond .lt 18, 3) := by decide +kernel
theorem dX7_pickOf_30 : decode cX7_pickOf 30 = .ok (.aload_n 0, 1) := by decide +kernel
theorem dX7_pickOf_31 : decode cX7_pickOf 31 = .ok (.iload_n 1, 1) := by decide +kernel
theorem dX7_pickOf_32 : decode cX7_pickOf 32 = .ok (.iload_n 3, 1) := by decide +kernel
theorem dX7_pickOf_33 : decode cX7_pickOf 33 = .ok (.invokevirtual 168, 3) := by decide +kernel
theorem dX7_pickOf_36 : decode cX7_pickOf 36 = .ok (.aload_n 0, 1) := by decide +kernel
theorem dX7_pickOf_37 : decode cX7_pickOf 37 = .ok (.iload_n 1, 1) := by decide +kernel
theorem dX7_pickOf_38 : decode cX7_pickOf 38 = .ok (.iload_n 2, 1) := by decide +kernel
theorem dX7_pickOf_39 : decode cX7_pickOf 39 = .ok (.invokevirtual 168, 3) := by decide +kernel
theorem dX7_pickOf_42 : decode cX7_pickOf 42 = .ok (.if_icmp .ge 7, 3) := by decide +kernel
theorem dX7_pickOf_45 : decode cX7_pickOf 45 = .ok (.iload_n 3, 1) := by decide +kernel
theorem dX7_pickOf_46 : decode cX7_pickOf 46 = .ok (.goto 4, 3) := by decide +kernel
theorem dX7_pickOf_49 : decode cX7_pickOf 49 = .ok (.iload_n 2, 1) := by decide +kernel
theorem dX7_pickOf_50 : decode cX7_pickOf 50 = .ok (.istore_n 2, 1) := by decide +kernel
theorem dX7_pickOf_51 : decode cX7_pickOf 51 = .ok (.iinc 3 1, 3) := by decide +kernel
theorem dX7_pickOf_54 : decode cX7_pickOf 54 = .ok (.goto (-50), 3) := by decide +kernel
theorem dX7_pickOf_57 : decode cX7_pickOf 57 = .ok (.bipush (-3), 2) := by decide +kernel
theorem dX7_pickOf_59 : decode cX7_pickOf 59 = .ok (.istore_n 3, 1) := by decide +kernel
theorem dX7_pickOf_60 : decode cX7_pickOf 60 = .ok (.iconst 0, 1) := by decide +kernel
theorem dX7_pickOf_61 : decode cX7_pickOf 61 = .ok (.istore 4, 2) := by decide +kernel
theorem dX7_pickOf_63 : decode cX7_pickOf 63 = .ok (.iload 4, 2) := by decide +kernel
theorem dX7_pickOf_65 : decode cX7_pickOf 65 = .ok (.aload_n 0, 1) := by decide +kernel
theorem dX7_pickOf_66 : decode cX7_pickOf 66 = .ok (.getfield 46, 3) := by decide +kernel
theorem dX7_pickOf_69 : decode cX7_pickOf 69 = .ok (.if_icmp .ge 49, 3) := by decide +kernel
theorem dX7_pickOf_72 : decode cX7_pickOf 72 = .ok (.iload_n 2, 1) := by decide +kernel
theorem dX7_pickOf_73 : decode cX7_pickOf 73 = .ok (.ifCond .lt 45, 3) := by decide +kernel
theorem dX7_pickOf_76 : decode cX7_pickOf 76 = .ok (.aload_n 0, 1) := by decide +kernel
theorem dX7_pickOf_77 : decode cX7_pickOf 77 = .ok (.iload 4, 2) := by decide +kernel
theorem dX7_pickOf_79 : decode cX7_pickOf 79 = .ok (.invokevirtual 142, 3) := by decide +kernel
theorem dX7_pickOf_82 : decode cX7_pickOf 82 = .ok (.ifCond .eq 28, 3) := by decide +kernel
theorem dX7_pickOf_85 : decode cX7_pickOf 85 = .ok (.iload_n 3, 1) := by decide +kernel
theorem dX7_pickOf_86 : decode cX7_pickOf 86 = .ok (.ifCond .lt 19, 3) := by decide +kernel
theorem dX7_pickOf_89 : decode cX7_pickOf 89 = .ok (.aload_n 0, 1) := by decide +kernel
theorem dX7_pickOf_90 : decode cX7_pickOf 90 = .ok (.iload 4, 2) := by decide +kernel
theorem dX7_pickOf_92 : decode cX7_pickOf 92 = .ok (.iload_n 2, 1) := by decide +kernel
theorem dX7_pickOf_93 : decode cX7_pickOf 93 = .ok (.invokevirtual 65, 3) := by decide +kernel
theorem dX7_pickOf_96 : decode cX7_pickOf 96 = .ok (.aload_n 0, 1) := by decide +kernel
theorem dX7_pickOf_97 : decode cX7_pickOf 97 = .ok (.iload_n 3, 1) := by decide +kernel
theorem dX7_pickOf_98 : decode cX7_pickOf 98 = .ok (.iload_n 2, 1) := by decide +kernel
theorem dX7_pickOf_99 : decode cX7_pickOf 99 = .ok (.invokevirtual 65, 3) := by decide +kernel
theorem dX7_pickOf_102 : decode cX7_pickOf 102 = .ok (.if_icmp .ge 8, 3) := by decide +kernel
theorem dX7_pickOf_105 : decode cX7_pickOf 105 = .ok (.iload 4, 2) := by decide +kernel
theorem dX7_pickOf_107 : decode cX7_pickOf 107 = .ok (.goto 4, 3) := by decide +kernel
theorem dX7_pickOf_110 : decode cX7_pickOf 110 = .ok (.iload_n 3, 1) := by decide +kernel
theorem dX7_pickOf_111 : decode cX7_pickOf 111 = .ok (.istore_n 3, 1) := by decide +kernel
theorem dX7_pickOf_112 : decode cX7_pickOf 112 = .ok (.iinc 4 1, 3) := by decide +kernel
theorem dX7_pickOf_115 : decode cX7_pickOf 115 = .ok (.goto (-52), 3) := by decide +kernel
theorem dX7_pickOf_118 : decode cX7_pickOf 118 = .ok (.iload_n 3, 1) := by decide +kernel
theorem dX7_pickOf_119 : decode cX7_pickOf 119 = .ok (.ireturn, 1) := by decide +kernel
theorem dX7_pick_0 : decode cX7_pick 0 = .ok (.aload_n 0, 1) := by decide +kernel
theorem dX7_pick_1 : decode cX7_pick 1 = .ok (.iconst 0, 1) := by decide +kernel
theorem dX7_pick_2 : decode cX7_pick 2 = .ok (.putfield 43, 3) := by decide +kernel
theorem dX7_pick_5 : decode cX7_pick 5 = .ok (.aload_n 0, 1) := by decide +kernel
theorem dX7_pick_6 : decode cX7_pick 6 = .ok (.iload_n 1, 1) := by decide +kernel
theorem dX7_pick_7 : decode cX7_pick 7 = .ok (.invokevirtual 60, 3) := by decide +kernel
theorem dX7_pick_10 : decode cX7_pick 10 = .ok (.ifCond .eq 11, 3) := by decide +kernel
theorem dX7_pick_13 : decode cX7_pick 13 = .ok (.aload_n 0, 1) := by decide +kernel
theorem dX7_pick_14 : decode cX7_pick 14 = .ok (.iload_n 1, 1) := by decide +kernel
theorem dX7_pick_15 : decode cX7_pick 15 = .ok (.invokevirtual 171, 3) := by decide +kernel
theorem dX7_pick_18 : decode cX7_pick 18 = .ok (.goto 4, 3) := by decide +kernel
theorem dX7_pick_21 : decode cX7_pick 21 = .ok (.iconst (-1), 1) := by decide +kernel
theorem dX7_pick_22 : decode cX7_pick 22 = .ok (.ireturn, 1) := by decide +kernel
theorem dX7_sideBest_0 : decode cX7_sideBest 0 = .ok (.iconst (-1), 1) := by decide +kernel
theorem dX7_sideBest_1 : decode cX7_sideBest 1 = .ok (.istore 4, 2) := by decide +kernel
theorem dX7_sideBest_3 : decode cX7_sideBest 3 = .ok (.iconst 0, 1) := by decide +kernel
theorem dX7_sideBest_4 : decode cX7_sideBest 4 = .ok (.istore 5, 2) := by decide +kernel
theorem dX7_sideBest_6 : decode cX7_sideBest 6 = .ok (.iload 5, 2) := by decide +kernel
theorem dX7_sideBest_8 : decode cX7_sideBest 8 = .ok (.aload_n 0, 1) := by decide +kernel
theorem dX7_sideBest_9 : decode cX7_sideBest 9 = .ok (.getfield 46, 3) := by decide +kernel
theorem dX7_sideBest_12 : decode cX7_sideBest 12 = .ok (.if_icmp .ge 114, 3) := by decide +kernel
theorem dX7_sideBest_15 : decode cX7_sideBest 15 = .ok (.aload_n 0, 1) := by decide +kernel
theorem dX7_sideBest_16 : decode cX7_sideBest 16 = .ok (.iload 5, 2) := by decide +kernel
theorem dX7_sideBest_18 : decode cX7_sideBest 18 = .ok (.invokevirtual 142, 3) := by decide +kernel
theorem dX7_sideBest_21 : decode cX7_sideBest 21 = .ok (.ifCond .eq 99, 3) := by decide +kernel
theorem dX7_sideBest_24 : decode cX7_sideBest 24 = .ok (.iconst 0, 1) := by decide +kernel
theorem dX7_sideBest_25 : decode cX7_sideBest 25 = .ok (.istore 6, 2) := by decide +kernel
theorem dX7_sideBest_27 : decode cX7_sideBest 27 = .ok (.iconst 0, 1) := by decide +kernel
theorem dX7_sideBest_28 : decode cX7_sideBest 28 = .ok (.istore 7, 2) := by decide +kernel
theorem dX7_sideBest_30 : decode cX7_sideBest 30 = .ok (.iload 7, 2) := by decide +kernel
theorem dX7_sideBest_32 : decode cX7_sideBest 32 = .ok (.aload_n 0, 1) := by decide +kernel
theorem dX7_sideBest_33 : decode cX7_sideBest 33 = .ok (.getfield 53, 3) := by decide +kernel
theorem dX7_sideBest_36 : decode cX7_sideBest 36 = .ok (.if_icmp .ge 60, 3) := by decide +kernel
theorem dX7_sideBest_39 : decode cX7_sideBest 39 = .ok (.iload 6, 2) := by decide +kernel
theorem dX7_sideBest_41 : decode cX7_sideBest 41 = .ok (.aload_n 0, 1) := by decide +kernel
theorem dX7_sideBest_42 : decode cX7_sideBest 42 = .ok (.getfield 13, 3) := by decide +kernel
theorem dX7_sideBest_45 : decode cX7_sideBest 45 = .ok (.iload 7, 2) := by decide +kernel
theorem dX7_sideBest_47 : decode cX7_sideBest 47 = .ok (.baload, 1) := by decide +kernel
theorem dX7_sideBest_48 : decode cX7_sideBest 48 = .ok (.ifCond .ne 38, 3) := by decide +kernel
theorem dX7_sideBest_51 : decode cX7_sideBest 51 = .ok (.aload_n 0, 1) := by decide +kernel
theorem dX7_sideBest_52 : decode cX7_sideBest 52 = .ok (.getfield 7, 3) := by decide +kernel
theorem dX7_sideBest_55 : decode cX7_sideBest 55 = .ok (.iconst 2, 1) := by decide +kernel
theorem dX7_sideBest_56 : decode cX7_sideBest 56 = .ok (.iload 7, 2) := by decide +kernel
theorem dX7_sideBest_58 : decode cX7_sideBest 58 = .ok (.imul, 1) := by decide +kernel
theorem dX7_sideBest_59 : decode cX7_sideBest 59 = .ok (.iload_n 1, 1) := by decide +kernel
theorem dX7_sideBest_60 : decode cX7_sideBest 60 = .ok (.iadd, 1) := by decide +kernel
theorem dX7_sideBest_61 : decode cX7_sideBest 61 = .ok (.iaload, 1) := by decide +kernel
theorem dX7_sideBest_62 : decode cX7_sideBest 62 = .ok (.iload_n 2, 1) := by decide +kernel
theorem dX7_sideBest_63 : decode cX7_sideBest 63 = .ok (.if_icmp .ge 7, 3) := by decide +kernel
theorem dX7_sideBest_66 : decode cX7_sideBest 66 = .ok (.iconst 1, 1) := by decide +kernel
theorem dX7_sideBest_67 : decode cX7_sideBest 67 = .ok (.goto 4, 3) := by decide +kernel
theorem dX7_sideBest_70 : decode cX7_sideBest 70 = .ok (.iconst 0, 1) := by decide +kernel
theorem dX7_sideBest_71 : decode cX7_sideBest 71 = .ok (.iload_n 3, 1) := by decide +kernel
theorem dX7_sideBest_72 : decode cX7_sideBest 72 = .ok (.if_icmp .ne 14, 3) := by decide +kernel
theorem dX7_sideBest_75 : decode cX7_sideBest 75 = .ok (.aload_n 0, 1) := by decide +kernel
theorem dX7_sideBest_76 : decode cX7_sideBest 76 = .ok (.iload 5, 2) := by decide +kernel
theorem dX7_sideBest_78 : decode cX7_sideBest 78 = .ok (.iload 7, 2) := by decide +kernel
theorem dX7_sideBest_80 : decode cX7_sideBest 80 = .ok (.invokevirtual 65, 3) := by decide +kernel
theorem dX7_sideBest_83 : decode cX7_sideBest 83 = .ok (.goto 4, 3) := by decide +kernel
theorem dX7_sideBest_86 : decode cX7_sideBest 86 = .ok (.iconst 0, 1) := by decide +kernel
theorem dX7_sideBest_87 : decode cX7_sideBest 87 = .ok (.iadd, 1) := by decide +kernel
theorem dX7_sideBest_88 : decode cX7_sideBest 88 = .ok (.istore 6, 2) := by decide +kernel
theorem dX7_sideBest_90 : decode cX7_sideBest 90 = .ok (.iinc 7 1, 3) := by decide +kernel
theorem dX7_sideBest_93 : decode cX7_sideBest 93 = .ok (.goto (-63), 3) := by decide +kernel
theorem dX7_sideBest_96 : decode cX7_sideBest 96 = .ok (.iload 4, 2) := by decide +kernel
theorem dX7_sideBest_98 : decode cX7_sideBest 98 = .ok (.ifCond .lt 12, 3) := by decide +kernel
theorem dX7_sideBest_101 : decode cX7_sideBest 101 = .ok (.iload 6, 2) := by decide +kernel
theorem dX7_sideBest_103 : decode cX7_sideBest 103 = .ok (.aload_n 0, 1) := by decide +kernel
theorem dX7_sideBest_104 : decode cX7_sideBest 104 = .ok (.getfield 174, 3) := by decide +kernel
theorem dX7_sideBest_107 : decode cX7_sideBest 107 = .ok (.if_icmp .ge 13, 3) := by decide +kernel
theorem dX7_sideBest_110 : decode cX7_sideBest 110 = .ok (.iload 5, 2) := by decide +kernel
theorem dX7_sideBest_112 : decode cX7_sideBest 112 = .ok (.istore 4, 2) := by decide +kernel
theorem dX7_sideBest_114 : decode cX7_sideBest 114 = .ok (.aload_n 0, 1) := by decide +kernel
theorem dX7_sideBest_115 : decode cX7_sideBest 115 = .ok (.iload 6, 2) := by decide +kernel
theorem dX7_sideBest_117 : decode cX7_sideBest 117 = .ok (.putfield 174, 3) := by decide +kernel
theorem dX7_sideBest_120 : decode cX7_sideBest 120 = .ok (.iinc 5 1, 3) := by decide +kernel
theorem dX7_sideBest_123 : decode cX7_sideBest 123 = .ok (.goto (-117), 3) := by decide +kernel
theorem dX7_sideBest_126 : decode cX7_sideBest 126 = .ok (.iload 4, 2) := by decide +kernel
theorem dX7_sideBest_128 : decode cX7_sideBest 128 = .ok (.ireturn, 1) := by decide +kernel
theorem dX7_findStump_0 : decode cX7_findStump 0 = .ok (.aload_n 0, 1) := by decide +kernel
theorem dX7_findStump_1 : decode cX7_findStump 1 = .ok (.iconst (-1), 1) := by decide +kernel
theorem dX7_findStump_2 : decode cX7_findStump 2 = .ok (.putfield 177, 3) := by decide +kernel
theorem dX7_findStump_5 : decode cX7_findStump 5 = .ok (.iconst 0, 1) := by decide +kernel
theorem dX7_findStump_6 : decode cX7_findStump 6 = .ok (.istore_n 1, 1) := by decide +kernel
theorem dX7_findStump_7 : decode cX7_findStump 7 = .ok (.iload_n 1, 1) := by decide +kernel
theorem dX7_findStump_8 : decode cX7_findStump 8 = .ok (.iconst 2, 1) := by decide +kernel
theorem dX7_findStump_9 : decode cX7_findStump 9 = .ok (.if_icmp .ge 98, 3) := by decide +kernel
theorem dX7_findStump_12 : decode cX7_findStump 12 = .ok (.iconst 1, 1) := by decide +kernel
theorem dX7_findStump_13 : decode cX7_findStump 13 = .ok (.istore_n 2, 1) := by decide +kernel
theorem dX7_findStump_14 : decode cX7_findStump 14 = .ok (.iload_n 2, 1) := by decide +kernel
theorem dX7_findStump_15 : decode cX7_findStump 15 = .ok (.bipush 100, 2) := by decide +kernel
theorem dX7_findStump_17 : decode cX7_findStump 17 = .ok (.if_icmp .gt 84, 3) := by decide +kernel
theorem dX7_findStump_20 : decode cX7_findStump 20 = .ok (.aload_n 0, 1) := by decide +kernel
theorem dX7_findStump_21 : decode cX7_findStump 21 = .ok (.iload_n 1, 1) := by decide +kernel
theorem dX7_findStump_22 : decode cX7_findStump 22 = .ok (.iload_n 2, 1) := by decide +kernel
theorem dX7_findStump_23 : decode cX7_findStump 23 = .ok (.iconst 1, 1) := by decide +kernel
theorem dX7_findStump_24 : decode cX7_findStump 24 = .ok (.invokevirtual 180, 3) := by decide +kernel
theorem dX7_findStump_27 : decode cX7_findStump 27 = .ok (.istore_n 3, 1) := by decide +kernel
theorem dX7_findStump_28 : decode cX7_findStump 28 = .ok (.aload_n 0, 1) := by decide +kernel
theorem dX7_findStump_29 : decode cX7_findStump 29 = .ok (.getfield 174, 3) := by decide +kernel
theorem dX7_findStump_32 : decode cX7_findStump 32 = .ok (.istore 4, 2) := by decide +kernel
theorem dX7_findStump_34 : decode cX7_findStump 34 = .ok (.aload_n 0, 1) := by decide +kernel
theorem dX7_findStump_35 : decode cX7_findStump 35 = .ok (.iload_n 1, 1) := by decide +kernel
theorem dX7_findStump_36 : decode cX7_findStump 36 = .ok (.iload_n 2, 1) := by decide +kernel
theorem dX7_findStump_37 : decode cX7_findStump 37 = .ok (.iconst 0, 1) := by decide +kernel
theorem dX7_findStump_38 : decode cX7_findStump 38 = .ok (.invokevirtual 180, 3) := by decide +kernel
theorem dX7_findStump_41 : decode cX7_findStump 41 = .ok (.istore 5, 2) := by decide +kernel
theorem dX7_findStump_43 : decode cX7_findStump 43 = .ok (.iload 4, 2) := by decide +kernel
theorem dX7_findStump_45 : decode cX7_findStump 45 = .ok (.aload_n 0, 1) := by decide +kernel
theorem dX7_findStump_46 : decode cX7_findStump 46 = .ok (.getfield 174, 3) := by decide +kernel
theorem dX7_findStump_49 : decode cX7_findStump 49 = .ok (.iadd, 1) := by decide +kernel
theorem dX7_findStump_50 : decode cX7_findStump 50 = .ok (.istore 4, 2) := by decide +kernel
theorem dX7_findStump_52 : decode cX7_findStump 52 = .ok (.aload_n 0, 1) := by decide +kernel
theorem dX7_findStump_53 : decode cX7_findStump 53 = .ok (.getfield 177, 3) := by decide +kernel
theorem dX7_findStump_56 : decode cX7_findStump 56 = .ok (.ifCond .lt 12, 3) := by decide +kernel
theorem dX7_findStump_59 : decode cX7_findStump 59 = .ok (.iload 4, 2) := by decide +kernel
theorem dX7_findStump_61 : decode cX7_findStump 61 = .ok (.aload_n 0, 1) := by decide +kernel
theorem dX7_findStump_62 : decode cX7_findStump 62 = .ok (.getfield 177, 3) := by decide +kernel
theorem dX7_findStump_65 : decode cX7_findStump 65 = .ok (.if_icmp .ge 30, 3) := by decide +kernel
theorem dX7_findStump_68 : decode cX7_findStump 68 = .ok (.aload_n 0, 1) := by decide +kernel
theorem dX7_findStump_69 : decode cX7_findStump 69 = .ok (.iload 4, 2) := by decide +kernel
theorem dX7_findStump_71 : decode cX7_findStump 71 = .ok (.putfield 177, 3) := by decide +kernel
theorem dX7_findStump_74 : decode cX7_findStump 74 = .ok (.aload_n 0, 1) := by decide +kernel
theorem dX7_findStump_75 : decode cX7_findStump 75 = .ok (.iload_n 1, 1) := by decide +kernel
theorem dX7_findStump_76 : decode cX7_findStump 76 = .ok (.putfield 184, 3) := by decide +kernel
theorem dX7_findStump_79 : decode cX7_findStump 79 = .ok (.aload_n 0, 1) := by decide +kernel
theorem dX7_findStump_80 : decode cX7_findStump 80 = .ok (.iload_n 2, 1) := by decide +kernel
theorem dX7_findStump_81 : decode cX7_findStump 81 = .ok (.putfield 187, 3) := by decide +kernel
theorem dX7_findStump_84 : decode cX7_findStump 84 = .ok (.aload_n 0, 1) := by decide +kernel
theorem dX7_findStump_85 : decode cX7_findStump 85 = .ok (.iload_n 3, 1) := by decide +kernel
theorem dX7_findStump_86 : decode cX7_findStump 86 = .ok (.putfield 190, 3) := by decide +kernel
theorem dX7_findStump_89 : decode cX7_findStump 89 = .ok (.aload_n 0, 1) := by decide +kernel
theorem dX7_findStump_90 : decode cX7_findStump 90 = .ok (.iload 5, 2) := by decide +kernel
theorem dX7_findStump_92 : decode cX7_findStump 92 = .ok (.putfield 193, 3) := by decide +kernel
theorem dX7_findStump_95 : decode cX7_findStump 95 = .ok (.iinc 2 1, 3) := by decide +kernel
theorem dX7_findStump_98 : decode cX7_findStump 98 = .ok (.goto (-84), 3) := by decide +kernel
theorem dX7_findStump_101 : decode cX7_findStump 101 = .ok (.iinc 1 1, 3) := by decide +kernel
theorem dX7_findStump_104 : decode cX7_findStump 104 = .ok (.goto (-97), 3) := by decide +kernel
theorem dX7_findStump_107 : decode cX7_findStump 107 = .ok (.return_, 1) := by decide +kernel
theorem dX7_stump_0 : decode cX7_stump 0 = .ok (.aload_n 0, 1) := by decide +kernel
theorem dX7_stump_1 : decode cX7_stump 1 = .ok (.iconst 0, 1) := by decide +kernel
theorem dX7_stump_2 : decode cX7_stump 2 = .ok (.putfield 43, 3) := by decide +kernel
theorem dX7_stump_5 : decode cX7_stump 5 = .ok (.iload_n 1, 1) := by decide +kernel
theorem dX7_stump_6 : decode cX7_stump 6 = .ok (.iconst 0, 1) := by decide +kernel
theorem dX7_stump_7 : decode cX7_stump 7 = .ok (.iconst 4, 1) := by decide +kernel
theorem dX7_stump_8 : decode cX7_stump 8 = .ok (.invokestatic 49, 3) := by decide +kernel
theorem dX7_stump_11 : decode cX7_stump 11 = .ok (.ifCond .ne 6, 3) := by decide +kernel
theorem dX7_stump_14 : decode cX7_stump 14 = .ok (.bipush (-2), 2) := by decide +kernel
theorem dX7_stump_16 : decode cX7_stump 16 = .ok (.ireturn, 1) := by decide +kernel
theorem dX7_stump_17 : decode cX7_stump 17 = .ok (.aload_n 0, 1) := by decide +kernel
theorem dX7_stump_18 : decode cX7_stump 18 = .ok (.invokevirtual 145, 3) := by decide +kernel
theorem dX7_stump_21 : decode cX7_stump 21 = .ok (.ifCond .ne 6, 3) := by decide +kernel
theorem dX7_stump_24 : decode cX7_stump 24 = .ok (.bipush (-3), 2) := by decide +kernel
theorem dX7_stump_26 : decode cX7_stump 26 = .ok (.ireturn, 1) := by decide +kernel
theorem dX7_stump_27 : decode cX7_stump 27 = .ok (.aload_n 0, 1) := by decide +kernel
theorem dX7_stump_28 : decode cX7_stump 28 = .ok (.invokevirtual 196, 3) := by decide +kernel
theorem dX7_stump_31 : decode cX7_stump 31 = .ok (.iload_n 1, 1) := by decide +kernel
theorem dX7_stump_32 : decode cX7_stump 32 = .ok (.ifCond .ne 10, 3) := by decide +kernel
theorem dX7_stump_35 : decode cX7_stump 35 = .ok (.aload_n 0, 1) := by decide +kernel
theorem dX7_stump_36 : decode cX7_stump 36 = .ok (.getfield 184, 3) := by decide +kernel
theorem dX7_stump_39 : decode cX7_stump 39 = .ok (.goto 43, 3) := by decide +kernel
theorem dX7_stump_42 : decode cX7_stump 42 = .ok (.iload_n 1, 1) := by decide +kernel
theorem dX7_stump_43 : decode cX7_stump 43 = .ok (.iconst 1, 1) := by decide +kernel
theorem dX7_stump_44 : decode cX7_stump 44 = .ok (.if_icmp .ne 10, 3) := by decide +kernel
theorem dX7_stump_47 : decode cX7_stump 47 = .ok (.aload_n 0, 1) := by decide +kernel
theorem dX7_stump_48 : decode cX7_stump 48 = .ok (.getfield 187, 3) := by decide +kernel
theorem dX7_stump_51 : decode cX7_stump 51 = .ok (.goto 31, 3) := by decide +kernel
theorem dX7_stump_54 : decode cX7_stump 54 = .ok (.iload_n 1, 1) := by decide +kernel
theorem dX7_stump_55 : decode cX7_stump 55 = .ok (.iconst 2, 1) := by decide +kernel
theorem dX7_stump_56 : decode cX7_stump 56 = .ok (.if_icmp .ne 10, 3) := by decide +kernel
theorem dX7_stump_59 : decode cX7_stump 59 = .ok (.aload_n 0, 1) := by decide +kernel
theorem dX7_stump_60 : decode cX7_stump 60 = .ok (.getfield 190, 3) := by decide +kernel
theorem dX7_stump_63 : decode cX7_stump 63 = .ok (.goto 19, 3) := by decide +kernel
theorem dX7_stump_66 : decode cX7_stump 66 = .ok (.iload_n 1, 1) := by decide +kernel
theorem dX7_stump_67 : decode cX7_stump 67 = .ok (.iconst 3, 1) := by decide +kernel
theorem dX7_stump_68 : decode cX7_stump 68 = .ok (.if_icmp .ne 10, 3) := by decide +kernel
theorem dX7_stump_71 : decode cX7_stump 71 = .ok (.aload_n 0, 1) := by decide +kernel
theorem dX7_stump_72 : decode cX7_stump 72 = .ok (.getfield 193, 3) := by decide +kernel
theorem dX7_stump_75 : decode cX7_stump 75 = .ok (.goto 7, 3) := by decide +kernel
theorem dX7_stump_78 : decode cX7_stump 78 = .ok (.aload_n 0, 1) := by decide +kernel
theorem dX7_stump_79 : decode cX7_stump 79 = .ok (.getfield 177, 3) := by decide +kernel
theorem dX7_stump_82 : decode cX7_stump 82 = .ok (.ireturn, 1) := by decide +kernel
theorem dX7_heldOut_0 : decode cX7_heldOut 0 = .ok (.aload_n 0, 1) := by decide +kernel
theorem dX7_heldOut_1 : decode cX7_heldOut 1 = .ok (.iconst 0, 1) := by decide +kernel
theorem dX7_heldOut_2 : decode cX7_heldOut 2 = .ok (.putfield 43, 3) := by decide +kernel
theorem dX7_heldOut_5 : decode cX7_heldOut 5 = .ok (.iload_n 1, 1) := by decide +kernel
theorem dX7_heldOut_6 : decode cX7_heldOut 6 = .ok (.iconst 0, 1) := by decide +kernel
theorem dX7_heldOut_7 : decode cX7_heldOut 7 = .ok (.iconst 3, 1) := by decide +kernel
theorem dX7_heldOut_8 : decode cX7_heldOut 8 = .ok (.invokestatic 49, 3) := by decide +kernel
theorem dX7_heldOut_11 : decode cX7_heldOut 11 = .ok (.ifCond .ne 6, 3) := by decide +kernel
theorem dX7_heldOut_14 : decode cX7_heldOut 14 = .ok (.bipush (-2), 2) := by decide +kernel
theorem dX7_heldOut_16 : decode cX7_heldOut 16 = .ok (.ireturn, 1) := by decide +kernel
theorem dX7_heldOut_17 : decode cX7_heldOut 17 = .ok (.aload_n 0, 1) := by decide +kernel
theorem dX7_heldOut_18 : decode cX7_heldOut 18 = .ok (.invokevirtual 145, 3) := by decide +kernel
theorem dX7_heldOut_21 : decode cX7_heldOut 21 = .ok (.istore_n 2, 1) := by decide +kernel
theorem dX7_heldOut_22 : decode cX7_heldOut 22 = .ok (.iload_n 2, 1) := by decide +kernel
theorem dX7_heldOut_23 : decode cX7_heldOut 23 = .ok (.ifCond .ne 6, 3) := by decide +kernel
theorem dX7_heldOut_26 : decode cX7_heldOut 26 = .ok (.bipush (-3), 2) := by decide +kernel
theorem dX7_heldOut_28 : decode cX7_heldOut 28 = .ok (.ireturn, 1) := by decide +kernel
theorem dX7_heldOut_29 : decode cX7_heldOut 29 = .ok (.iload_n 1, 1) := by decide +kernel
theorem dX7_heldOut_30 : decode cX7_heldOut 30 = .ok (.iconst 1, 1) := by decide +kernel
theorem dX7_heldOut_31 : decode cX7_heldOut 31 = .ok (.if_icmp .ne 8, 3) := by decide +kernel
theorem dX7_heldOut_34 : decode cX7_heldOut 34 = .ok (.aload_n 0, 1) := by decide +kernel
theorem dX7_heldOut_35 : decode cX7_heldOut 35 = .ok (.iconst 1, 1) := by decide +kernel
theorem dX7_heldOut_36 : decode cX7_heldOut 36 = .ok (.invokevirtual 164, 3) := by decide +kernel
theorem dX7_heldOut_39 : decode cX7_heldOut 39 = .ok (.iload_n 1, 1) := by decide +kernel
theorem dX7_heldOut_40 : decode cX7_heldOut 40 = .ok (.iconst 3, 1) := by decide +kernel
theorem dX7_heldOut_41 : decode cX7_heldOut 41 = .ok (.if_icmp .ne 7, 3) := by decide +kernel
theorem dX7_heldOut_44 : decode cX7_heldOut 44 = .ok (.aload_n 0, 1) := by decide +kernel
theorem dX7_heldOut_45 : decode cX7_heldOut 45 = .ok (.invokevirtual 196, 3) := by decide +kernel
theorem dX7_heldOut_48 : decode cX7_heldOut 48 = .ok (.iconst 0, 1) := by decide +kernel
theorem dX7_heldOut_49 : decode cX7_heldOut 49 = .ok (.istore_n 3, 1) := by decide +kernel
theorem dX7_heldOut_50 : decode cX7_heldOut 50 = .ok (.iconst 0, 1) := by decide +kernel
theorem dX7_heldOut_51 : decode cX7_heldOut 51 = .ok (.istore 4, 2) := by decide +kernel
theorem dX7_heldOut_53 : decode cX7_heldOut 53 = .ok (.iload 4, 2) := by decide +kernel
theorem dX7_heldOut_55 : decode cX7_heldOut 55 = .ok (.aload_n 0, 1) := by decide +kernel
theorem dX7_heldOut_56 : decode cX7_heldOut 56 = .ok (.getfield 53, 3) := by decide +kernel
theorem dX7_heldOut_59 : decode cX7_heldOut 59 = .ok (.if_icmp .ge 132, 3) := by decide +kernel
theorem dX7_heldOut_62 : decode cX7_heldOut 62 = .ok (.aload_n 0, 1) := by decide +kernel
theorem dX7_heldOut_63 : decode cX7_heldOut 63 = .ok (.getfield 13, 3) := by decide +kernel
theorem dX7_heldOut_66 : decode cX7_heldOut 66 = .ok (.iload 4, 2) := by decide +kernel
theorem dX7_heldOut_68 : decode cX7_heldOut 68 = .ok (.baload, 1) := by decide +kernel
theorem dX7_heldOut_69 : decode cX7_heldOut 69 = .ok (.ifCond .eq 116, 3) := by decide +kernel
theorem dX7_heldOut_72 : decode cX7_heldOut 72 = .ok (.iload_n 1, 1) := by decide +kernel
theorem dX7_heldOut_73 : decode cX7_heldOut 73 = .ok (.ifCond .ne 12, 3) := by decide +kernel
theorem dX7_heldOut_76 : decode cX7_heldOut 76 = .ok (.aload_n 0, 1) := by decide +kernel
theorem dX7_heldOut_77 : decode cX7_heldOut 77 = .ok (.iload 4, 2) := by decide +kernel
theorem dX7_heldOut_79 : decode cX7_heldOut 79 = .ok (.invokevirtual 171, 3) := by decide +kernel
theorem dX7_heldOut_82 : decode cX7_heldOut 82 = .ok (.goto 4, 3) := by decide +kernel
theorem dX7_heldOut_85 : decode cX7_heldOut 85 = .ok (.iconst 0, 1) := by decide +kernel
theorem dX7_heldOut_86 : decode cX7_heldOut 86 = .ok (.istore 5, 2) := by decide +kernel
theorem dX7_heldOut_88 : decode cX7_heldOut 88 = .ok (.iload 5, 2) := by decide +kernel
theorem dX7_heldOut_90 : decode cX7_heldOut 90 = .ok (.ifCond .ge 6, 3) := by decide +kernel
theorem dX7_heldOut_93 : decode cX7_heldOut 93 = .ok (.bipush (-3), 2) := by decide +kernel
theorem dX7_heldOut_95 : decode cX7_heldOut 95 = .ok (.ireturn, 1) := by decide +kernel
theorem dX7_heldOut_96 : decode cX7_heldOut 96 = .ok (.iload_n 3, 1) := by decide +kernel
theorem dX7_heldOut_97 : decode cX7_heldOut 97 = .ok (.iload_n 1, 1) := by decide +kernel
theorem dX7_heldOut_98 : decode cX7_heldOut 98 = .ok (.ifCond .ne 14, 3) := by decide +kernel
theorem dX7_heldOut_101 : decode cX7_heldOut 101 = .ok (.aload_n 0, 1) := by decide +kernel
theorem dX7_heldOut_102 : decode cX7_heldOut 102 = .ok (.iload 5, 2) := by decide +kernel
theorem dX7_heldOut_104 : decode cX7_heldOut 104 = .ok (.iload 4, 2) := by decide +kernel
theorem dX7_heldOut_106 : decode cX7_heldOut 106 = .ok (.invokevirtual 65, 3) := by decide +kernel
theorem dX7_heldOut_109 : decode cX7_heldOut 109 = .ok (.goto 74, 3) := by decide +kernel
theorem dX7_heldOut_112 : decode cX7_heldOut 112 = .ok (.iload_n 1, 1) := by decide +kernel
theorem dX7_heldOut_113 : decode cX7_heldOut 113 = .ok (.iconst 1, 1) := by decide +kernel
theorem dX7_heldOut_114 : decode cX7_heldOut 114 = .ok (.if_icmp .ne 16, 3) := by decide +kernel
theorem dX7_heldOut_117 : decode cX7_heldOut 117 = .ok (.aload_n 0, 1) := by decide +kernel
theorem dX7_heldOut_118 : decode cX7_heldOut 118 = .ok (.aload_n 0, 1) := by decide +kernel
theorem dX7_heldOut_119 : decode cX7_heldOut 119 = .ok (.getfield 148, 3) := by decide +kernel
theorem dX7_heldOut_122 : decode cX7_heldOut 122 = .ok (.iload 4, 2) := by decide +kernel
theorem dX7_heldOut_124 : decode cX7_heldOut 124 = .ok (.invokevirtual 157, 3) := by decide +kernel
theorem dX7_heldOut_127 : decode cX7_heldOut 127 = .ok (.goto 56, 3) := by decide +kernel
theorem dX7_heldOut_130 : decode cX7_heldOut 130 = .ok (.iload_n 1, 1) := by decide +kernel
theorem dX7_heldOut_131 : decode cX7_heldOut 131 = .ok (.iconst 2, 1) := by decide +kernel
theorem dX7_heldOut_132 : decode cX7_heldOut 132 = .ok (.if_icmp .ne 13, 3) := by decide +kernel
theorem dX7_heldOut_135 : decode cX7_heldOut 135 = .ok (.aload_n 0, 1) := by decide +kernel
theorem dX7_heldOut_136 : decode cX7_heldOut 136 = .ok (.iload_n 2, 1) := by decide +kernel
theorem dX7_heldOut_137 : decode cX7_heldOut 137 = .ok (.iload 4, 2) := by decide +kernel
theorem dX7_heldOut_139 : decode cX7_heldOut 139 = .ok (.invokevirtual 157, 3) := by decide +kernel
theorem dX7_heldOut_142 : decode cX7_heldOut 142 = .ok (.goto 41, 3) := by decide +kernel
theorem dX7_heldOut_145 : decode cX7_heldOut 145 = .ok (.aload_n 0, 1) := by decide +kernel
theorem dX7_heldOut_146 : decode cX7_heldOut 146 = .ok (.aload_n 0, 1) := by decide +kernel
theorem dX7_heldOut_147 : decode cX7_heldOut 147 = .ok (.getfield 7, 3) := by decide +kernel
theorem dX7_heldOut_150 : decode cX7_heldOut 150 = .ok (.iconst 2, 1) := by decide +kernel
theorem dX7_heldOut_151 : decode cX7_heldOut 151 = .ok (.iload 4, 2) := by decide +kernel
theorem dX7_heldOut_153 : decode cX7_heldOut 153 = .ok (.imul, 1) := by decide +kernel
theorem dX7_heldOut_154 : decode cX7_heldOut 154 = .ok (.aload_n 0, 1) := by decide +kernel
theorem dX7_heldOut_155 : decode cX7_heldOut 155 = .ok (.getfield 184, 3) := by decide +kernel
theorem dX7_heldOut_158 : decode cX7_heldOut 158 = .ok (.iadd, 1) := by decide +kernel
theorem dX7_heldOut_159 : decode cX7_heldOut 159 = .ok (.iaload, 1) := by decide +kernel
theorem dX7_heldOut_160 : decode cX7_heldOut 160 = .ok (.aload_n 0, 1) := by decide +kernel
theorem dX7_heldOut_161 : decode cX7_heldOut 161 = .ok (.getfield 187, 3) := by decide +kernel
theorem dX7_heldOut_164 : decode cX7_heldOut 164 = .ok (.if_icmp .ge 10, 3) := by decide +kernel
theorem dX7_heldOut_167 : decode cX7_heldOut 167 = .ok (.aload_n 0, 1) := by decide +kernel
theorem dX7_heldOut_168 : decode cX7_heldOut 168 = .ok (.getfield 190, 3) := by decide +kernel
theorem dX7_heldOut_171 : decode cX7_heldOut 171 = .ok (.goto 7, 3) := by decide +kernel
theorem dX7_heldOut_174 : decode cX7_heldOut 174 = .ok (.aload_n 0, 1) := by decide +kernel
theorem dX7_heldOut_175 : decode cX7_heldOut 175 = .ok (.getfield 193, 3) := by decide +kernel
theorem dX7_heldOut_178 : decode cX7_heldOut 178 = .ok (.iload 4, 2) := by decide +kernel
theorem dX7_heldOut_180 : decode cX7_heldOut 180 = .ok (.invokevirtual 65, 3) := by decide +kernel
theorem dX7_heldOut_183 : decode cX7_heldOut 183 = .ok (.iadd, 1) := by decide +kernel
theorem dX7_heldOut_184 : decode cX7_heldOut 184 = .ok (.istore_n 3, 1) := by decide +kernel
theorem dX7_heldOut_185 : decode cX7_heldOut 185 = .ok (.iinc 4 1, 3) := by decide +kernel
theorem dX7_heldOut_188 : decode cX7_heldOut 188 = .ok (.goto (-135), 3) := by decide +kernel
theorem dX7_heldOut_191 : decode cX7_heldOut 191 = .ok (.iload_n 3, 1) := by decide +kernel
theorem dX7_heldOut_192 : decode cX7_heldOut 192 = .ok (.ireturn, 1) := by decide +kernel
theorem dX7_runsOf_0 : decode cX7_runsOf 0 = .ok (.aload_n 0, 1) := by decide +kernel
theorem dX7_runsOf_1 : decode cX7_runsOf 1 = .ok (.getfield 27, 3) := by decide +kernel
theorem dX7_runsOf_4 : decode cX7_runsOf 4 = .ok (.iload_n 1, 1) := by decide +kernel
theorem dX7_runsOf_5 : decode cX7_runsOf 5 = .ok (.iaload, 1) := by decide +kernel
theorem dX7_runsOf_6 : decode cX7_runsOf 6 = .ok (.ifCond .eq 12, 3) := by decide +kernel
theorem dX7_runsOf_9 : decode cX7_runsOf 9 = .ok (.aload_n 0, 1) := by decide +kernel
theorem dX7_runsOf_10 : decode cX7_runsOf 10 = .ok (.getfield 27, 3) := by decide +kernel
theorem dX7_runsOf_13 : decode cX7_runsOf 13 = .ok (.iload_n 1, 1) := by decide +kernel
theorem dX7_runsOf_14 : decode cX7_runsOf 14 = .ok (.iaload, 1) := by decide +kernel
theorem dX7_runsOf_15 : decode cX7_runsOf 15 = .ok (.goto 28, 3) := by decide +kernel
theorem dX7_runsOf_18 : decode cX7_runsOf 18 = .ok (.aload_n 0, 1) := by decide +kernel
theorem dX7_runsOf_19 : decode cX7_runsOf 19 = .ok (.getfield 79, 3) := by decide +kernel
theorem dX7_runsOf_22 : decode cX7_runsOf 22 = .ok (.aload_n 0, 1) := by decide +kernel
theorem dX7_runsOf_23 : decode cX7_runsOf 23 = .ok (.getfield 91, 3) := by decide +kernel
theorem dX7_runsOf_26 : decode cX7_runsOf 26 = .ok (.ifCond .ne 15, 3) := by decide +kernel
theorem dX7_runsOf_29 : decode cX7_runsOf 29 = .ok (.iload_n 1, 1) := by decide +kernel
theorem dX7_runsOf_30 : decode cX7_runsOf 30 = .ok (.aload_n 0, 1) := by decide +kernel
theorem dX7_runsOf_31 : decode cX7_runsOf 31 = .ok (.getfield 94, 3) := by decide +kernel
theorem dX7_runsOf_34 : decode cX7_runsOf 34 = .ok (.if_icmp .ge 7, 3) := by decide +kernel
theorem dX7_runsOf_37 : decode cX7_runsOf 37 = .ok (.iconst 1, 1) := by decide +kernel
theorem dX7_runsOf_38 : decode cX7_runsOf 38 = .ok (.goto 4, 3) := by decide +kernel
theorem dX7_runsOf_41 : decode cX7_runsOf 41 = .ok (.iconst 0, 1) := by decide +kernel
theorem dX7_runsOf_42 : decode cX7_runsOf 42 = .ok (.iadd, 1) := by decide +kernel
theorem dX7_runsOf_43 : decode cX7_runsOf 43 = .ok (.ireturn, 1) := by decide +kernel
theorem dX7_mean_0 : decode cX7_mean 0 = .ok (.aload_n 0, 1) := by decide +kernel
theorem dX7_mean_1 : decode cX7_mean 1 = .ok (.iconst 0, 1) := by decide +kernel
theorem dX7_mean_2 : decode cX7_mean 2 = .ok (.putfield 43, 3) := by decide +kernel
theorem dX7_mean_5 : decode cX7_mean 5 = .ok (.aload_n 0, 1) := by decide +kernel
theorem dX7_mean_6 : decode cX7_mean 6 = .ok (.getfield 20, 3) := by decide +kernel
theorem dX7_mean_9 : decode cX7_mean 9 = .ok (.ifCond .lt 39, 3) := by decide +kernel
theorem dX7_mean_12 : decode cX7_mean 12 = .ok (.iload_n 1, 1) := by decide +kernel
theorem dX7_mean_13 : decode cX7_mean 13 = .ok (.iconst 0, 1) := by decide +kernel
theorem dX7_mean_14 : decode cX7_mean 14 = .ok (.aload_n 0, 1) := by decide +kernel
theorem dX7_mean_15 : decode cX7_mean 15 = .ok (.getfield 69, 3) := by decide +kernel
theorem dX7_mean_18 : decode cX7_mean 18 = .ok (.iconst 1, 1) := by decide +kernel
theorem dX7_mean_19 : decode cX7_mean 19 = .ok (.isub, 1) := by decide +kernel
theorem dX7_mean_20 : decode cX7_mean 20 = .ok (.invokestatic 49, 3) := by decide +kernel
theorem dX7_mean_23 : decode cX7_mean 23 = .ok (.ifCond .eq 25, 3) := by decide +kernel
theorem dX7_mean_26 : decode cX7_mean 26 = .ok (.iload_n 2, 1) := by decide +kernel
theorem dX7_mean_27 : decode cX7_mean 27 = .ok (.ifCond .lt 21, 3) := by decide +kernel
theorem dX7_mean_30 : decode cX7_mean 30 = .ok (.iload_n 2, 1) := by decide +kernel
theorem dX7_mean_31 : decode cX7_mean 31 = .ok (.aload_n 0, 1) := by decide +kernel
theorem dX7_mean_32 : decode cX7_mean 32 = .ok (.iload_n 1, 1) := by decide +kernel
theorem dX7_mean_33 : decode cX7_mean 33 = .ok (.invokevirtual 199, 3) := by decide +kernel
theorem dX7_mean_36 : decode cX7_mean 36 = .ok (.if_icmp .gt 12, 3) := by decide +kernel
theorem dX7_mean_39 : decode cX7_mean 39 = .ok (.iload_n 3, 1) := by decide +kernel
theorem dX7_mean_40 : decode cX7_mean 40 = .ok (.iconst 0, 1) := by decide +kernel
theorem dX7_mean_41 : decode cX7_mean 41 = .ok (.iconst 1, 1) := by decide +kernel
theorem dX7_mean_42 : decode cX7_mean 42 = .ok (.invokestatic 49, 3) := by decide +kernel
theorem dX7_mean_45 : decode cX7_mean 45 = .ok (.ifCond .ne 7, 3) := by decide +kernel
theorem dX7_mean_48 : decode cX7_mean 48 = .ok (.ldc2_w 140, 3) := by decide +kernel
theorem dX7_mean_51 : decode cX7_mean 51 = .ok (.lreturn, 1) := by decide +kernel
theorem dX7_mean_52 : decode cX7_mean 52 = .ok (.iload_n 2, 1) := by decide +kernel
theorem dX7_mean_53 : decode cX7_mean 53 = .ok (.ifCond .ne 10, 3) := by decide +kernel
theorem dX7_mean_56 : decode cX7_mean 56 = .ok (.aload_n 0, 1) := by decide +kernel
theorem dX7_mean_57 : decode cX7_mean 57 = .ok (.iconst 1, 1) := by decide +kernel
theorem dX7_mean_58 : decode cX7_mean 58 = .ok (.putfield 43, 3) := by decide +kernel
theorem dX7_mean_61 : decode cX7_mean 61 = .ok (.lconst 0, 1) := by decide +kernel
theorem dX7_mean_62 : decode cX7_mean 62 = .ok (.lreturn, 1) := by decide +kernel
theorem dX7_mean_63 : decode cX7_mean 63 = .ok (.iconst 0, 1) := by decide +kernel
theorem dX7_mean_64 : decode cX7_mean 64 = .ok (.istore 4, 2) := by decide +kernel
theorem dX7_mean_66 : decode cX7_mean 66 = .ok (.iconst 0, 1) := by decide +kernel
theorem dX7_mean_67 : decode cX7_mean 67 = .ok (.istore 5, 2) := by decide +kernel
theorem dX7_mean_69 : decode cX7_mean 69 = .ok (.iload 5, 2) := by decide +kernel
theorem dX7_mean_71 : decode cX7_mean 71 = .ok (.iload_n 2, 1) := by decide +kernel
theorem dX7_mean_72 : decode cX7_mean 72 = .ok (.if_icmp .ge 26, 3) := by decide +kernel
theorem dX7_mean_75 : decode cX7_mean 75 = .ok (.iload 4, 2) := by decide +kernel
theorem dX7_mean_77 : decode cX7_mean 77 = .ok (.aload_n 0, 1) := by decide +kernel
theorem dX7_mean_78 : decode cX7_mean 78 = .ok (.iload_n 1, 1) := by decide +kernel
theorem dX7_mean_79 : decode cX7_mean 79 = .ok (.aload_n 0, 1) := by decide +kernel
theorem dX7_mean_80 : decode cX7_mean 80 = .ok (.getfield 24, 3) := by decide +kernel
theorem dX7_mean_83 : decode cX7_mean 83 = .ok (.iload 5, 2) := by decide +kernel
theorem dX7_mean_85 : decode cX7_mean 85 = .ok (.iaload, 1) := by decide +kernel
theorem dX7_mean_86 : decode cX7_mean 86 = .ok (.invokevirtual 65, 3) := by decide +kernel
theorem dX7_mean_89 : decode cX7_mean 89 = .ok (.iadd, 1) := by decide +kernel
theorem dX7_mean_90 : decode cX7_mean 90 = .ok (.istore 4, 2) := by decide +kernel
theorem dX7_mean_92 : decode cX7_mean 92 = .ok (.iinc 5 1, 3) := by decide +kernel
theorem dX7_mean_95 : decode cX7_mean 95 = .ok (.goto (-26), 3) := by decide +kernel
theorem dX7_mean_98 : decode cX7_mean 98 = .ok (.iload 4, 2) := by decide +kernel
theorem dX7_mean_100 : decode cX7_mean 100 = .ok (.istore 5, 2) := by decide +kernel
theorem dX7_mean_102 : decode cX7_mean 102 = .ok (.iload_n 2, 1) := by decide +kernel
theorem dX7_mean_103 : decode cX7_mean 103 = .ok (.istore 6, 2) := by decide +kernel
theorem dX7_mean_105 : decode cX7_mean 105 = .ok (.iload 6, 2) := by decide +kernel
theorem dX7_mean_107 : decode cX7_mean 107 = .ok (.ifCond .eq 21, 3) := by decide +kernel
theorem dX7_mean_110 : decode cX7_mean 110 = .ok (.iload 5, 2) := by decide +kernel
theorem dX7_mean_112 : decode cX7_mean 112 = .ok (.iload 6, 2) := by decide +kernel
theorem dX7_mean_114 : decode cX7_mean 114 = .ok (.irem, 1) := by decide +kernel
theorem dX7_mean_115 : decode cX7_mean 115 = .ok (.istore 7, 2) := by decide +kernel
theorem dX7_mean_117 : decode cX7_mean 117 = .ok (.iload 6, 2) := by decide +kernel
theorem dX7_mean_119 : decode cX7_mean 119 = .ok (.istore 5, 2) := by decide +kernel
theorem dX7_mean_121 : decode cX7_mean 121 = .ok (.iload 7, 2) := by decide +kernel
theorem dX7_mean_123 : decode cX7_mean 123 = .ok (.istore 6, 2) := by decide +kernel
theorem dX7_mean_125 : decode cX7_mean 125 = .ok (.goto (-20), 3) := by decide +kernel
theorem dX7_mean_128 : decode cX7_mean 128 = .ok (.iload_n 3, 1) := by decide +kernel
theorem dX7_mean_129 : decode cX7_mean 129 = .ok (.ifCond .ne 12, 3) := by decide +kernel
theorem dX7_mean_132 : decode cX7_mean 132 = .ok (.iload 4, 2) := by decide +kernel
theorem dX7_mean_134 : decode cX7_mean 134 = .ok (.iload 5, 2) := by decide +kernel
theorem dX7_mean_136 : decode cX7_mean 136 = .ok (.idiv, 1) := by decide +kernel
theorem dX7_mean_137 : decode cX7_mean 137 = .ok (.i2l, 1) := by decide +kernel
theorem dX7_mean_138 : decode cX7_mean 138 = .ok (.goto 8, 3) := by decide +kernel
theorem dX7_mean_141 : decode cX7_mean 141 = .ok (.iload_n 2, 1) := by decide +kernel
theorem dX7_mean_142 : decode cX7_mean 142 = .ok (.iload 5, 2) := by decide +kernel
theorem dX7_mean_144 : decode cX7_mean 144 = .ok (.idiv, 1) := by decide +kernel
theorem dX7_mean_145 : decode cX7_mean 145 = .ok (.i2l, 1) := by decide +kernel
theorem dX7_mean_146 : decode cX7_mean 146 = .ok (.lreturn, 1) := by decide +kernel
end
section
theorem dJ9_abs_0f7a4_0 : decode cJ9_abs_0f7a4 0 = .ok (.iload_n 0, 1) := by decide +kernel
theorem dJ9_abs_0f7a4_1 : decode cJ9_abs_0f7a4 1 = .ok (.ifCond .ge 8, 3) := by decide +kernel
theorem dJ9_abs_0f7a4_4 : decode cJ9_abs_0f7a4 4 = .ok (.iload_n 0, 1) := by decide +kernel
theorem dJ9_abs_0f7a4_5 : decode cJ9_abs_0f7a4 5 = .ok (.ineg, 1) := by decide +kernel
theorem dJ9_abs_0f7a4_6 : decode cJ9_abs_0f7a4 6 = .ok (.goto 4, 3) := by decide +kernel
theorem dJ9_abs_0f7a4_9 : decode cJ9_abs_0f7a4 9 = .ok (.iload_n 0, 1) := by decide +kernel
theorem dJ9_abs_0f7a4_10 : decode cJ9_abs_0f7a4 10 = .ok (.ireturn, 1) := by decide +kernel
theorem dJ9_max_7cf53_0 : decode cJ9_max_7cf53 0 = .ok (.iload_n 0, 1) := by decide +kernel
theorem dJ9_max_7cf53_1 : decode cJ9_max_7cf53 1 = .ok (.iload_n 1, 1) := by decide +kernel
theorem dJ9_max_7cf53_2 : decode cJ9_max_7cf53 2 = .ok (.if_icmp .lt 7, 3) := by decide +kernel
theorem dJ9_max_7cf53_5 : decode cJ9_max_7cf53 5 = .ok (.iload_n 0, 1) := by decide +kernel
theorem dJ9_max_7cf53_6 : decode cJ9_max_7cf53 6 = .ok (.goto 4, 3) := by decide +kernel
theorem dJ9_max_7cf53_9 : decode cJ9_max_7cf53 9 = .ok (.iload_n 1, 1) := by decide +kernel
theorem dJ9_max_7cf53_10 : decode cJ9_max_7cf53 10 = .ok (.ireturn, 1) := by decide +kernel
theorem dJ9_min_7cf53_0 : decode cJ9_min_7cf53 0 = .ok (.iload_n 0, 1) := by decide +kernel
theorem dJ9_min_7cf53_1 : decode cJ9_min_7cf53 1 = .ok (.iload_n 1, 1) := by decide +kernel
theorem dJ9_min_7cf53_2 : decode cJ9_min_7cf53 2 = .ok (.if_icmp .gt 7, 3) := by decide +kernel
theorem dJ9_min_7cf53_5 : decode cJ9_min_7cf53 5 = .ok (.iload_n 0, 1) := by decide +kernel
theorem dJ9_min_7cf53_6 : decode cJ9_min_7cf53 6 = .ok (.goto 4, 3) := by decide +kernel
theorem dJ9_min_7cf53_9 : decode cJ9_min_7cf53 9 = .ok (.iload_n 1, 1) := by decide +kernel
theorem dJ9_min_7cf53_10 : decode cJ9_min_7cf53 10 = .ok (.ireturn, 1) := by decide +kernel
theorem dJ7_fill_d0a16_0 : decode cJ7_fill_d0a16 0 = .ok (.iconst 0, 1) := by decide +kernel
theorem dJ7_fill_d0a16_1 : decode cJ7_fill_d0a16 1 = .ok (.istore_n 3, 1) := by decide +kernel
theorem dJ7_fill_d0a16_2 : decode cJ7_fill_d0a16 2 = .ok (.aload_n 0, 1) := by decide +kernel
theorem dJ7_fill_d0a16_3 : decode cJ7_fill_d0a16 3 = .ok (.arraylength, 1) := by decide +kernel
theorem dJ7_fill_d0a16_4 : decode cJ7_fill_d0a16 4 = .ok (.istore 4, 2) := by decide +kernel
theorem dJ7_fill_d0a16_6 : decode cJ7_fill_d0a16 6 = .ok (.iload_n 3, 1) := by decide +kernel
theorem dJ7_fill_d0a16_7 : decode cJ7_fill_d0a16 7 = .ok (.iload 4, 2) := by decide +kernel
theorem dJ7_fill_d0a16_9 : decode cJ7_fill_d0a16 9 = .ok (.if_icmp .ge 13, 3) := by decide +kernel
theorem dJ7_fill_d0a16_12 : decode cJ7_fill_d0a16 12 = .ok (.aload_n 0, 1) := by decide +kernel
theorem dJ7_fill_d0a16_13 : decode cJ7_fill_d0a16 13 = .ok (.iload_n 3, 1) := by decide +kernel
theorem dJ7_fill_d0a16_14 : decode cJ7_fill_d0a16 14 = .ok (.lload_n 1, 1) := by decide +kernel
theorem dJ7_fill_d0a16_15 : decode cJ7_fill_d0a16 15 = .ok (.lastore, 1) := by decide +kernel
theorem dJ7_fill_d0a16_16 : decode cJ7_fill_d0a16 16 = .ok (.iinc 3 1, 3) := by decide +kernel
theorem dJ7_fill_d0a16_19 : decode cJ7_fill_d0a16 19 = .ok (.goto (-13), 3) := by decide +kernel
theorem dJ7_fill_d0a16_22 : decode cJ7_fill_d0a16 22 = .ok (.return_, 1) := by decide +kernel
theorem dJ7_fill_53178_0 : decode cJ7_fill_53178 0 = .ok (.iconst 0, 1) := by decide +kernel
theorem dJ7_fill_53178_1 : decode cJ7_fill_53178 1 = .ok (.istore_n 2, 1) := by decide +kernel
theorem dJ7_fill_53178_2 : decode cJ7_fill_53178 2 = .ok (.aload_n 0, 1) := by decide +kernel
theorem dJ7_fill_53178_3 : decode cJ7_fill_53178 3 = .ok (.arraylength, 1) := by decide +kernel
theorem dJ7_fill_53178_4 : decode cJ7_fill_53178 4 = .ok (.istore_n 3, 1) := by decide +kernel
theorem dJ7_fill_53178_5 : decode cJ7_fill_53178 5 = .ok (.iload_n 2, 1) := by decide +kernel
theorem dJ7_fill_53178_6 : decode cJ7_fill_53178 6 = .ok (.iload_n 3, 1) := by decide +kernel
theorem dJ7_fill_53178_7 : decode cJ7_fill_53178 7 = .ok (.if_icmp .ge 13, 3) := by decide +kernel
theorem dJ7_fill_53178_10 : decode cJ7_fill_53178 10 = .ok (.aload_n 0, 1) := by decide +kernel
theorem dJ7_fill_53178_11 : decode cJ7_fill_53178 11 = .ok (.iload_n 2, 1) := by decide +kernel
theorem dJ7_fill_53178_12 : decode cJ7_fill_53178 12 = .ok (.iload_n 1, 1) := by decide +kernel
theorem dJ7_fill_53178_13 : decode cJ7_fill_53178 13 = .ok (.iastore, 1) := by decide +kernel
theorem dJ7_fill_53178_14 : decode cJ7_fill_53178 14 = .ok (.iinc 2 1, 3) := by decide +kernel
theorem dJ7_fill_53178_17 : decode cJ7_fill_53178 17 = .ok (.goto (-12), 3) := by decide +kernel
theorem dJ7_fill_53178_20 : decode cJ7_fill_53178 20 = .ok (.return_, 1) := by decide +kernel
theorem dL_mean_0 : decode cL_mean 0 = .ok (.aload 4, 2) := by decide +kernel
theorem dL_mean_2 : decode cL_mean 2 = .ok (.iconst 0, 1) := by decide +kernel
theorem dL_mean_3 : decode cL_mean 3 = .ok (.aload_n 0, 1) := by decide +kernel
theorem dL_mean_4 : decode cL_mean 4 = .ok (.iload_n 1, 1) := by decide +kernel
theorem dL_mean_5 : decode cL_mean 5 = .ok (.iload_n 2, 1) := by decide +kernel
theorem dL_mean_6 : decode cL_mean 6 = .ok (.iload_n 3, 1) := by decide +kernel
theorem dL_mean_7 : decode cL_mean 7 = .ok (.invokevirtual 7, 3) := by decide +kernel
theorem dL_mean_10 : decode cL_mean 10 = .ok (.lastore, 1) := by decide +kernel
theorem dL_mean_11 : decode cL_mean 11 = .ok (.goto 7, 3) := by decide +kernel
theorem dL_mean_14 : decode cL_mean 14 = .ok (.astore 5, 2) := by decide +kernel
theorem dL_mean_16 : decode cL_mean 16 = .ok (.iconst 1, 1) := by decide +kernel
theorem dL_mean_17 : decode cL_mean 17 = .ok (.ireturn, 1) := by decide +kernel
theorem dL_mean_18 : decode cL_mean 18 = .ok (.iconst 0, 1) := by decide +kernel
theorem dL_mean_19 : decode cL_mean 19 = .ok (.ireturn, 1) := by decide +kernel
theorem dL_law_0 : decode cL_law 0 = .ok (.new 8, 3) := by decide +kernel
theorem dL_law_3 : decode cL_law 3 = .ok (.dup, 1) := by decide +kernel
theorem dL_law_4 : decode cL_law 4 = .ok (.invokespecial 15, 3) := by decide +kernel
theorem dL_law_7 : decode cL_law 7 = .ok (.astore_n 1, 1) := by decide +kernel
theorem dL_law_8 : decode cL_law 8 = .ok (.new 16, 3) := by decide +kernel
theorem dL_law_11 : decode cL_law 11 = .ok (.dup, 1) := by decide +kernel
theorem dL_law_12 : decode cL_law 12 = .ok (.invokespecial 18, 3) := by decide +kernel
theorem dL_law_15 : decode cL_law 15 = .ok (.astore_n 2, 1) := by decide +kernel
theorem dL_law_16 : decode cL_law 16 = .ok (.iconst 1, 1) := by decide +kernel
theorem dL_law_17 : decode cL_law 17 = .ok (.newarray .long, 2) := by decide +kernel
theorem dL_law_19 : decode cL_law 19 = .ok (.astore_n 3, 1) := by decide +kernel
theorem dL_law_20 : decode cL_law 20 = .ok (.iconst 0, 1) := by decide +kernel
theorem dL_law_21 : decode cL_law 21 = .ok (.istore 4, 2) := by decide +kernel
theorem dL_law_23 : decode cL_law 23 = .ok (.iload 4, 2) := by decide +kernel
theorem dL_law_25 : decode cL_law 25 = .ok (.aload_n 0, 1) := by decide +kernel
theorem dL_law_26 : decode cL_law 26 = .ok (.arraylength, 1) := by decide +kernel
theorem dL_law_27 : decode cL_law 27 = .ok (.bipush 8, 2) := by decide +kernel
theorem dL_law_29 : decode cL_law 29 = .ok (.isub, 1) := by decide +kernel
theorem dL_law_30 : decode cL_law 30 = .ok (.if_icmp .gt 744, 3) := by decide +kernel
theorem dL_law_33 : decode cL_law 33 = .ok (.aload_n 0, 1) := by decide +kernel
theorem dL_law_34 : decode cL_law 34 = .ok (.iload 4, 2) := by decide +kernel
theorem dL_law_36 : decode cL_law 36 = .ok (.iaload, 1) := by decide +kernel
theorem dL_law_37 : decode cL_law 37 = .ok (.bipush 31, 2) := by decide +kernel
theorem dL_law_39 : decode cL_law 39 = .ok (.iand, 1) := by decide +kernel
theorem dL_law_40 : decode cL_law 40 = .ok (.tableswitch 728 0 16 #[84, 97, 162, 211, 248, 349, 374, 387, 412, 437, 462, 487, 537, 574, 599, 624, 649], 84) := by decide +kernel
theorem dL_law_124 : decode cL_law 124 = .ok (.aload_n 1, 1) := by decide +kernel
theorem dL_law_125 : decode cL_law 125 = .ok (.invokevirtual 19, 3) := by decide +kernel
theorem dL_law_128 : decode cL_law 128 = .ok (.aload_n 2, 1) := by decide +kernel
theorem dL_law_129 : decode cL_law 129 = .ok (.invokevirtual 23, 3) := by decide +kernel
theorem dL_law_132 : decode cL_law 132 = .ok (.if_icmp .eq 636, 3) := by decide +kernel
theorem dL_law_135 : decode cL_law 135 = .ok (.iconst 0, 1) := by decide +kernel
theorem dL_law_136 : decode cL_law 136 = .ok (.ireturn, 1) := by decide +kernel
theorem dL_law_137 : decode cL_law 137 = .ok (.aload_n 1, 1) := by decide +kernel
theorem dL_law_138 : decode cL_law 138 = .ok (.aload_n 0, 1) := by decide +kernel
theorem dL_law_139 : decode cL_law 139 = .ok (.iload 4, 2) := by decide +kernel
theorem dL_law_141 : decode cL_law 141 = .ok (.iconst 1, 1) := by decide +kernel
theorem dL_law_142 : decode cL_law 142 = .ok (.iadd, 1) := by decide +kernel
theorem dL_law_143 : decode cL_law 143 = .ok (.iaload, 1) := by decide +kernel
theorem dL_law_144 : decode cL_law 144 = .ok (.aload_n 0, 1) := by decide +kernel
theorem dL_law_145 : decode cL_law 145 = .ok (.iload 4, 2) := by decide +kernel
theorem dL_law_147 : decode cL_law 147 = .ok (.iconst 2, 1) := by decide +kernel
theorem dL_law_148 : decode cL_law 148 = .ok (.iadd, 1) := by decide +kernel
theorem dL_law_149 : decode cL_law 149 = .ok (.iaload, 1) := by decide +kernel
theorem dL_law_150 : decode cL_law 150 = .ok (.aload_n 0, 1) := by decide +kernel
theorem dL_law_151 : decode cL_law 151 = .ok (.iload 4, 2) := by decide +kernel
theorem dL_law_153 : decode cL_law 153 = .ok (.iconst 3, 1) := by decide +kernel
theorem dL_law_154 : decode cL_law 154 = .ok (.iadd, 1) := by decide +kernel
theorem dL_law_155 : decode cL_law 155 = .ok (.iaload, 1) := by decide +kernel
theorem dL_law_156 : decode cL_law 156 = .ok (.ifCond .eq 7, 3) := by decide +kernel
theorem dL_law_159 : decode cL_law 159 = .ok (.iconst 1, 1) := by decide +kernel
theorem dL_law_160 : decode cL_law 160 = .ok (.goto 4, 3) := by decide +kernel
theorem dL_law_163 : decode cL_law 163 = .ok (.iconst 0, 1) := by decide +kernel
theorem dL_law_164 : decode cL_law 164 = .ok (.invokevirtual 24, 3) := by decide +kernel
theorem dL_law_167 : decode cL_law 167 = .ok (.aload_n 2, 1) := by decide +kernel
theorem dL_law_168 : decode cL_law 168 = .ok (.aload_n 0, 1) := by decide +kernel
theorem dL_law_169 : decode cL_law 169 = .ok (.iload 4, 2) := by decide +kernel
theorem dL_law_171 : decode cL_law 171 = .ok (.iconst 1, 1) := by decide +kernel
theorem dL_law_172 : decode cL_law 172 = .ok (.iadd, 1) := by decide +kernel
theorem dL_law_173 : decode cL_law 173 = .ok (.iaload, 1) := by decide +kernel
theorem dL_law_174 : decode cL_law 174 = .ok (.aload_n 0, 1) := by decide +kernel
theorem dL_law_175 : decode cL_law 175 = .ok (.iload 4, 2) := by decide +kernel
theorem dL_law_177 : decode cL_law 177 = .ok (.iconst 2, 1) := by decide +kernel
theorem dL_law_178 : decode cL_law 178 = .ok (.iadd, 1) := by decide +kernel
theorem dL_law_179 : decode cL_law 179 = .ok (.iaload, 1) := by decide +kernel
theorem dL_law_180 : decode cL_law 180 = .ok (.aload_n 0, 1) := by decide +kernel
theorem dL_law_181 : decode cL_law 181 = .ok (.iload 4, 2) := by decide +kernel
theorem dL_law_183 : decode cL_law 183 = .ok (.iconst 3, 1) := by decide +kernel
theorem dL_law_184 : decode cL_law 184 = .ok (.iadd, 1) := by decide +kernel
theorem dL_law_185 : decode cL_law 185 = .ok (.iaload, 1) := by decide +kernel
theorem dL_law_186 : decode cL_law 186 = .ok (.ifCond .eq 7, 3) := by decide +kernel
theorem dL_law_189 : decode cL_law 189 = .ok (.iconst 1, 1) := by decide +kernel
theorem dL_law_190 : decode cL_law 190 = .ok (.goto 4, 3) := by decide +kernel
theorem dL_law_193 : decode cL_law 193 = .ok (.iconst 0, 1) := by decide +kernel
theorem dL_law_194 : decode cL_law 194 = .ok (.invokevirtual 28, 3) := by decide +kernel
theorem dL_law_197 : decode cL_law 197 = .ok (.if_icmp .eq 571, 3) := by decide +kernel
theorem dL_law_200 : decode cL_law 200 = .ok (.iconst 0, 1) := by decide +kernel
theorem dL_law_201 : decode cL_law 201 = .ok (.ireturn, 1) := by decide +kernel
theorem dL_law_202 : decode cL_law 202 = .ok (.aload_n 1, 1) := by decide +kernel
theorem dL_law_203 : decode cL_law 203 = .ok (.aload_n 0, 1) := by decide +kernel
theorem dL_law_204 : decode cL_law 204 = .ok (.iload 4, 2) := by decide +kernel
theorem dL_law_206 : decode cL_law 206 = .ok (.iconst 1, 1) := by decide +kernel
theorem dL_law_207 : decode cL_law 207 = .ok (.iadd, 1) := by decide +kernel
theorem dL_law_208 : decode cL_law 208 = .ok (.iaload, 1) := by decide +kernel
theorem dL_law_209 : decode cL_law 209 = .ok (.aload_n 0, 1) := by decide +kernel
theorem dL_law_210 : decode cL_law 210 = .ok (.iload 4, 2) := by decide +kernel
theorem dL_law_212 : decode cL_law 212 = .ok (.iconst 2, 1) := by decide +kernel
theorem dL_law_213 : decode cL_law 213 = .ok (.iadd, 1) := by decide +kernel
theorem dL_law_214 : decode cL_law 214 = .ok (.iaload, 1) := by decide +kernel
theorem dL_law_215 : decode cL_law 215 = .ok (.aload_n 0, 1) := by decide +kernel
theorem dL_law_216 : decode cL_law 216 = .ok (.iload 4, 2) := by decide +kernel
theorem dL_law_218 : decode cL_law 218 = .ok (.iconst 3, 1) := by decide +kernel
theorem dL_law_219 : decode cL_law 219 = .ok (.iadd, 1) := by decide +kernel
theorem dL_law_220 : decode cL_law 220 = .ok (.iaload, 1) := by decide +kernel
theorem dL_law_221 : decode cL_law 221 = .ok (.invokevirtual 29, 3) := by decide +kernel
theorem dL_law_224 : decode cL_law 224 = .ok (.aload_n 2, 1) := by decide +kernel
theorem dL_law_225 : decode cL_law 225 = .ok (.aload_n 0, 1) := by decide +kernel
theorem dL_law_226 : decode cL_law 226 = .ok (.iload 4, 2) := by decide +kernel
theorem dL_law_228 : decode cL_law 228 = .ok (.iconst 1, 1) := by decide +kernel
theorem dL_law_229 : decode cL_law 229 = .ok (.iadd, 1) := by decide +kernel
theorem dL_law_230 : decode cL_law 230 = .ok (.iaload, 1) := by decide +kernel
theorem dL_law_231 : decode cL_law 231 = .ok (.aload_n 0, 1) := by decide +kernel
theorem dL_law_232 : decode cL_law 232 = .ok (.iload 4, 2) := by decide +kernel
theorem dL_law_234 : decode cL_law 234 = .ok (.iconst 2, 1) := by decide +kernel
theorem dL_law_235 : decode cL_law 235 = .ok (.iadd, 1) := by decide +kernel
theorem dL_law_236 : decode cL_law 236 = .ok (.iaload, 1) := by decide +kernel
theorem dL_law_237 : decode cL_law 237 = .ok (.aload_n 0, 1) := by decide +kernel
theorem dL_law_238 : decode cL_law 238 = .ok (.iload 4, 2) := by decide +kernel
theorem dL_law_240 : decode cL_law 240 = .ok (.iconst 3, 1) := by decide +kernel
theorem dL_law_241 : decode cL_law 241 = .ok (.iadd, 1) := by decide +kernel
theorem dL_law_242 : decode cL_law 242 = .ok (.iaload, 1) := by decide +kernel
theorem dL_law_243 : decode cL_law 243 = .ok (.invokevirtual 33, 3) := by decide +kernel
theorem dL_law_246 : decode cL_law 246 = .ok (.if_icmp .eq 522, 3) := by decide +kernel
theorem dL_law_249 : decode cL_law 249 = .ok (.iconst 0, 1) := by decide +kernel
theorem dL_law_250 : decode cL_law 250 = .ok (.ireturn, 1) := by decide +kernel
theorem dL_law_251 : decode cL_law 251 = .ok (.aload_n 1, 1) := by decide +kernel
theorem dL_law_252 : decode cL_law 252 = .ok (.aload_n 0, 1) := by decide +kernel
theorem dL_law_253 : decode cL_law 253 = .ok (.iload 4, 2) := by decide +kernel
theorem dL_law_255 : decode cL_law 255 = .ok (.iconst 1, 1) := by decide +kernel
theorem dL_law_256 : decode cL_law 256 = .ok (.iadd, 1) := by decide +kernel
theorem dL_law_257 : decode cL_law 257 = .ok (.iaload, 1) := by decide +kernel
theorem dL_law_258 : decode cL_law 258 = .ok (.aload_n 0, 1) := by decide +kernel
theorem dL_law_259 : decode cL_law 259 = .ok (.iload 4, 2) := by decide +kernel
theorem dL_law_261 : decode cL_law 261 = .ok (.iconst 2, 1) := by decide +kernel
theorem dL_law_262 : decode cL_law 262 = .ok (.iadd, 1) := by decide +kernel
theorem dL_law_263 : decode cL_law 263 = .ok (.iaload, 1) := by decide +kernel
theorem dL_law_264 : decode cL_law 264 = .ok (.invokevirtual 34, 3) := by decide +kernel
theorem dL_law_267 : decode cL_law 267 = .ok (.aload_n 2, 1) := by decide +kernel
theorem dL_law_268 : decode cL_law 268 = .ok (.aload_n 0, 1) := by decide +kernel
theorem dL_law_269 : decode cL_law 269 = .ok (.iload 4, 2) := by decide +kernel
theorem dL_law_271 : decode cL_law 271 = .ok (.iconst 1, 1) := by decide +kernel
theorem dL_law_272 : decode cL_law 272 = .ok (.iadd, 1) := by decide +kernel
theorem dL_law_273 : decode cL_law 273 = .ok (.iaload, 1) := by decide +kernel
theorem dL_law_274 : decode cL_law 274 = .ok (.aload_n 0, 1) := by decide +kernel
theorem dL_law_275 : decode cL_law 275 = .ok (.iload 4, 2) := by decide +kernel
theorem dL_law_277 : decode cL_law 277 = .ok (.iconst 2, 1) := by decide +kernel
theorem dL_law_278 : decode cL_law 278 = .ok (.iadd, 1) := by decide +kernel
theorem dL_law_279 : decode cL_law 279 = .ok (.iaload, 1) := by decide +kernel
theorem dL_law_280 : decode cL_law 280 = .ok (.invokevirtual 38, 3) := by decide +kernel
theorem dL_law_283 : decode cL_law 283 = .ok (.if_icmp .eq 485, 3) := by decide +kernel
theorem dL_law_286 : decode cL_law 286 = .ok (.iconst 0, 1) := by decide +kernel
theorem dL_law_287 : decode cL_law 287 = .ok (.ireturn, 1) := by decide +kernel
theorem dL_law_288 : decode cL_law 288 = .ok (.aload_n 1, 1) := by decide +kernel
theorem dL_law_289 : decode cL_law 289 = .ok (.aload_n 0, 1) := by decide +kernel
theorem dL_law_290 : decode cL_law 290 = .ok (.iload 4, 2) := by decide +kernel
theorem dL_law_292 : decode cL_law 292 = .ok (.iconst 1, 1) := by decide +kernel
theorem dL_law_293 : decode cL_law 293 = .ok (.iadd, 1) := by decide +kernel
theorem dL_law_294 : decode cL_law 294 = .ok (.iaload, 1) := by decide +kernel
theorem dL_law_295 : decode cL_law 295 = .ok (.aload_n 0, 1) := by decide +kernel
theorem dL_law_296 : decode cL_law 296 = .ok (.iload 4, 2) := by decide +kernel
theorem dL_law_298 : decode cL_law 298 = .ok (.iconst 2, 1) := by decide +kernel
theorem dL_law_299 : decode cL_law 299 = .ok (.iadd, 1) := by decide +kernel
theorem dL_law_300 : decode cL_law 300 = .ok (.iaload, 1) := by decide +kernel
theorem dL_law_301 : decode cL_law 301 = .ok (.aload_n 0, 1) := by decide +kernel
theorem dL_law_302 : decode cL_law 302 = .ok (.iload 4, 2) := by decide +kernel
theorem dL_law_304 : decode cL_law 304 = .ok (.iconst 3, 1) := by decide +kernel
theorem dL_law_305 : decode cL_law 305 = .ok (.iadd, 1) := by decide +kernel
theorem dL_law_306 : decode cL_law 306 = .ok (.iaload, 1) := by decide +kernel
theorem dL_law_307 : decode cL_law 307 = .ok (.aload_n 0, 1) := by decide +kernel
theorem dL_law_308 : decode cL_law 308 = .ok (.iload 4, 2) := by decide +kernel
theorem dL_law_310 : decode cL_law 310 = .ok (.iconst 4, 1) := by decide +kernel
theorem dL_law_311 : decode cL_law 311 = .ok (.iadd, 1) := by decide +kernel
theorem dL_law_312 : decode cL_law 312 = .ok (.iaload, 1) := by decide +kernel
theorem dL_law_313 : decode cL_law 313 = .ok (.aload_n 0, 1) := by decide +kernel
theorem dL_law_314 : decode cL_law 314 = .ok (.iload 4, 2) := by decide +kernel
theorem dL_law_316 : decode cL_law 316 = .ok (.iconst 5, 1) := by decide +kernel
theorem dL_law_317 : decode cL_law 317 = .ok (.iadd, 1) := by decide +kernel
theorem dL_law_318 : decode cL_law 318 = .ok (.iaload, 1) := by decide +kernel
theorem dL_law_319 : decode cL_law 319 = .ok (.aload_n 0, 1) := by decide +kernel
theorem dL_law_320 : decode cL_law 320 = .ok (.iload 4, 2) := by decide +kernel
theorem dL_law_322 : decode cL_law 322 = .ok (.bipush 6, 2) := by decide +kernel
theorem dL_law_324 : decode cL_law 324 = .ok (.iadd, 1) := by decide +kernel
theorem dL_law_325 : decode cL_law 325 = .ok (.iaload, 1) := by decide +kernel
theorem dL_law_326 : decode cL_law 326 = .ok (.aload_n 0, 1) := by decide +kernel
theorem dL_law_327 : decode cL_law 327 = .ok (.iload 4, 2) := by decide +kernel
theorem dL_law_329 : decode cL_law 329 = .ok (.bipush 7, 2) := by decide +kernel
theorem dL_law_331 : decode cL_law 331 = .ok (.iadd, 1) := by decide +kernel
theorem dL_law_332 : decode cL_law 332 = .ok (.iaload, 1) := by decide +kernel
theorem dL_law_333 : decode cL_law 333 = .ok (.invokevirtual 39, 3) := by decide +kernel
theorem dL_law_336 : decode cL_law 336 = .ok (.aload_n 2, 1) := by decide +kernel
theorem dL_law_337 : decode cL_law 337 = .ok (.aload_n 0, 1) := by decide +kernel
theorem dL_law_338 : decode cL_law 338 = .ok (.iload 4, 2) := by decide +kernel
theorem dL_law_340 : decode cL_law 340 = .ok (.iconst 1, 1) := by decide +kernel
theorem dL_law_341 : decode cL_law 341 = .ok (.iadd, 1) := by decide +kernel
theorem dL_law_342 : decode cL_law 342 = .ok (.iaload, 1) := by decide +kernel
theorem dL_law_343 : decode cL_law 343 = .ok (.aload_n 0, 1) := by decide +kernel
theorem dL_law_344 : decode cL_law 344 = .ok (.iload 4, 2) := by decide +kernel
theorem dL_law_346 : decode cL_law 346 = .ok (.iconst 2, 1) := by decide +kernel
theorem dL_law_347 : decode cL_law 347 = .ok (.iadd, 1) := by decide +kernel
theorem dL_law_348 : decode cL_law 348 = .ok (.iaload, 1) := by decide +kernel
theorem dL_law_349 : decode cL_law 349 = .ok (.aload_n 0, 1) := by decide +kernel
theorem dL_law_350 : decode cL_law 350 = .ok (.iload 4, 2) := by decide +kernel
theorem dL_law_352 : decode cL_law 352 = .ok (.iconst 3, 1) := by decide +kernel
theorem dL_law_353 : decode cL_law 353 = .ok (.iadd, 1) := by decide +kernel
theorem dL_law_354 : decode cL_law 354 = .ok (.iaload, 1) := by decide +kernel
theorem dL_law_355 : decode cL_law 355 = .ok (.aload_n 0, 1) := by decide +kernel
theorem dL_law_356 : decode cL_law 356 = .ok (.iload 4, 2) := by decide +kernel
theorem dL_law_358 : decode cL_law 358 = .ok (.iconst 4, 1) := by decide +kernel
theorem dL_law_359 : decode cL_law 359 = .ok (.iadd, 1) := by decide +kernel
theorem dL_law_360 : decode cL_law 360 = .ok (.iaload, 1) := by decide +kernel
theorem dL_law_361 : decode cL_law 361 = .ok (.aload_n 0, 1) := by decide +kernel
theorem dL_law_362 : decode cL_law 362 = .ok (.iload 4, 2) := by decide +kernel
theorem dL_law_364 : decode cL_law 364 = .ok (.iconst 5, 1) := by decide +kernel
theorem dL_law_365 : decode cL_law 365 = .ok (.iadd, 1) := by decide +kernel
theorem dL_law_366 : decode cL_law 366 = .ok (.iaload, 1) := by decide +kernel
theorem dL_law_367 : decode cL_law 367 = .ok (.aload_n 0, 1) := by decide +kernel
theorem dL_law_368 : decode cL_law 368 = .ok (.iload 4, 2) := by decide +kernel
theorem dL_law_370 : decode cL_law 370 = .ok (.bipush 6, 2) := by decide +kernel
theorem dL_law_372 : decode cL_law 372 = .ok (.iadd, 1) := by decide +kernel
theorem dL_law_373 : decode cL_law 373 = .ok (.iaload, 1) := by decide +kernel
theorem dL_law_374 : decode cL_law 374 = .ok (.aload_n 0, 1) := by decide +kernel
theorem dL_law_375 : decode cL_law 375 = .ok (.iload 4, 2) := by decide +kernel
theorem dL_law_377 : decode cL_law 377 = .ok (.bipush 7, 2) := by decide +kernel
theorem dL_law_379 : decode cL_law 379 = .ok (.iadd, 1) := by decide +kernel
theorem dL_law_380 : decode cL_law 380 = .ok (.iaload, 1) := by decide +kernel
theorem dL_law_381 : decode cL_law 381 = .ok (.invokevirtual 43, 3) := by decide +kernel
theorem dL_law_384 : decode cL_law 384 = .ok (.if_icmp .eq 384, 3) := by decide +kernel
theorem dL_law_387 : decode cL_law 387 = .ok (.iconst 0, 1) := by decide +kernel
theorem dL_law_388 : decode cL_law 388 = .ok (.ireturn, 1) := by decide +kernel
theorem dL_law_389 : decode cL_law 389 = .ok (.aload_n 1, 1) := by decide +kernel
theorem dL_law_390 : decode cL_law 390 = .ok (.aload_n 0, 1) := by decide +kernel
theorem dL_law_391 : decode cL_law 391 = .ok (.iload 4, 2) := by decide +kernel
theorem dL_law_393 : decode cL_law 393 = .ok (.iconst 1, 1) := by decide +kernel
theorem dL_law_394 : decode cL_law 394 = .ok (.iadd, 1) := by decide +kernel
theorem dL_law_395 : decode cL_law 395 = .ok (.iaload, 1) := by decide +kernel
theorem dL_law_396 : decode cL_law 396 = .ok (.invokevirtual 44, 3) := by decide +kernel
theorem dL_law_399 : decode cL_law 399 = .ok (.aload_n 2, 1) := by decide +kernel
theorem dL_law_400 : decode cL_law 400 = .ok (.aload_n 0, 1) := by decide +kernel
theorem dL_law_401 : decode cL_law 401 = .ok (.iload 4, 2) := by decide +kernel
theorem dL_law_403 : decode cL_law 403 = .ok (.iconst 1, 1) := by decide +kernel
theorem dL_law_404 : decode cL_law 404 = .ok (.iadd, 1) := by decide +kernel
theorem dL_law_405 : decode cL_law 405 = .ok (.iaload, 1) := by decide +kernel
theorem dL_law_406 : decode cL_law 406 = .ok (.invokevirtual 48, 3) := by decide +kernel
theorem dL_law_409 : decode cL_law 409 = .ok (.if_icmp .eq 359, 3) := by decide +kernel
theorem dL_law_412 : decode cL_law 412 = .ok (.iconst 0, 1) := by decide +kernel
theorem dL_law_413 : decode cL_law 413 = .ok (.ireturn, 1) := by decide +kernel
theorem dL_law_414 : decode cL_law 414 = .ok (.aload_n 1, 1) := by decide +kernel
theorem dL_law_415 : decode cL_law 415 = .ok (.invokevirtual 49, 3) := by decide +kernel
theorem dL_law_418 : decode cL_law 418 = .ok (.aload_n 2, 1) := by decide +kernel
theorem dL_law_419 : decode cL_law 419 = .ok (.invokevirtual 52, 3) := by decide +kernel
theorem dL_law_422 : decode cL_law 422 = .ok (.if_icmp .eq 346, 3) := by decide +kernel
theorem dL_law_425 : decode cL_law 425 = .ok (.iconst 0, 1) := by decide +kernel
theorem dL_law_426 : decode cL_law 426 = .ok (.ireturn, 1) := by decide +kernel
theorem dL_law_427 : decode cL_law 427 = .ok (.aload_n 1, 1) := by decide +kernel
theorem dL_law_428 : decode cL_law 428 = .ok (.aload_n 0, 1) := by decide +kernel
theorem dL_law_429 : decode cL_law 429 = .ok (.iload 4, 2) := by decide +kernel
theorem dL_law_431 : decode cL_law 431 = .ok (.iconst 1, 1) := by decide +kernel
theorem dL_law_432 : decode cL_law 432 = .ok (.iadd, 1) := by decide +kernel
theorem dL_law_433 : decode cL_law 433 = .ok (.iaload, 1) := by decide +kernel
theorem dL_law_434 : decode cL_law 434 = .ok (.invokevirtual 53, 3) := by decide +kernel
theorem dL_law_437 : decode cL_law 437 = .ok (.aload_n 2, 1) := by decide +kernel
theorem dL_law_438 : decode cL_law 438 = .ok (.aload_n 0, 1) := by decide +kernel
theorem dL_law_439 : decode cL_law 439 = .ok (.iload 4, 2) := by decide +kernel
theorem dL_law_441 : decode cL_law 441 = .ok (.iconst 1, 1) := by decide +kernel
theorem dL_law_442 : decode cL_law 442 = .ok (.iadd, 1) := by decide +kernel
theorem dL_law_443 : decode cL_law 443 = .ok (.iaload, 1) := by decide +kernel
theorem dL_law_444 : decode cL_law 444 = .ok (.invokevirtual 56, 3) := by decide +kernel
theorem dL_law_447 : decode cL_law 447 = .ok (.if_icmp .eq 321, 3) := by decide +kernel
theorem dL_law_450 : decode cL_law 450 = .ok (.iconst 0, 1) := by decide +kernel
theorem dL_law_451 : decode cL_law 451 = .ok (.ireturn, 1) := by decide +kernel
theorem dL_law_452 : decode cL_law 452 = .ok (.aload_n 1, 1) := by decide +kernel
theorem dL_law_453 : decode cL_law 453 = .ok (.aload_n 0, 1) := by decide +kernel
theorem dL_law_454 : decode cL_law 454 = .ok (.iload 4, 2) := by decide +kernel
theorem dL_law_456 : decode cL_law 456 = .ok (.iconst 1, 1) := by decide +kernel
theorem dL_law_457 : decode cL_law 457 = .ok (.iadd, 1) := by decide +kernel
theorem dL_law_458 : decode cL_law 458 = .ok (.iaload, 1) := by decide +kernel
theorem dL_law_459 : decode cL_law 459 = .ok (.invokevirtual 57, 3) := by decide +kernel
theorem dL_law_462 : decode cL_law 462 = .ok (.aload_n 2, 1) := by decide +kernel
theorem dL_law_463 : decode cL_law 463 = .ok (.aload_n 0, 1) := by decide +kernel
theorem dL_law_464 : decode cL_law 464 = .ok (.iload 4, 2) := by decide +kernel
theorem dL_law_466 : decode cL_law 466 = .ok (.iconst 1, 1) := by decide +kernel
theorem dL_law_467 : decode cL_law 467 = .ok (.iadd, 1) := by decide +kernel
theorem dL_law_468 : decode cL_law 468 = .ok (.iaload, 1) := by decide +kernel
theorem dL_law_469 : decode cL_law 469 = .ok (.invokevirtual 60, 3) := by decide +kernel
theorem dL_law_472 : decode cL_law 472 = .ok (.if_icmp .eq 296, 3) := by decide +kernel
theorem dL_law_475 : decode cL_law 475 = .ok (.iconst 0, 1) := by decide +kernel
theorem dL_law_476 : decode cL_law 476 = .ok (.ireturn, 1) := by decide +kernel
theorem dL_law_477 : decode cL_law 477 = .ok (.aload_n 1, 1) := by decide +kernel
theorem dL_law_478 : decode cL_law 478 = .ok (.aload_n 0, 1) := by decide +kernel
theorem dL_law_479 : decode cL_law 479 = .ok (.iload 4, 2) := by decide +kernel
theorem dL_law_481 : decode cL_law 481 = .ok (.iconst 1, 1) := by decide +kernel
theorem dL_law_482 : decode cL_law 482 = .ok (.iadd, 1) := by decide +kernel
theorem dL_law_483 : decode cL_law 483 = .ok (.iaload, 1) := by decide +kernel
theorem dL_law_484 : decode cL_law 484 = .ok (.invokevirtual 61, 3) := by decide +kernel
theorem dL_law_487 : decode cL_law 487 = .ok (.aload_n 2, 1) := by decide +kernel
theorem dL_law_488 : decode cL_law 488 = .ok (.aload_n 0, 1) := by decide +kernel
theorem dL_law_489 : decode cL_law 489 = .ok (.iload 4, 2) := by decide +kernel
theorem dL_law_491 : decode cL_law 491 = .ok (.iconst 1, 1) := by decide +kernel
theorem dL_law_492 : decode cL_law 492 = .ok (.iadd, 1) := by decide +kernel
theorem dL_law_493 : decode cL_law 493 = .ok (.iaload, 1) := by decide +kernel
theorem dL_law_494 : decode cL_law 494 = .ok (.invokevirtual 64, 3) := by decide +kernel
theorem dL_law_497 : decode cL_law 497 = .ok (.if_icmp .eq 271, 3) := by decide +kernel
theorem dL_law_500 : decode cL_law 500 = .ok (.iconst 0, 1) := by decide +kernel
theorem dL_law_501 : decode cL_law 501 = .ok (.ireturn, 1) := by decide +kernel
theorem dL_law_502 : decode cL_law 502 = .ok (.aload_n 1, 1) := by decide +kernel
theorem dL_law_503 : decode cL_law 503 = .ok (.aload_n 0, 1) := by decide +kernel
theorem dL_law_504 : decode cL_law 504 = .ok (.iload 4, 2) := by decide +kernel
theorem dL_law_506 : decode cL_law 506 = .ok (.iconst 1, 1) := by decide +kernel
theorem dL_law_507 : decode cL_law 507 = .ok (.iadd, 1) := by decide +kernel
theorem dL_law_508 : decode cL_law 508 = .ok (.iaload, 1) := by decide +kernel
theorem dL_law_509 : decode cL_law 509 = .ok (.invokevirtual 65, 3) := by decide +kernel
theorem dL_law_512 : decode cL_law 512 = .ok (.aload_n 2, 1) := by decide +kernel
theorem dL_law_513 : decode cL_law 513 = .ok (.aload_n 0, 1) := by decide +kernel
theorem dL_law_514 : decode cL_law 514 = .ok (.iload 4, 2) := by decide +kernel
theorem dL_law_516 : decode cL_law 516 = .ok (.iconst 1, 1) := by decide +kernel
theorem dL_law_517 : decode cL_law 517 = .ok (.iadd, 1) := by decide +kernel
theorem dL_law_518 : decode cL_law 518 = .ok (.iaload, 1) := by decide +kernel
theorem dL_law_519 : decode cL_law 519 = .ok (.invokevirtual 68, 3) := by decide +kernel
theorem dL_law_522 : decode cL_law 522 = .ok (.if_icmp .eq 246, 3) := by decide +kernel
theorem dL_law_525 : decode cL_law 525 = .ok (.iconst 0, 1) := by decide +kernel
theorem dL_law_526 : decode cL_law 526 = .ok (.ireturn, 1) := by decide +kernel
theorem dL_law_527 : decode cL_law 527 = .ok (.aload_n 1, 1) := by decide +kernel
theorem dL_law_528 : decode cL_law 528 = .ok (.aload_n 0, 1) := by decide +kernel
theorem dL_law_529 : decode cL_law 529 = .ok (.iload 4, 2) := by decide +kernel
theorem dL_law_531 : decode cL_law 531 = .ok (.iconst 1, 1) := by decide +kernel
theorem dL_law_532 : decode cL_law 532 = .ok (.iadd, 1) := by decide +kernel
theorem dL_law_533 : decode cL_law 533 = .ok (.iaload, 1) := by decide +kernel
theorem dL_law_534 : decode cL_law 534 = .ok (.aload_n 0, 1) := by decide +kernel
theorem dL_law_535 : decode cL_law 535 = .ok (.iload 4, 2) := by decide +kernel
theorem dL_law_537 : decode cL_law 537 = .ok (.iconst 2, 1) := by decide +kernel
theorem dL_law_538 : decode cL_law 538 = .ok (.iadd, 1) := by decide +kernel
theorem dL_law_539 : decode cL_law 539 = .ok (.iaload, 1) := by decide +kernel
theorem dL_law_540 : decode cL_law 540 = .ok (.aload_n 0, 1) := by decide +kernel
theorem dL_law_541 : decode cL_law 541 = .ok (.iload 4, 2) := by decide +kernel
theorem dL_law_543 : decode cL_law 543 = .ok (.iconst 3, 1) := by decide +kernel
theorem dL_law_544 : decode cL_law 544 = .ok (.iadd, 1) := by decide +kernel
theorem dL_law_545 : decode cL_law 545 = .ok (.iaload, 1) := by decide +kernel
theorem dL_law_546 : decode cL_law 546 = .ok (.invokevirtual 69, 3) := by decide +kernel
theorem dL_law_549 : decode cL_law 549 = .ok (.aload_n 2, 1) := by decide +kernel
theorem dL_law_550 : decode cL_law 550 = .ok (.aload_n 0, 1) := by decide +kernel
theorem dL_law_551 : decode cL_law 551 = .ok (.iload 4, 2) := by decide +kernel
theorem dL_law_553 : decode cL_law 553 = .ok (.iconst 1, 1) := by decide +kernel
theorem dL_law_554 : decode cL_law 554 = .ok (.iadd, 1) := by decide +kernel
theorem dL_law_555 : decode cL_law 555 = .ok (.iaload, 1) := by decide +kernel
theorem dL_law_556 : decode cL_law 556 = .ok (.aload_n 0, 1) := by decide +kernel
theorem dL_law_557 : decode cL_law 557 = .ok (.iload 4, 2) := by decide +kernel
theorem dL_law_559 : decode cL_law 559 = .ok (.iconst 2, 1) := by decide +kernel
theorem dL_law_560 : decode cL_law 560 = .ok (.iadd, 1) := by decide +kernel
theorem dL_law_561 : decode cL_law 561 = .ok (.iaload, 1) := by decide +kernel
theorem dL_law_562 : decode cL_law 562 = .ok (.aload_n 0, 1) := by decide +kernel
theorem dL_law_563 : decode cL_law 563 = .ok (.iload 4, 2) := by decide +kernel
theorem dL_law_565 : decode cL_law 565 = .ok (.iconst 3, 1) := by decide +kernel
theorem dL_law_566 : decode cL_law 566 = .ok (.iadd, 1) := by decide +kernel
theorem dL_law_567 : decode cL_law 567 = .ok (.iaload, 1) := by decide +kernel
theorem dL_law_568 : decode cL_law 568 = .ok (.invokevirtual 72, 3) := by decide +kernel
theorem dL_law_571 : decode cL_law 571 = .ok (.lcmp, 1) := by decide +kernel
theorem dL_law_572 : decode cL_law 572 = .ok (.ifCond .eq 196, 3) := by decide +kernel
theorem dL_law_575 : decode cL_law 575 = .ok (.iconst 0, 1) := by decide +kernel
theorem dL_law_576 : decode cL_law 576 = .ok (.ireturn, 1) := by decide +kernel
theorem dL_law_577 : decode cL_law 577 = .ok (.aload_n 1, 1) := by decide +kernel
theorem dL_law_578 : decode cL_law 578 = .ok (.aload_n 0, 1) := by decide +kernel
theorem dL_law_579 : decode cL_law 579 = .ok (.iload 4, 2) := by decide +kernel
theorem dL_law_581 : decode cL_law 581 = .ok (.iconst 1, 1) := by decide +kernel
theorem dL_law_582 : decode cL_law 582 = .ok (.iadd, 1) := by decide +kernel
theorem dL_law_583 : decode cL_law 583 = .ok (.iaload, 1) := by decide +kernel
theorem dL_law_584 : decode cL_law 584 = .ok (.aload_n 0, 1) := by decide +kernel
theorem dL_law_585 : decode cL_law 585 = .ok (.iload 4, 2) := by decide +kernel
theorem dL_law_587 : decode cL_law 587 = .ok (.iconst 2, 1) := by decide +kernel
theorem dL_law_588 : decode cL_law 588 = .ok (.iadd, 1) := by decide +kernel
theorem dL_law_589 : decode cL_law 589 = .ok (.iaload, 1) := by decide +kernel
theorem dL_law_590 : decode cL_law 590 = .ok (.invokevirtual 73, 3) := by decide +kernel
theorem dL_law_593 : decode cL_law 593 = .ok (.aload_n 2, 1) := by decide +kernel
theorem dL_law_594 : decode cL_law 594 = .ok (.aload_n 0, 1) := by decide +kernel
theorem dL_law_595 : decode cL_law 595 = .ok (.iload 4, 2) := by decide +kernel
theorem dL_law_597 : decode cL_law 597 = .ok (.iconst 1, 1) := by decide +kernel
theorem dL_law_598 : decode cL_law 598 = .ok (.iadd, 1) := by decide +kernel
theorem dL_law_599 : decode cL_law 599 = .ok (.iaload, 1) := by decide +kernel
theorem dL_law_600 : decode cL_law 600 = .ok (.aload_n 0, 1) := by decide +kernel
theorem dL_law_601 : decode cL_law 601 = .ok (.iload 4, 2) := by decide +kernel
theorem dL_law_603 : decode cL_law 603 = .ok (.iconst 2, 1) := by decide +kernel
theorem dL_law_604 : decode cL_law 604 = .ok (.iadd, 1) := by decide +kernel
theorem dL_law_605 : decode cL_law 605 = .ok (.iaload, 1) := by decide +kernel
theorem dL_law_606 : decode cL_law 606 = .ok (.invokevirtual 76, 3) := by decide +kernel
theorem dL_law_609 : decode cL_law 609 = .ok (.if_icmp .eq 159, 3) := by decide +kernel
theorem dL_law_612 : decode cL_law 612 = .ok (.iconst 0, 1) := by decide +kernel
theorem dL_law_613 : decode cL_law 613 = .ok (.ireturn, 1) := by decide +kernel
theorem dL_law_614 : decode cL_law 614 = .ok (.aload_n 1, 1) := by decide +kernel
theorem dL_law_615 : decode cL_law 615 = .ok (.aload_n 0, 1) := by decide +kernel
theorem dL_law_616 : decode cL_law 616 = .ok (.iload 4, 2) := by decide +kernel
theorem dL_law_618 : decode cL_law 618 = .ok (.iconst 1, 1) := by decide +kernel
theorem dL_law_619 : decode cL_law 619 = .ok (.iadd, 1) := by decide +kernel
theorem dL_law_620 : decode cL_law 620 = .ok (.iaload, 1) := by decide +kernel
theorem dL_law_621 : decode cL_law 621 = .ok (.invokevirtual 77, 3) := by decide +kernel
theorem dL_law_624 : decode cL_law 624 = .ok (.aload_n 2, 1) := by decide +kernel
theorem dL_law_625 : decode cL_law 625 = .ok (.aload_n 0, 1) := by decide +kernel
theorem dL_law_626 : decode cL_law 626 = .ok (.iload 4, 2) := by decide +kernel
theorem dL_law_628 : decode cL_law 628 = .ok (.iconst 1, 1) := by decide +kernel
theorem dL_law_629 : decode cL_law 629 = .ok (.iadd, 1) := by decide +kernel
theorem dL_law_630 : decode cL_law 630 = .ok (.iaload, 1) := by decide +kernel
theorem dL_law_631 : decode cL_law 631 = .ok (.invokevirtual 80, 3) := by decide +kernel
theorem dL_law_634 : decode cL_law 634 = .ok (.if_icmp .eq 134, 3) := by decide +kernel
theorem dL_law_637 : decode cL_law 637 = .ok (.iconst 0, 1) := by decide +kernel
theorem dL_law_638 : decode cL_law 638 = .ok (.ireturn, 1) := by decide +kernel
theorem dL_law_639 : decode cL_law 639 = .ok (.aload_n 1, 1) := by decide +kernel
theorem dL_law_640 : decode cL_law 640 = .ok (.aload_n 0, 1) := by decide +kernel
theorem dL_law_641 : decode cL_law 641 = .ok (.iload 4, 2) := by decide +kernel
theorem dL_law_643 : decode cL_law 643 = .ok (.iconst 1, 1) := by decide +kernel
theorem dL_law_644 : decode cL_law 644 = .ok (.iadd, 1) := by decide +kernel
theorem dL_law_645 : decode cL_law 645 = .ok (.iaload, 1) := by decide +kernel
theorem dL_law_646 : decode cL_law 646 = .ok (.invokevirtual 81, 3) := by decide +kernel
theorem dL_law_649 : decode cL_law 649 = .ok (.aload_n 2, 1) := by decide +kernel
theorem dL_law_650 : decode cL_law 650 = .ok (.aload_n 0, 1) := by decide +kernel
theorem dL_law_651 : decode cL_law 651 = .ok (.iload 4, 2) := by decide +kernel
theorem dL_law_653 : decode cL_law 653 = .ok (.iconst 1, 1) := by decide +kernel
theorem dL_law_654 : decode cL_law 654 = .ok (.iadd, 1) := by decide +kernel
theorem dL_law_655 : decode cL_law 655 = .ok (.iaload, 1) := by decide +kernel
theorem dL_law_656 : decode cL_law 656 = .ok (.invokevirtual 84, 3) := by decide +kernel
theorem dL_law_659 : decode cL_law 659 = .ok (.if_icmp .eq 109, 3) := by decide +kernel
theorem dL_law_662 : decode cL_law 662 = .ok (.iconst 0, 1) := by decide +kernel
theorem dL_law_663 : decode cL_law 663 = .ok (.ireturn, 1) := by decide +kernel
theorem dL_law_664 : decode cL_law 664 = .ok (.aload_n 1, 1) := by decide +kernel
theorem dL_law_665 : decode cL_law 665 = .ok (.aload_n 0, 1) := by decide +kernel
theorem dL_law_666 : decode cL_law 666 = .ok (.iload 4, 2) := by decide +kernel
theorem dL_law_668 : decode cL_law 668 = .ok (.iconst 1, 1) := by decide +kernel
theorem dL_law_669 : decode cL_law 669 = .ok (.iadd, 1) := by decide +kernel
theorem dL_law_670 : decode cL_law 670 = .ok (.iaload, 1) := by decide +kernel
theorem dL_law_671 : decode cL_law 671 = .ok (.invokevirtual 85, 3) := by decide +kernel
theorem dL_law_674 : decode cL_law 674 = .ok (.aload_n 2, 1) := by decide +kernel
theorem dL_law_675 : decode cL_law 675 = .ok (.aload_n 0, 1) := by decide +kernel
theorem dL_law_676 : decode cL_law 676 = .ok (.iload 4, 2) := by decide +kernel
theorem dL_law_678 : decode cL_law 678 = .ok (.iconst 1, 1) := by decide +kernel
theorem dL_law_679 : decode cL_law 679 = .ok (.iadd, 1) := by decide +kernel
theorem dL_law_680 : decode cL_law 680 = .ok (.iaload, 1) := by decide +kernel
theorem dL_law_681 : decode cL_law 681 = .ok (.invokevirtual 88, 3) := by decide +kernel
theorem dL_law_684 : decode cL_law 684 = .ok (.if_icmp .eq 84, 3) := by decide +kernel
theorem dL_law_687 : decode cL_law 687 = .ok (.iconst 0, 1) := by decide +kernel
theorem dL_law_688 : decode cL_law 688 = .ok (.ireturn, 1) := by decide +kernel
theorem dL_law_689 : decode cL_law 689 = .ok (.aload_n 1, 1) := by decide +kernel
theorem dL_law_690 : decode cL_law 690 = .ok (.aload_n 0, 1) := by decide +kernel
theorem dL_law_691 : decode cL_law 691 = .ok (.iload 4, 2) := by decide +kernel
theorem dL_law_693 : decode cL_law 693 = .ok (.iconst 1, 1) := by decide +kernel
theorem dL_law_694 : decode cL_law 694 = .ok (.iadd, 1) := by decide +kernel
theorem dL_law_695 : decode cL_law 695 = .ok (.iaload, 1) := by decide +kernel
theorem dL_law_696 : decode cL_law 696 = .ok (.aload_n 0, 1) := by decide +kernel
theorem dL_law_697 : decode cL_law 697 = .ok (.iload 4, 2) := by decide +kernel
theorem dL_law_699 : decode cL_law 699 = .ok (.iconst 2, 1) := by decide +kernel
theorem dL_law_700 : decode cL_law 700 = .ok (.iadd, 1) := by decide +kernel
theorem dL_law_701 : decode cL_law 701 = .ok (.iaload, 1) := by decide +kernel
theorem dL_law_702 : decode cL_law 702 = .ok (.aload_n 0, 1) := by decide +kernel
theorem dL_law_703 : decode cL_law 703 = .ok (.iload 4, 2) := by decide +kernel
theorem dL_law_705 : decode cL_law 705 = .ok (.iconst 3, 1) := by decide +kernel
theorem dL_law_706 : decode cL_law 706 = .ok (.iadd, 1) := by decide +kernel
theorem dL_law_707 : decode cL_law 707 = .ok (.iaload, 1) := by decide +kernel
theorem dL_law_708 : decode cL_law 708 = .ok (.aload_n 3, 1) := by decide +kernel
theorem dL_law_709 : decode cL_law 709 = .ok (.invokestatic 89, 3) := by decide +kernel
theorem dL_law_712 : decode cL_law 712 = .ok (.istore 5, 2) := by decide +kernel
theorem dL_law_714 : decode cL_law 714 = .ok (.aload_n 2, 1) := by decide +kernel
theorem dL_law_715 : decode cL_law 715 = .ok (.aload_n 0, 1) := by decide +kernel
theorem dL_law_716 : decode cL_law 716 = .ok (.iload 4, 2) := by decide +kernel
theorem dL_law_718 : decode cL_law 718 = .ok (.iconst 1, 1) := by decide +kernel
theorem dL_law_719 : decode cL_law 719 = .ok (.iadd, 1) := by decide +kernel
theorem dL_law_720 : decode cL_law 720 = .ok (.iaload, 1) := by decide +kernel
theorem dL_law_721 : decode cL_law 721 = .ok (.aload_n 0, 1) := by decide +kernel
theorem dL_law_722 : decode cL_law 722 = .ok (.iload 4, 2) := by decide +kernel
theorem dL_law_724 : decode cL_law 724 = .ok (.iconst 2, 1) := by decide +kernel
theorem dL_law_725 : decode cL_law 725 = .ok (.iadd, 1) := by decide +kernel
theorem dL_law_726 : decode cL_law 726 = .ok (.iaload, 1) := by decide +kernel
theorem dL_law_727 : decode cL_law 727 = .ok (.aload_n 0, 1) := by decide +kernel
theorem dL_law_728 : decode cL_law 728 = .ok (.iload 4, 2) := by decide +kernel
theorem dL_law_730 : decode cL_law 730 = .ok (.iconst 3, 1) := by decide +kernel
theorem dL_law_731 : decode cL_law 731 = .ok (.iadd, 1) := by decide +kernel
theorem dL_law_732 : decode cL_law 732 = .ok (.iaload, 1) := by decide +kernel
theorem dL_law_733 : decode cL_law 733 = .ok (.invokevirtual 94, 3) := by decide +kernel
theorem dL_law_736 : decode cL_law 736 = .ok (.lstore 6, 2) := by decide +kernel
theorem dL_law_738 : decode cL_law 738 = .ok (.aload_n 2, 1) := by decide +kernel
theorem dL_law_739 : decode cL_law 739 = .ok (.invokevirtual 95, 3) := by decide +kernel
theorem dL_law_742 : decode cL_law 742 = .ok (.iload 5, 2) := by decide +kernel
theorem dL_law_744 : decode cL_law 744 = .ok (.if_icmp .eq 5, 3) := by decide +kernel
theorem dL_law_747 : decode cL_law 747 = .ok (.iconst 0, 1) := by decide +kernel
theorem dL_law_748 : decode cL_law 748 = .ok (.ireturn, 1) := by decide +kernel
theorem dL_law_749 : decode cL_law 749 = .ok (.iload 5, 2) := by decide +kernel
theorem dL_law_751 : decode cL_law 751 = .ok (.ifCond .ne 14, 3) := by decide +kernel
theorem dL_law_754 : decode cL_law 754 = .ok (.aload_n 3, 1) := by decide +kernel
theorem dL_law_755 : decode cL_law 755 = .ok (.iconst 0, 1) := by decide +kernel
theorem dL_law_756 : decode cL_law 756 = .ok (.laload, 1) := by decide +kernel
theorem dL_law_757 : decode cL_law 757 = .ok (.lload 6, 2) := by decide +kernel
theorem dL_law_759 : decode cL_law 759 = .ok (.lcmp, 1) := by decide +kernel
theorem dL_law_760 : decode cL_law 760 = .ok (.ifCond .eq 5, 3) := by decide +kernel
theorem dL_law_763 : decode cL_law 763 = .ok (.iconst 0, 1) := by decide +kernel
theorem dL_law_764 : decode cL_law 764 = .ok (.ireturn, 1) := by decide +kernel
theorem dL_law_765 : decode cL_law 765 = .ok (.goto 3, 3) := by decide +kernel
theorem dL_law_768 : decode cL_law 768 = .ok (.iinc 4 8, 3) := by decide +kernel
theorem dL_law_771 : decode cL_law 771 = .ok (.goto (-748), 3) := by decide +kernel
theorem dL_law_774 : decode cL_law 774 = .ok (.iconst 1, 1) := by decide +kernel
theorem dL_law_775 : decode cL_law 775 = .ok (.ireturn, 1) := by decide +kernel
end
section
/-! the abstract memory: names of cells are numbers (0: the script; n + 1: the n-th cell made since the law began); what each holds stands in typed functions -/
abbrev am_E : Type := Launch × (Nat × Nat) × va_G × (Nat → ClassId)
def am_rho (E : am_E) : Nat → Nat
  | 0 => E.2.1.1
  | n + 1 => E.2.1.2 + n
abbrev am_M : Type := (Nat → Nat × Nat) × (Nat → Nat → Int32) × (Nat → Nat → Int64) × (Nat → Nat → Option Nat) × Nat
def mm_S (μ : am_M) (n : Nat) : Nat × Nat := μ.1 n
def mm_I (μ : am_M) (n k : Nat) : Int32 := μ.2.1 n k
def mm_L (μ : am_M) (n k : Nat) : Int64 := μ.2.2.1 n k
def mm_R (μ : am_M) (n k : Nat) : Option Nat := μ.2.2.2.1 n k
def mm_Z (μ : am_M) : Nat := μ.2.2.2.2
def mm_sI (μ : am_M) (a k : Nat) (v : Int32) : am_M := (μ.1, fun a' k' => if a' = a ∧ k' = k then v else μ.2.1 a' k', μ.2.2.1, μ.2.2.2.1, μ.2.2.2.2)
def mm_sL (μ : am_M) (a k : Nat) (v : Int64) : am_M := (μ.1, μ.2.1, fun a' k' => if a' = a ∧ k' = k then v else μ.2.2.1 a' k', μ.2.2.2.1, μ.2.2.2.2)
def mm_sR (μ : am_M) (a k : Nat) (v : Option Nat) : am_M := (μ.1, μ.2.1, μ.2.2.1, fun a' k' => if a' = a ∧ k' = k then v else μ.2.2.2.1 a' k', μ.2.2.2.2)
def mm_nw (μ : am_M) (kd len : Nat) : am_M := (fun a => if a = μ.2.2.2.2 then (kd, len) else μ.1 a, fun a k => if a = μ.2.2.2.2 then 0 else μ.2.1 a k, fun a k => if a = μ.2.2.2.2 then 0 else μ.2.2.1 a k, fun a k => if a = μ.2.2.2.2 then none else μ.2.2.2.1 a k, μ.2.2.2.2 + 1)
def mm_gr (μ : am_M) (n k : Nat) : am_M := (fun a => if a = μ.2.2.2.2 then (11, n) else if μ.2.2.2.2 < a ∧ a ≤ μ.2.2.2.2 + n then (8, k) else μ.1 a, fun a j => if μ.2.2.2.2 < a ∧ a ≤ μ.2.2.2.2 + n then 0 else μ.2.1 a j, μ.2.2.1, fun a j => if a = μ.2.2.2.2 then (if j < n then some (μ.2.2.2.2 + 1 + j) else none) else μ.2.2.2.1 a j, μ.2.2.2.2 + 1 + n)
-- what is read behind what was written
theorem mS_sI (μ : am_M) (a k : Nat) (v : Int32) : mm_S (mm_sI μ a k v) = mm_S μ := rfl
theorem mS_sL (μ : am_M) (a k : Nat) (v : Int64) : mm_S (mm_sL μ a k v) = mm_S μ := rfl
theorem mS_sR (μ : am_M) (a k : Nat) (v : Option Nat) : mm_S (mm_sR μ a k v) = mm_S μ := rfl
theorem mI_sL (μ : am_M) (a k : Nat) (v : Int64) : mm_I (mm_sL μ a k v) = mm_I μ := rfl
theorem mI_sR (μ : am_M) (a k : Nat) (v : Option Nat) : mm_I (mm_sR μ a k v) = mm_I μ := rfl
theorem mL_sI (μ : am_M) (a k : Nat) (v : Int32) : mm_L (mm_sI μ a k v) = mm_L μ := rfl
theorem mL_sR (μ : am_M) (a k : Nat) (v : Option Nat) : mm_L (mm_sR μ a k v) = mm_L μ := rfl
theorem mR_sI (μ : am_M) (a k : Nat) (v : Int32) : mm_R (mm_sI μ a k v) = mm_R μ := rfl
theorem mR_sL (μ : am_M) (a k : Nat) (v : Int64) : mm_R (mm_sL μ a k v) = mm_R μ := rfl
theorem mZ_sI (μ : am_M) (a k : Nat) (v : Int32) : mm_Z (mm_sI μ a k v) = mm_Z μ := rfl
theorem mZ_sL (μ : am_M) (a k : Nat) (v : Int64) : mm_Z (mm_sL μ a k v) = mm_Z μ := rfl
theorem mZ_sR (μ : am_M) (a k : Nat) (v : Option Nat) : mm_Z (mm_sR μ a k v) = mm_Z μ := rfl
theorem mI_sI (μ : am_M) (a k : Nat) (v : Int32) (a' k' : Nat) : mm_I (mm_sI μ a k v) a' k' = if a' = a ∧ k' = k then v else mm_I μ a' k' := rfl
theorem mL_sL (μ : am_M) (a k : Nat) (v : Int64) (a' k' : Nat) : mm_L (mm_sL μ a k v) a' k' = if a' = a ∧ k' = k then v else mm_L μ a' k' := rfl
theorem mR_sR (μ : am_M) (a k : Nat) (v : Option Nat) (a' k' : Nat) : mm_R (mm_sR μ a k v) a' k' = if a' = a ∧ k' = k then v else mm_R μ a' k' := rfl
theorem mI_same (μ : am_M) (a k : Nat) (v : Int32) : mm_I (mm_sI μ a k v) a k = v := by simp [mI_sI]
theorem mI_ne {μ : am_M} {a k a' k' : Nat} {v : Int32} (h : a' ≠ a ∨ k' ≠ k) : mm_I (mm_sI μ a k v) a' k' = mm_I μ a' k' := by
  rw [mI_sI, if_neg]; rintro ⟨rfl, rfl⟩; rcases h with h | h <;> exact h rfl
theorem mL_same (μ : am_M) (a k : Nat) (v : Int64) : mm_L (mm_sL μ a k v) a k = v := by simp [mL_sL]
theorem mL_ne {μ : am_M} {a k a' k' : Nat} {v : Int64} (h : a' ≠ a ∨ k' ≠ k) : mm_L (mm_sL μ a k v) a' k' = mm_L μ a' k' := by
  rw [mL_sL, if_neg]; rintro ⟨rfl, rfl⟩; rcases h with h | h <;> exact h rfl
theorem mS_nw (μ : am_M) (kd len a : Nat) : mm_S (mm_nw μ kd len) a = if a = mm_Z μ then (kd, len) else mm_S μ a := rfl
theorem mI_nw (μ : am_M) (kd len a k : Nat) : mm_I (mm_nw μ kd len) a k = if a = mm_Z μ then 0 else mm_I μ a k := rfl
theorem mL_nw (μ : am_M) (kd len a k : Nat) : mm_L (mm_nw μ kd len) a k = if a = mm_Z μ then 0 else mm_L μ a k := rfl
theorem mR_nw (μ : am_M) (kd len a k : Nat) : mm_R (mm_nw μ kd len) a k = if a = mm_Z μ then none else mm_R μ a k := rfl
theorem mZ_nw (μ : am_M) (kd len : Nat) : mm_Z (mm_nw μ kd len) = mm_Z μ + 1 := rfl
theorem mS_gr (μ : am_M) (n k a : Nat) : mm_S (mm_gr μ n k) a = if a = mm_Z μ then (11, n) else if mm_Z μ < a ∧ a ≤ mm_Z μ + n then (8, k) else mm_S μ a := rfl
theorem mI_gr (μ : am_M) (n k a j : Nat) : mm_I (mm_gr μ n k) a j = if mm_Z μ < a ∧ a ≤ mm_Z μ + n then 0 else mm_I μ a j := rfl
theorem mL_gr (μ : am_M) (n k : Nat) : mm_L (mm_gr μ n k) = mm_L μ := rfl
theorem mR_gr (μ : am_M) (n k a j : Nat) : mm_R (mm_gr μ n k) a j = if a = mm_Z μ then (if j < n then some (mm_Z μ + 1 + j) else none) else mm_R μ a j := rfl
theorem mZ_gr (μ : am_M) (n k : Nat) : mm_Z (mm_gr μ n k) = mm_Z μ + 1 + n := rfl
-- values by names, values by addresses
def am_tr (E : am_E) : Value → Value
  | .ref a => .ref (am_rho E a)
  | v => v
theorem am_tr_cat (E : am_E) (v : Value) : (am_tr E v).category = v.category := by cases v <;> rfl
def am_ty : Nat → Nat → FieldType := fun ci => match ci with
  | 0 => tyX0
  | 1 => tyX1
  | 2 => tyX2
  | 3 => tyX3
  | 4 => tyX4
  | 5 => tyX5
  | 6 => tyX6
  | _ => tyX7
def am_cl : Nat → vw_C := fun ci => match ci with
  | 0 => (RX0, TX0, 6)
  | 1 => (RX1, TX1, 7)
  | 2 => (RX2, TX2, 15)
  | 3 => (RX3, TX3, 6)
  | 4 => (RX4, TX4, 7)
  | 5 => (RX5, TX5, 6)
  | 6 => (RX6, TX6, 5)
  | _ => (RX7, TX7, 34)
theorem am_cl_at {ci : Nat} (h : ci < 8) : vwCl[ci]? = some (am_cl ci) := by
  rcases (show ci = 0 ∨ ci = 1 ∨ ci = 2 ∨ ci = 3 ∨ ci = 4 ∨ ci = 5 ∨ ci = 6 ∨ ci = 7 by omega) with rfl | rfl | rfl | rfl | rfl | rfl | rfl | rfl <;> rfl
def am_fv (E : am_E) (μ : am_M) (n j : Nat) : Value := match am_ty (mm_S μ n).1 j with
  | .int => .int (mm_I μ n j)
  | .long => .long (mm_L μ n j)
  | _ => va_rf ((mm_R μ n j).map (am_rho E))
def am_at (E : am_E) (μ : am_M) (H : Heap) (n : Nat) : Prop :=
  ((mm_S μ n).1 < 12 → 0 < n) ∧
  ((mm_S μ n).1 < 8 → t_OB (am_rho E n) (E.2.2.1.1 (mm_S μ n).1) (am_cl (mm_S μ n).1).2.2 (E.2.2.1.2 (mm_S μ n).1) H (am_fv E μ n)) ∧
  ((mm_S μ n).1 = 8 → H[am_rho E n]? = some (arrV (E.2.2.2 0) (mm_S μ n).2 (fun j => .int (mm_I μ n j)))) ∧
  ((mm_S μ n).1 = 9 → H[am_rho E n]? = some (arrV (E.2.2.2 1) (mm_S μ n).2 (fun j => .long (mm_L μ n j)))) ∧
  ((mm_S μ n).1 = 10 → H[am_rho E n]? = some (arrV (E.2.2.2 2) (mm_S μ n).2 (fun j => .int (mm_I μ n j)))) ∧
  ((mm_S μ n).1 = 11 → H[am_rho E n]? = some (arrV (E.2.2.2 3) (mm_S μ n).2 (fun j => va_rf ((mm_R μ n j).map (am_rho E)))))
def am_Ag (E : am_E) (μ : am_M) (H : Heap) : Prop := H.size = am_rho E (mm_Z μ) ∧ 0 < mm_Z μ ∧ ∀ n, am_at E μ H n
theorem am_rho_inj {E : am_E} {a b : Nat} (ha : 0 < a) (hb : 0 < b) (h : am_rho E a = am_rho E b) : a = b := by
  obtain ⟨a, rfl⟩ : ∃ x, a = x + 1 := ⟨a - 1, by omega⟩
  obtain ⟨b, rfl⟩ : ∃ x, b = x + 1 := ⟨b - 1, by omega⟩
  simp only [am_rho] at h
  omega
theorem am_rho_b {E : am_E} {a : Nat} (ha : 0 < a) : E.2.1.2 ≤ am_rho E a := by
  obtain ⟨a, rfl⟩ : ∃ x, a = x + 1 := ⟨a - 1, by omega⟩
  simp only [am_rho]
  omega
theorem am_rho_lt {E : am_E} {a b : Nat} (ha : 0 < a) (hb : 0 < b) : am_rho E a < am_rho E b ↔ a < b := by
  obtain ⟨a, rfl⟩ : ∃ x, a = x + 1 := ⟨a - 1, by omega⟩
  obtain ⟨b, rfl⟩ : ∃ x, b = x + 1 := ⟨b - 1, by omega⟩
  simp only [am_rho]
  omega
theorem am_rho_add {E : am_E} {a k : Nat} (ha : 0 < a) : am_rho E (a + k) = am_rho E a + k := by
  obtain ⟨a, rfl⟩ : ∃ x, a = x + 1 := ⟨a - 1, by omega⟩
  rw [show a + 1 + k = (a + k) + 1 by omega]
  simp only [am_rho]
  omega
/-- a cell with a shape lies in the heap -/
theorem am_lt {E : am_E} {μ : am_M} {H : Heap} (h : am_Ag E μ H) {n : Nat} (hn : (mm_S μ n).1 < 12) : n < mm_Z μ := by
  obtain ⟨h1, h2, h3⟩ := h
  obtain ⟨g0, g1, g2, g3, g4, g5⟩ := h3 n
  rw [← am_rho_lt (g0 hn) h2, ← h1]
  rcases (show (mm_S μ n).1 < 8 ∨ (mm_S μ n).1 = 8 ∨ (mm_S μ n).1 = 9 ∨ (mm_S μ n).1 = 10 ∨ (mm_S μ n).1 = 11 by omega) with h | h | h | h | h
  · obtain ⟨cell, q1, -⟩ := g1 h
    exact (Array.getElem?_eq_some_iff.mp q1).1
  · exact (Array.getElem?_eq_some_iff.mp (g2 h)).1
  · exact (Array.getElem?_eq_some_iff.mp (g3 h)).1
  · exact (Array.getElem?_eq_some_iff.mp (g4 h)).1
  · exact (Array.getElem?_eq_some_iff.mp (g5 h)).1
theorem am_at.kept {E : am_E} {μ μ' : am_M} {H H1 : Heap} {n : Nat} (h : am_at E μ H n) (hS : mm_S μ' n = mm_S μ n) (hI : ∀ k, mm_I μ' n k = mm_I μ n k) (hL : ∀ k, mm_L μ' n k = mm_L μ n k) (hR : ∀ k, mm_R μ' n k = mm_R μ n k) (hq : (mm_S μ n).1 < 12 → H1[am_rho E n]? = H[am_rho E n]?) : am_at E μ' H1 n := by
  obtain ⟨g0, g1, g2, g3, g4, g5⟩ := h
  have hfv : am_fv E μ' n = am_fv E μ n := by funext j; simp only [am_fv, hS, hI, hL, hR]
  refine ⟨?_, ?_, ?_, ?_, ?_, ?_⟩ <;> rw [hS]
  · exact g0
  · intro h; rw [hfv]; exact (g1 h).kept (hq (by omega))
  · intro h; rw [hq (by omega), g2 h]; simp only [hI]
  · intro h; rw [hq (by omega), g3 h]; simp only [hL]
  · intro h; rw [hq (by omega), g4 h]; simp only [hI]
  · intro h; rw [hq (by omega), g5 h]; simp only [hR]
-- locals
def am_ls (E : am_E) (la : Array Slot) (nL : Nat) (ls : List (Option Value)) : Prop := la.size = nL ∧ lv_wf la ∧ ∀ (i : Nat) (v : Value), ls[i]? = some (some v) → la[i]? = some (.val (am_tr E v))
def am_pr (E : am_E) (ls : List (Option Value)) : List (Nat × Value) := (List.range ls.length).filterMap (fun j => match ls[j]? with
  | some (some v) => some (j, am_tr E v)
  | _ => none)
theorem am_pr_in {E : am_E} {ls : List (Option Value)} {j : Nat} {v : Value} (h : ls[j]? = some (some v)) : (j, am_tr E v) ∈ am_pr E ls := by
  refine List.mem_filterMap.mpr ⟨j, List.mem_range.mpr (List.getElem?_eq_some_iff.mp h).1, ?_⟩
  rw [h]
theorem am_pr_of {E : am_E} {ls : List (Option Value)} {q : Nat × Value} (h : q ∈ am_pr E ls) : ∃ v, ls[q.1]? = some (some v) ∧ q.2 = am_tr E v := by
  obtain ⟨j, -, hj⟩ := List.mem_filterMap.mp h
  split at hj
  · rename_i v hv
    cases hj
    exact ⟨v, hv, rfl⟩
  · cases hj
theorem am_ls.has {E : am_E} {la : Array Slot} {nL : Nat} {ls : List (Option Value)} (h : am_ls E la nL ls) : lv_has la nL (am_pr E ls) := by
  refine ⟨h.1, h.2.1, fun q hq => ?_⟩
  obtain ⟨v, h1, h2⟩ := am_pr_of hq
  rw [h2]
  exact h.2.2 _ _ h1
def am_ok1 (ls : List (Option Value)) (i : Nat) : Bool := match i with
  | 0 => true
  | i + 1 => match ls[i]? with
    | some (some v) => v.category == 1
    | _ => true
theorem am_ok1_spec {ls : List (Option Value)} {i j : Nat} {v : Value} (h : am_ok1 ls i = true) (hj : ls[j]? = some (some v)) : ¬ (j + 1 = i ∧ v.category = 2) := by
  rintro ⟨rfl, hc⟩
  simp only [am_ok1, hj] at h
  rw [hc] at h
  cases h
theorem am_ls.st1 {E : am_E} {la' : Array Slot} {nL i : Nat} {ls : List (Option Value)} {v : Value} {lv' : List (Nat × Value)} (hk : am_ok1 ls i = true) (hl : (i, am_tr E v) :: (am_pr E ls).filter (fun q => !(q.1 == i) && !(q.1 + 1 == i && q.2.category == 2)) = lv') (h : lv_has la' nL lv') : am_ls E la' nL (ls.set i (some v)) := by
  subst hl
  refine ⟨h.1, h.2.1, fun j w hj => ?_⟩
  by_cases hij : i = j
  · subst hij
    have hlt : i < ls.length := by
      have := (List.getElem?_eq_some_iff.mp hj).1
      simpa using this
    rw [List.getElem?_set_self hlt] at hj
    cases hj
    exact h.2.2 _ List.mem_cons_self
  · rw [List.getElem?_set_ne hij] at hj
    refine h.2.2 (j, am_tr E w) (List.mem_cons_of_mem _ (List.mem_filter.mpr ⟨am_pr_in hj, ?_⟩))
    have h2 := am_ok1_spec hk hj
    rw [← am_tr_cat E w] at h2
    have h3 : ¬ j = i := fun e => hij e.symm
    by_cases h4 : j + 1 = i
    · have h5 : ¬ (am_tr E w).category = 2 := fun e => h2 ⟨h4, e⟩
      simp [h3, h4, h5]
    · simp [h3, h4]
theorem am_ls.st2 {E : am_E} {la' : Array Slot} {nL i : Nat} {ls : List (Option Value)} {v : Value} {lv' : List (Nat × Value)} (hk : am_ok1 ls i = true) (hl : (i, am_tr E v) :: (am_pr E ls).filter (fun q => !(q.1 == i) && (!(q.1 == i + 1) && !(q.1 + 1 == i && q.2.category == 2))) = lv') (h : lv_has la' nL lv') : am_ls E la' nL ((ls.set i (some v)).set (i + 1) none) := by
  subst hl
  refine ⟨h.1, h.2.1, fun j w hj => ?_⟩
  by_cases h1 : i + 1 = j
  · subst h1
    have hlt : i + 1 < (ls.set i (some v)).length := (by simpa using (List.getElem?_eq_some_iff.mp hj).1)
    rw [List.getElem?_set_self hlt] at hj
    cases hj
  · rw [List.getElem?_set_ne h1] at hj
    by_cases hij : i = j
    · subst hij
      have hlt : i < ls.length := by
        have := (List.getElem?_eq_some_iff.mp hj).1
        simpa using this
      rw [List.getElem?_set_self hlt] at hj
      cases hj
      exact h.2.2 _ List.mem_cons_self
    · rw [List.getElem?_set_ne hij] at hj
      refine h.2.2 (j, am_tr E w) (List.mem_cons_of_mem _ (List.mem_filter.mpr ⟨am_pr_in hj, ?_⟩))
      have h2 := am_ok1_spec hk hj
      rw [← am_tr_cat E w] at h2
      have h3 : ¬ j = i := fun e => hij e.symm
      have h6 : ¬ j = i + 1 := fun e => h1 e.symm
      by_cases h4 : j + 1 = i
      · have h5 : ¬ (am_tr E w).category = 2 := fun e => h2 ⟨h4, e⟩
        simp [h3, h4, h5, h6]
      · simp [h3, h4, h6]
/-- fewer locals known -/
def am_keep : List (Option Value) → List Bool → List (Option Value)
  | x :: xs, true :: bs => x :: am_keep xs bs
  | _ :: xs, false :: bs => none :: am_keep xs bs
  | _, _ => []
theorem am_keep_at : ∀ (ls : List (Option Value)) (bs : List Bool) (i : Nat) (v : Value), (am_keep ls bs)[i]? = some (some v) → ls[i]? = some (some v)
  | [], [], i, v, h => by simp [am_keep] at h
  | [], _ :: _, i, v, h => by simp [am_keep] at h
  | _ :: _, [], i, v, h => by simp [am_keep] at h
  | x :: xs, true :: bs, 0, v, h => by simpa [am_keep] using h
  | x :: xs, true :: bs, i + 1, v, h => by
    simp only [am_keep, List.getElem?_cons_succ] at h ⊢
    exact am_keep_at xs bs i v h
  | x :: xs, false :: bs, 0, v, h => by simp [am_keep] at h
  | x :: xs, false :: bs, i + 1, v, h => by
    simp only [am_keep, List.getElem?_cons_succ] at h ⊢
    exact am_keep_at xs bs i v h
end
section
/-! the judgement over the abstract memory, and a rule an instruction -/
abbrev am_C : Type := Program × Env × Room × State × MethodId × Array Value × List Frame × Method × Code
abbrev cx_p (C : am_C) : Program := C.1
abbrev cx_e (C : am_C) : Env := C.2.1
abbrev cx_R (C : am_C) : Room := C.2.2.1
abbrev cx_s (C : am_C) : State := C.2.2.2.1
abbrev cx_m (C : am_C) : MethodId := C.2.2.2.2.1
abbrev cx_a (C : am_C) : Array Value := C.2.2.2.2.2.1
abbrev cx_b (C : am_C) : List Frame := C.2.2.2.2.2.2.1
abbrev cx_M (C : am_C) : Method := C.2.2.2.2.2.2.2.1
abbrev cx_c (C : am_C) : Code := C.2.2.2.2.2.2.2.2
def am_W (E : am_E) (C : am_C) (Q : State → Prop) (μ : am_M) (cl sl : Nat) (pc : Nat) (ls : List (Option Value)) (st : List Value) : Prop :=
  ∀ (H : Heap) (locs : List Loc) (la : Array Slot), am_Ag E μ H → va_S (fun q => E.2.1.2 ≤ q) (cx_s C).heap H locs → am_ls E la (cx_c C).maxLocals ls → W (cx_p C) E.1 (cx_e C) (cx_R C) (cx_s C) (cx_m C) (cx_a C) (cx_b C) (cx_M C) (cx_c C) H locs cl sl Q (F0 (cx_m C) pc la (st.map (am_tr E)))
def am_G : List Cond := lw_tbl.filter goodWord
def am_isN : Cond → Bool
  | .fieldLinkNest .. => true
  | .methodLinkNest .. => true
  | _ => false
def am_N : List Cond := lw_tbl.filter am_isN
theorem am_inG {w : Cond} (i : Nat) (h : lw_tbl[i]? = some w) (g : goodWord w = true) : w ∈ am_G := List.mem_filter.mpr ⟨List.mem_of_getElem? h, g⟩
theorem am_inN {w : Cond} (i : Nat) (h : lw_tbl[i]? = some w) (g : am_isN w = true) : w ∈ am_N := List.mem_filter.mpr ⟨List.mem_of_getElem? h, g⟩
def am_K (E : am_E) (U : State) : Prop := va_K E.2.2.1 vwCl [(E.2.2.2 0, .int), (E.2.2.2 1, .long), (E.2.2.2 2, .boolean), (E.2.2.2 3, .array .int)] U ∧ (∀ w ∈ am_N, va_Nw w U) ∧ (Cond.arrayOver (.array .int)).before #[] U = true
theorem am_K.warm {E : am_E} {s U : State} (h : am_K E s) (hW : s.WarmedH U.vm) : am_K E U := by
  refine ⟨va_K.moved hW.alike h.1, fun w hw => ?_, ?_⟩
  · have h2 := h.2.1 w hw
    have h3 := (List.mem_filter.mp hw).2
    cases w <;> first | (simp [am_isN] at h3; done) | exact va_Nw.warmF hW h2 | exact va_Nw.warmM hW h2
  · have h3 := h.2.2
    have h4 := Cond.arrayOver_setVmC (args := #[]) (s := s) (vm' := U.vm) hW.alike (.array .int)
    rw [h3] at h4
    exact h4
def am_F (E : am_E) (C : am_C) (cc : ByteArray) (own : String) (nL : Nat) (ret : Option FieldType) (R : Room) : Prop :=
  (cx_p C).tables.exec = Jvm.exec ∧ (cx_c C).code = cc ∧ (cx_c C).maxLocals = nL ∧ (cx_s C).vm.findClass own = some (cx_m C).cls ∧ (∀ w ∈ am_G, w.before (cx_a C) (cx_s C) = true) ∧ am_K E (cx_s C) ∧ cx_R C = R ∧ E.2.1.2 ≤ (cx_s C).heap.size ∧ (cx_M C).sig.returnType = ret ∧ (cx_M C).locks = false
section AMR
variable {E : am_E} {C : am_C} {cc : ByteArray} {own : String} {nL : Nat} {ret : Option FieldType} {R : Room} {Q : State → Prop} {μ : am_M} {cl sl pc : Nat} {ls : List (Option Value)} {st : List Value}
theorem am_widen {k n : Nat} (h1 : cl ≤ k) (h2 : sl ≤ n) (kk : am_W E C Q μ k n pc ls st) : am_W E C Q μ cl sl pc ls st := fun H locs la hA hS hl => W.widen h1 h2 (kk H locs la hA hS hl)
theorem am_sub {ls' : List (Option Value)} (bs : List Bool) (h : am_keep ls bs = ls') (kk : am_W E C Q μ cl sl pc ls' st) : am_W E C Q μ cl sl pc ls st := fun H locs la hA hS hl => kk H locs la hA hS ⟨hl.1, hl.2.1, fun i v hi => hl.2.2 i v (am_keep_at ls bs i v (by rw [h]; exact hi))⟩
theorem am_mem {μ' : am_M} (h : μ = μ') (kk : am_W E C Q μ' cl sl pc ls st) : am_W E C Q μ cl sl pc ls st := h ▸ kk
theorem am_iconst (fx : am_F E C cc own nL ret R) {n : Int} {v : Int32} (hd : decode cc pc = .ok (.iconst n, 1)) (hv : Int32.ofInt n = v) (k : am_W E C Q μ cl sl (pc + 1) ls (.int v :: st)) : am_W E C Q μ cl sl pc ls (st) := fun H locs la hA hS hl => lv_iconst fx.1 fx.2.1 hd hv (k H locs la hA hS hl)
theorem am_bipush (fx : am_F E C cc own nL ret R) {n : Int} {v : Int32} (hd : decode cc pc = .ok (.bipush n, 2)) (hv : (Int8.ofInt n).toInt32 = v) (k : am_W E C Q μ cl sl (pc + 2) ls (.int v :: st)) : am_W E C Q μ cl sl pc ls (st) := fun H locs la hA hS hl => lv_bipush fx.1 fx.2.1 hd hv (k H locs la hA hS hl)
theorem am_sipush (fx : am_F E C cc own nL ret R) {n : Int} {v : Int32} (hd : decode cc pc = .ok (.sipush n, 3)) (hv : (Int16.ofInt n).toInt32 = v) (k : am_W E C Q μ cl sl (pc + 3) ls (.int v :: st)) : am_W E C Q μ cl sl pc ls (st) := fun H locs la hA hS hl => lv_sipush fx.1 fx.2.1 hd hv (k H locs la hA hS hl)
theorem am_lconst (fx : am_F E C cc own nL ret R) {n : Fin 2} {v : Int64} (hd : decode cc pc = .ok (.lconst n, 1)) (hv : Int64.ofNat (n : Nat) = v) (k : am_W E C Q μ cl sl (pc + 1) ls (.long v :: st)) : am_W E C Q μ cl sl pc ls (st) := fun H locs la hA hS hl => lv_lconst fx.1 fx.2.1 hd hv (k H locs la hA hS hl)
theorem am_null (fx : am_F E C cc own nL ret R)  (hd : decode cc pc = .ok (.aconst_null, 1)) (k : am_W E C Q μ cl sl (pc + 1) ls (.null :: st)) : am_W E C Q μ cl sl pc ls (st) := fun H locs la hA hS hl => lv_null fx.1 fx.2.1 hd  (k H locs la hA hS hl)
theorem am_iload_n (fx : am_F E C cc own nL ret R) {k : Fin 4} {x : Int32} (hd : decode cc pc = .ok (.iload_n k, 1)) (hx : ls[(k : Nat)]? = some (some (.int x))) (kk : am_W E C Q μ cl sl (pc + 1) ls (.int x :: st)) : am_W E C Q μ cl sl pc ls st := fun H locs la hA hS hl => lv_iload_n fx.1 fx.2.1 hd rfl (hl.2.2 _ _ hx) (kk H locs la hA hS hl)
theorem am_iload (fx : am_F E C cc own nL ret R) {i : Nat} {x : Int32} (hd : decode cc pc = .ok (.iload i, 2)) (hx : ls[i]? = some (some (.int x))) (kk : am_W E C Q μ cl sl (pc + 2) ls (.int x :: st)) : am_W E C Q μ cl sl pc ls st := fun H locs la hA hS hl => lv_iload fx.1 fx.2.1 hd (hl.2.2 _ _ hx) (kk H locs la hA hS hl)
theorem am_istore_n (fx : am_F E C cc own nL ret R) {k : Fin 4} {x : Int32} (hd : decode cc pc = .ok (.istore_n k, 1)) (hn : (k : Nat) < nL) (hk : am_ok1 ls (k : Nat) = true) (kk : am_W E C Q μ cl sl (pc + 1) (ls.set (k : Nat) (some (.int x))) st) : am_W E C Q μ cl sl pc ls (.int x :: st) := fun H locs la hA hS hl => lv_istore_n fx.1 fx.2.1 hd rfl hl.has (by rw [fx.2.2.1]; exact hn) rfl (fun ls' h' => kk H locs ls' hA hS (am_ls.st1 (v := .int x) hk rfl h'))
theorem am_istore (fx : am_F E C cc own nL ret R) {i : Nat} {x : Int32} (hd : decode cc pc = .ok (.istore i, 2)) (hn : i < nL) (hk : am_ok1 ls i = true) (kk : am_W E C Q μ cl sl (pc + 2) (ls.set i (some (.int x))) st) : am_W E C Q μ cl sl pc ls (.int x :: st) := fun H locs la hA hS hl => lv_istore fx.1 fx.2.1 hd hl.has (by rw [fx.2.2.1]; exact hn) rfl (fun ls' h' => kk H locs ls' hA hS (am_ls.st1 (v := .int x) hk rfl h'))
theorem am_lload_n (fx : am_F E C cc own nL ret R) {k : Fin 4} {x : Int64} (hd : decode cc pc = .ok (.lload_n k, 1)) (hx : ls[(k : Nat)]? = some (some (.long x))) (kk : am_W E C Q μ cl sl (pc + 1) ls (.long x :: st)) : am_W E C Q μ cl sl pc ls st := fun H locs la hA hS hl => lv_lload_n fx.1 fx.2.1 hd rfl (hl.2.2 _ _ hx) (kk H locs la hA hS hl)
theorem am_lload (fx : am_F E C cc own nL ret R) {i : Nat} {x : Int64} (hd : decode cc pc = .ok (.lload i, 2)) (hx : ls[i]? = some (some (.long x))) (kk : am_W E C Q μ cl sl (pc + 2) ls (.long x :: st)) : am_W E C Q μ cl sl pc ls st := fun H locs la hA hS hl => lv_lload fx.1 fx.2.1 hd (hl.2.2 _ _ hx) (kk H locs la hA hS hl)
theorem am_lstore_n (fx : am_F E C cc own nL ret R) {k : Fin 4} {x : Int64} (hd : decode cc pc = .ok (.lstore_n k, 1)) (hn : (k : Nat) + 1 < nL) (hk : am_ok1 ls (k : Nat) = true) (kk : am_W E C Q μ cl sl (pc + 1) ((ls.set (k : Nat) (some (.long x))).set ((k : Nat) + 1) none) st) : am_W E C Q μ cl sl pc ls (.long x :: st) := fun H locs la hA hS hl => lv_lstore_n fx.1 fx.2.1 hd rfl hl.has (by rw [fx.2.2.1]; exact hn) rfl (fun ls' h' => kk H locs ls' hA hS (am_ls.st2 (v := .long x) hk rfl h'))
theorem am_lstore (fx : am_F E C cc own nL ret R) {i : Nat} {x : Int64} (hd : decode cc pc = .ok (.lstore i, 2)) (hn : i + 1 < nL) (hk : am_ok1 ls i = true) (kk : am_W E C Q μ cl sl (pc + 2) ((ls.set i (some (.long x))).set (i + 1) none) st) : am_W E C Q μ cl sl pc ls (.long x :: st) := fun H locs la hA hS hl => lv_lstore fx.1 fx.2.1 hd hl.has (by rw [fx.2.2.1]; exact hn) rfl (fun ls' h' => kk H locs ls' hA hS (am_ls.st2 (v := .long x) hk rfl h'))
theorem am_aload_n (fx : am_F E C cc own nL ret R) {k : Fin 4} {x : Nat} (hd : decode cc pc = .ok (.aload_n k, 1)) (hx : ls[(k : Nat)]? = some (some (.ref x))) (kk : am_W E C Q μ cl sl (pc + 1) ls (.ref x :: st)) : am_W E C Q μ cl sl pc ls st := fun H locs la hA hS hl => lv_aload_n fx.1 fx.2.1 hd rfl (hl.2.2 _ _ hx) (kk H locs la hA hS hl)
theorem am_aload (fx : am_F E C cc own nL ret R) {i : Nat} {x : Nat} (hd : decode cc pc = .ok (.aload i, 2)) (hx : ls[i]? = some (some (.ref x))) (kk : am_W E C Q μ cl sl (pc + 2) ls (.ref x :: st)) : am_W E C Q μ cl sl pc ls st := fun H locs la hA hS hl => lv_aload fx.1 fx.2.1 hd (hl.2.2 _ _ hx) (kk H locs la hA hS hl)
theorem am_astore_n (fx : am_F E C cc own nL ret R) {k : Fin 4} {x : Nat} (hd : decode cc pc = .ok (.astore_n k, 1)) (hn : (k : Nat) < nL) (hk : am_ok1 ls (k : Nat) = true) (kk : am_W E C Q μ cl sl (pc + 1) (ls.set (k : Nat) (some (.ref x))) st) : am_W E C Q μ cl sl pc ls (.ref x :: st) := fun H locs la hA hS hl => lv_astore_n fx.1 fx.2.1 hd rfl hl.has (by rw [fx.2.2.1]; exact hn) rfl (fun ls' h' => kk H locs ls' hA hS (am_ls.st1 (v := .ref x) hk rfl h'))
theorem am_astore (fx : am_F E C cc own nL ret R) {i : Nat} {x : Nat} (hd : decode cc pc = .ok (.astore i, 2)) (hn : i < nL) (hk : am_ok1 ls i = true) (kk : am_W E C Q μ cl sl (pc + 2) (ls.set i (some (.ref x))) st) : am_W E C Q μ cl sl pc ls (.ref x :: st) := fun H locs la hA hS hl => lv_astore fx.1 fx.2.1 hd hl.has (by rw [fx.2.2.1]; exact hn) rfl (fun ls' h' => kk H locs ls' hA hS (am_ls.st1 (v := .ref x) hk rfl h'))
theorem am_iinc (fx : am_F E C cc own nL ret R) {i : Nat} {n : Int} {x v : Int32} (hd : decode cc pc = .ok (.iinc i n, 3)) (hx : ls[i]? = some (some (.int x))) (hv : x + Int32.ofInt n = v) (hn : i < nL) (hk : am_ok1 ls i = true) (kk : am_W E C Q μ cl sl (pc + 3) (ls.set i (some (.int v))) st) : am_W E C Q μ cl sl pc ls st := fun H locs la hA hS hl => by
  obtain ⟨k, hkk⟩ := List.getElem?_of_mem (am_pr_in (E := E) hx)
  exact lv_iinc fx.1 fx.2.1 hd hl.has hkk hv (by rw [fx.2.2.1]; exact hn) rfl (fun ls' h' => kk H locs ls' hA hS (am_ls.st1 (v := .int v) hk rfl h'))
theorem am_iadd (fx : am_F E C cc own nL ret R) {x y : Int32} (hd : decode cc pc = .ok (.iadd, 1)) (k : am_W E C Q μ cl sl (pc + 1) ls (.int (x + y) :: st)) : am_W E C Q μ cl sl pc ls (.int y :: .int x :: st) := fun H locs la hA hS hl => lv_iadd fx.1 fx.2.1 hd  (k H locs la hA hS hl)
theorem am_isub (fx : am_F E C cc own nL ret R) {x y : Int32} (hd : decode cc pc = .ok (.isub, 1)) (k : am_W E C Q μ cl sl (pc + 1) ls (.int (x - y) :: st)) : am_W E C Q μ cl sl pc ls (.int y :: .int x :: st) := fun H locs la hA hS hl => lv_isub fx.1 fx.2.1 hd  (k H locs la hA hS hl)
theorem am_imul (fx : am_F E C cc own nL ret R) {x y : Int32} (hd : decode cc pc = .ok (.imul, 1)) (k : am_W E C Q μ cl sl (pc + 1) ls (.int (x * y) :: st)) : am_W E C Q μ cl sl pc ls (.int y :: .int x :: st) := fun H locs la hA hS hl => lv_imul fx.1 fx.2.1 hd  (k H locs la hA hS hl)
theorem am_iand (fx : am_F E C cc own nL ret R) {x y : Int32} (hd : decode cc pc = .ok (.iand, 1)) (k : am_W E C Q μ cl sl (pc + 1) ls (.int (x &&& y) :: st)) : am_W E C Q μ cl sl pc ls (.int y :: .int x :: st) := fun H locs la hA hS hl => lv_iand fx.1 fx.2.1 hd  (k H locs la hA hS hl)
theorem am_ior (fx : am_F E C cc own nL ret R) {x y : Int32} (hd : decode cc pc = .ok (.ior, 1)) (k : am_W E C Q μ cl sl (pc + 1) ls (.int (x ||| y) :: st)) : am_W E C Q μ cl sl pc ls (.int y :: .int x :: st) := fun H locs la hA hS hl => lv_ior fx.1 fx.2.1 hd  (k H locs la hA hS hl)
theorem am_ixor (fx : am_F E C cc own nL ret R) {x y : Int32} (hd : decode cc pc = .ok (.ixor, 1)) (k : am_W E C Q μ cl sl (pc + 1) ls (.int (x ^^^ y) :: st)) : am_W E C Q μ cl sl pc ls (.int y :: .int x :: st) := fun H locs la hA hS hl => lv_ixor fx.1 fx.2.1 hd  (k H locs la hA hS hl)
theorem am_ishl (fx : am_F E C cc own nL ret R) {x y : Int32} (hd : decode cc pc = .ok (.ishl, 1)) (k : am_W E C Q μ cl sl (pc + 1) ls (.int (x <<< (y &&& 31)) :: st)) : am_W E C Q μ cl sl pc ls (.int y :: .int x :: st) := fun H locs la hA hS hl => lv_ishl fx.1 fx.2.1 hd  (k H locs la hA hS hl)
theorem am_ishr (fx : am_F E C cc own nL ret R) {x y : Int32} (hd : decode cc pc = .ok (.ishr, 1)) (k : am_W E C Q μ cl sl (pc + 1) ls (.int (x >>> (y &&& 31)) :: st)) : am_W E C Q μ cl sl pc ls (.int y :: .int x :: st) := fun H locs la hA hS hl => lv_ishr fx.1 fx.2.1 hd  (k H locs la hA hS hl)
theorem am_idiv (fx : am_F E C cc own nL ret R) {x y : Int32} (hd : decode cc pc = .ok (.idiv, 1)) (hne : ¬ y = 0) (k : am_W E C Q μ cl sl (pc + 1) ls (.int (x / y) :: st)) : am_W E C Q μ cl sl pc ls (.int y :: .int x :: st) := fun H locs la hA hS hl => lv_idiv fx.1 fx.2.1 hd hne (k H locs la hA hS hl)
theorem am_irem (fx : am_F E C cc own nL ret R) {x y : Int32} (hd : decode cc pc = .ok (.irem, 1)) (hne : ¬ y = 0) (k : am_W E C Q μ cl sl (pc + 1) ls (.int (x - x / y * y) :: st)) : am_W E C Q μ cl sl pc ls (.int y :: .int x :: st) := fun H locs la hA hS hl => lv_irem fx.1 fx.2.1 hd hne (k H locs la hA hS hl)
theorem am_ldiv (fx : am_F E C cc own nL ret R) {x y : Int64} (hd : decode cc pc = .ok (.ldiv, 1)) (hne : ¬ y = 0) (k : am_W E C Q μ cl sl (pc + 1) ls (.long (x / y) :: st)) : am_W E C Q μ cl sl pc ls (.long y :: .long x :: st) := fun H locs la hA hS hl => lv_ldiv fx.1 fx.2.1 hd hne (k H locs la hA hS hl)
theorem am_lrem (fx : am_F E C cc own nL ret R) {x y : Int64} (hd : decode cc pc = .ok (.lrem, 1)) (hne : ¬ y = 0) (k : am_W E C Q μ cl sl (pc + 1) ls (.long (x - x / y * y) :: st)) : am_W E C Q μ cl sl pc ls (.long y :: .long x :: st) := fun H locs la hA hS hl => lv_lrem fx.1 fx.2.1 hd hne (k H locs la hA hS hl)
theorem am_ineg (fx : am_F E C cc own nL ret R) {x : Int32} (hd : decode cc pc = .ok (.ineg, 1)) (k : am_W E C Q μ cl sl (pc + 1) ls (.int (-x) :: st)) : am_W E C Q μ cl sl pc ls (.int x :: st) := fun H locs la hA hS hl => lv_ineg fx.1 fx.2.1 hd  (k H locs la hA hS hl)
theorem am_ladd (fx : am_F E C cc own nL ret R) {x y : Int64} (hd : decode cc pc = .ok (.ladd, 1)) (k : am_W E C Q μ cl sl (pc + 1) ls (.long (x + y) :: st)) : am_W E C Q μ cl sl pc ls (.long y :: .long x :: st) := fun H locs la hA hS hl => lv_ladd fx.1 fx.2.1 hd  (k H locs la hA hS hl)
theorem am_lmul (fx : am_F E C cc own nL ret R) {x y : Int64} (hd : decode cc pc = .ok (.lmul, 1)) (k : am_W E C Q μ cl sl (pc + 1) ls (.long (x * y) :: st)) : am_W E C Q μ cl sl pc ls (.long y :: .long x :: st) := fun H locs la hA hS hl => lv_lmul fx.1 fx.2.1 hd  (k H locs la hA hS hl)
theorem am_iushr (fx : am_F E C cc own nL ret R) {x y v : Int32} (hd : decode cc pc = .ok (.iushr, 1)) (hv : (x.toUInt32 >>> (y.toUInt32 &&& Int32.toUInt32 31)).toInt32 = v) (k : am_W E C Q μ cl sl (pc + 1) ls (.int v :: st)) : am_W E C Q μ cl sl pc ls (.int y :: .int x :: st) := fun H locs la hA hS hl => lv_iushr fx.1 fx.2.1 hd hv (k H locs la hA hS hl)
theorem am_lshl (fx : am_F E C cc own nL ret R) {x v : Int64} {y : Int32} (hd : decode cc pc = .ok (.lshl, 1)) (hv : x <<< (y.toInt64 &&& 63) = v) (k : am_W E C Q μ cl sl (pc + 1) ls (.long v :: st)) : am_W E C Q μ cl sl pc ls (.int y :: .long x :: st) := fun H locs la hA hS hl => lv_lshl fx.1 fx.2.1 hd hv (k H locs la hA hS hl)
theorem am_i2l (fx : am_F E C cc own nL ret R) {x : Int32} {v : Int64} (hd : decode cc pc = .ok (.i2l, 1)) (hv : x.toInt64 = v) (k : am_W E C Q μ cl sl (pc + 1) ls (.long v :: st)) : am_W E C Q μ cl sl pc ls (.int x :: st) := fun H locs la hA hS hl => lv_i2l fx.1 fx.2.1 hd hv (k H locs la hA hS hl)
theorem am_lcmp (fx : am_F E C cc own nL ret R) {x y : Int64} (hd : decode cc pc = .ok (.lcmp, 1)) (k : am_W E C Q μ cl sl (pc + 1) ls (.int (lg_cmp x y) :: st)) : am_W E C Q μ cl sl pc ls (.long y :: .long x :: st) := fun H locs la hA hS hl => W.lcmp fx.1 fx.2.1 hd  (k H locs la hA hS hl)
theorem am_dup_int (fx : am_F E C cc own nL ret R) {x : Int32} (hd : decode cc pc = .ok (.dup, 1)) (k : am_W E C Q μ cl sl (pc + 1) ls (.int x :: .int x :: st)) : am_W E C Q μ cl sl pc ls (.int x :: st) := fun H locs la hA hS hl => lv_dup fx.1 fx.2.1 hd rfl (k H locs la hA hS hl)
theorem am_dup_ref (fx : am_F E C cc own nL ret R) {x : Nat} (hd : decode cc pc = .ok (.dup, 1)) (k : am_W E C Q μ cl sl (pc + 1) ls (.ref x :: .ref x :: st)) : am_W E C Q μ cl sl pc ls (.ref x :: st) := fun H locs la hA hS hl => lv_dup fx.1 fx.2.1 hd rfl (k H locs la hA hS hl)
theorem am_dup2 (fx : am_F E C cc own nL ret R) {x : Int32} {a : Nat} (hd : decode cc pc = .ok (.dup2, 1)) (k : am_W E C Q μ cl sl (pc + 1) ls (.int x :: .ref a :: .int x :: .ref a :: st)) : am_W E C Q μ cl sl pc ls (.int x :: .ref a :: st) := fun H locs la hA hS hl => lv_dup2_11 fx.1 fx.2.1 hd rfl rfl (k H locs la hA hS hl)
theorem am_if_eq (fx : am_F E C cc own nL ret R) {x : Int32} {off : Int} (tgt : Nat) (hd : decode cc pc = .ok (.ifCond .eq off, 3)) (ht : (pc : Int) + off = (tgt : Int)) (kt : x = 0 → am_W E C Q μ cl sl tgt ls st) (kf : ¬ (x = 0) → am_W E C Q μ cl sl (pc + 3) ls st) : am_W E C Q μ cl sl pc ls (.int x :: st) := fun H locs la hA hS hl => lv_if_eq fx.1 fx.2.1 hd ht (fun q => kt q H locs la hA hS hl) (fun q => kf q H locs la hA hS hl)
theorem am_icmp_eq (fx : am_F E C cc own nL ret R) {x y : Int32} {off : Int} (tgt : Nat) (hd : decode cc pc = .ok (.if_icmp .eq off, 3)) (ht : (pc : Int) + off = (tgt : Int)) (kt : x = y → am_W E C Q μ cl sl tgt ls st) (kf : ¬ (x = y) → am_W E C Q μ cl sl (pc + 3) ls st) : am_W E C Q μ cl sl pc ls (.int y :: .int x :: st) := fun H locs la hA hS hl => lv_icmp_eq fx.1 fx.2.1 hd ht (fun q => kt q H locs la hA hS hl) (fun q => kf q H locs la hA hS hl)
theorem am_if_ne (fx : am_F E C cc own nL ret R) {x : Int32} {off : Int} (tgt : Nat) (hd : decode cc pc = .ok (.ifCond .ne off, 3)) (ht : (pc : Int) + off = (tgt : Int)) (kt : ¬ x = 0 → am_W E C Q μ cl sl tgt ls st) (kf : x = 0 → am_W E C Q μ cl sl (pc + 3) ls st) : am_W E C Q μ cl sl pc ls (.int x :: st) := fun H locs la hA hS hl => lv_if_ne fx.1 fx.2.1 hd ht (fun q => kt q H locs la hA hS hl) (fun q => kf q H locs la hA hS hl)
theorem am_icmp_ne (fx : am_F E C cc own nL ret R) {x y : Int32} {off : Int} (tgt : Nat) (hd : decode cc pc = .ok (.if_icmp .ne off, 3)) (ht : (pc : Int) + off = (tgt : Int)) (kt : ¬ x = y → am_W E C Q μ cl sl tgt ls st) (kf : x = y → am_W E C Q μ cl sl (pc + 3) ls st) : am_W E C Q μ cl sl pc ls (.int y :: .int x :: st) := fun H locs la hA hS hl => lv_icmp_ne fx.1 fx.2.1 hd ht (fun q => kt q H locs la hA hS hl) (fun q => kf q H locs la hA hS hl)
theorem am_if_lt (fx : am_F E C cc own nL ret R) {x : Int32} {off : Int} (tgt : Nat) (hd : decode cc pc = .ok (.ifCond .lt off, 3)) (ht : (pc : Int) + off = (tgt : Int)) (kt : x < 0 → am_W E C Q μ cl sl tgt ls st) (kf : ¬ (x < 0) → am_W E C Q μ cl sl (pc + 3) ls st) : am_W E C Q μ cl sl pc ls (.int x :: st) := fun H locs la hA hS hl => lv_if_lt fx.1 fx.2.1 hd ht (fun q => kt q H locs la hA hS hl) (fun q => kf q H locs la hA hS hl)
theorem am_icmp_lt (fx : am_F E C cc own nL ret R) {x y : Int32} {off : Int} (tgt : Nat) (hd : decode cc pc = .ok (.if_icmp .lt off, 3)) (ht : (pc : Int) + off = (tgt : Int)) (kt : x < y → am_W E C Q μ cl sl tgt ls st) (kf : ¬ (x < y) → am_W E C Q μ cl sl (pc + 3) ls st) : am_W E C Q μ cl sl pc ls (.int y :: .int x :: st) := fun H locs la hA hS hl => lv_icmp_lt fx.1 fx.2.1 hd ht (fun q => kt q H locs la hA hS hl) (fun q => kf q H locs la hA hS hl)
theorem am_if_ge (fx : am_F E C cc own nL ret R) {x : Int32} {off : Int} (tgt : Nat) (hd : decode cc pc = .ok (.ifCond .ge off, 3)) (ht : (pc : Int) + off = (tgt : Int)) (kt : 0 ≤ x → am_W E C Q μ cl sl tgt ls st) (kf : ¬ (0 ≤ x) → am_W E C Q μ cl sl (pc + 3) ls st) : am_W E C Q μ cl sl pc ls (.int x :: st) := fun H locs la hA hS hl => lv_if_ge fx.1 fx.2.1 hd ht (fun q => kt q H locs la hA hS hl) (fun q => kf q H locs la hA hS hl)
theorem am_icmp_ge (fx : am_F E C cc own nL ret R) {x y : Int32} {off : Int} (tgt : Nat) (hd : decode cc pc = .ok (.if_icmp .ge off, 3)) (ht : (pc : Int) + off = (tgt : Int)) (kt : y ≤ x → am_W E C Q μ cl sl tgt ls st) (kf : ¬ (y ≤ x) → am_W E C Q μ cl sl (pc + 3) ls st) : am_W E C Q μ cl sl pc ls (.int y :: .int x :: st) := fun H locs la hA hS hl => lv_icmp_ge fx.1 fx.2.1 hd ht (fun q => kt q H locs la hA hS hl) (fun q => kf q H locs la hA hS hl)
theorem am_if_gt (fx : am_F E C cc own nL ret R) {x : Int32} {off : Int} (tgt : Nat) (hd : decode cc pc = .ok (.ifCond .gt off, 3)) (ht : (pc : Int) + off = (tgt : Int)) (kt : 0 < x → am_W E C Q μ cl sl tgt ls st) (kf : ¬ (0 < x) → am_W E C Q μ cl sl (pc + 3) ls st) : am_W E C Q μ cl sl pc ls (.int x :: st) := fun H locs la hA hS hl => lv_if_gt fx.1 fx.2.1 hd ht (fun q => kt q H locs la hA hS hl) (fun q => kf q H locs la hA hS hl)
theorem am_icmp_gt (fx : am_F E C cc own nL ret R) {x y : Int32} {off : Int} (tgt : Nat) (hd : decode cc pc = .ok (.if_icmp .gt off, 3)) (ht : (pc : Int) + off = (tgt : Int)) (kt : y < x → am_W E C Q μ cl sl tgt ls st) (kf : ¬ (y < x) → am_W E C Q μ cl sl (pc + 3) ls st) : am_W E C Q μ cl sl pc ls (.int y :: .int x :: st) := fun H locs la hA hS hl => lv_icmp_gt fx.1 fx.2.1 hd ht (fun q => kt q H locs la hA hS hl) (fun q => kf q H locs la hA hS hl)
theorem am_if_le (fx : am_F E C cc own nL ret R) {x : Int32} {off : Int} (tgt : Nat) (hd : decode cc pc = .ok (.ifCond .le off, 3)) (ht : (pc : Int) + off = (tgt : Int)) (kt : x ≤ 0 → am_W E C Q μ cl sl tgt ls st) (kf : ¬ (x ≤ 0) → am_W E C Q μ cl sl (pc + 3) ls st) : am_W E C Q μ cl sl pc ls (.int x :: st) := fun H locs la hA hS hl => lv_if_le fx.1 fx.2.1 hd ht (fun q => kt q H locs la hA hS hl) (fun q => kf q H locs la hA hS hl)
theorem am_icmp_le (fx : am_F E C cc own nL ret R) {x y : Int32} {off : Int} (tgt : Nat) (hd : decode cc pc = .ok (.if_icmp .le off, 3)) (ht : (pc : Int) + off = (tgt : Int)) (kt : x ≤ y → am_W E C Q μ cl sl tgt ls st) (kf : ¬ (x ≤ y) → am_W E C Q μ cl sl (pc + 3) ls st) : am_W E C Q μ cl sl pc ls (.int y :: .int x :: st) := fun H locs la hA hS hl => lv_icmp_le fx.1 fx.2.1 hd ht (fun q => kt q H locs la hA hS hl) (fun q => kf q H locs la hA hS hl)
theorem am_goto (fx : am_F E C cc own nL ret R) {off : Int} (tgt : Nat) (hd : decode cc pc = .ok (.goto off, 3)) (ht : (pc : Int) + off = (tgt : Int)) (k : am_W E C Q μ cl sl tgt ls st) : am_W E C Q μ cl sl pc ls st := fun H locs la hA hS hl => lv_goto fx.1 fx.2.1 hd ht (k H locs la hA hS hl)
theorem am_ifnull (fx : am_F E C cc own nL ret R) {x : Nat} {off : Int} (hd : decode cc pc = .ok (.ifnull off, 3)) (k : am_W E C Q μ cl sl (pc + 3) ls st) : am_W E C Q μ cl sl pc ls (.ref x :: st) := fun H locs la hA hS hl => lv_ifnull fx.1 fx.2.1 hd (k H locs la hA hS hl)
theorem am_ifnullN (fx : am_F E C cc own nL ret R) {off : Int} (tgt : Nat) (hd : decode cc pc = .ok (.ifnull off, 3)) (ht : (pc : Int) + off = (tgt : Int)) (k : am_W E C Q μ cl sl tgt ls st) : am_W E C Q μ cl sl pc ls (.null :: st) := fun H locs la hA hS hl => lv_ifnullN fx.1 fx.2.1 hd ht (k H locs la hA hS hl)
theorem am_ifnonnull (fx : am_F E C cc own nL ret R) {x : Nat} {off : Int} (tgt : Nat) (hd : decode cc pc = .ok (.ifnonnull off, 3)) (ht : (pc : Int) + off = (tgt : Int)) (k : am_W E C Q μ cl sl tgt ls st) : am_W E C Q μ cl sl pc ls (.ref x :: st) := fun H locs la hA hS hl => lv_ifnonnull fx.1 fx.2.1 hd ht (k H locs la hA hS hl)
theorem am_ifnonnullN (fx : am_F E C cc own nL ret R) {off : Int} (hd : decode cc pc = .ok (.ifnonnull off, 3)) (k : am_W E C Q μ cl sl (pc + 3) ls st) : am_W E C Q μ cl sl pc ls (.null :: st) := fun H locs la hA hS hl => lv_ifnonnullN fx.1 fx.2.1 hd (k H locs la hA hS hl)
theorem am_ldc (fx : am_F E C cc own nL ret R) {idx : Nat} {v : Int32} (hd : decode cc pc = .ok (.ldc idx, 2)) (hw : Cond.constant own idx v ∈ am_G) (k : am_W E C Q μ cl sl (pc + 2) ls (.int v :: st)) : am_W E C Q μ cl sl pc ls st := fun H locs la hA hS hl => lv_ldc fx.1 fx.2.1 fx.2.2.2.1 (fx.2.2.2.2.1 _ hw) hd (k H locs la hA hS hl)
theorem am_ldc2 (fx : am_F E C cc own nL ret R) {idx : Nat} {v : Int64} (hd : decode cc pc = .ok (.ldc2_w idx, 3)) (hw : Cond.constantLong own idx v ∈ am_G) (k : am_W E C Q μ cl sl (pc + 3) ls (.long v :: st)) : am_W E C Q μ cl sl pc ls st := fun H locs la hA hS hl => lv_ldc2 fx.1 fx.2.1 fx.2.2.2.1 (fx.2.2.2.2.1 _ hw) hd (k H locs la hA hS hl)
theorem am_tabIn (fx : am_F E C cc own nL ret R) {dflt lo hi : Int} {offs : Array Int} {len : Nat} {x : Int32} {off : Int} (tgt : Nat) (hd : decode cc pc = .ok (.tableswitch dflt lo hi offs, len)) (h1 : ¬ x.toInt < lo) (h2 : ¬ hi < x.toInt) (ho : offs[(x.toInt - lo).toNat]? = some off) (ht : (pc : Int) + off = (tgt : Int)) (k : am_W E C Q μ cl sl tgt ls st) : am_W E C Q μ cl sl pc ls (.int x :: st) := fun H locs la hA hS hl => lv_tableIn fx.1 fx.2.1 hd h1 h2 ho ht (k H locs la hA hS hl)
theorem am_tabOut (fx : am_F E C cc own nL ret R) {dflt lo hi : Int} {offs : Array Int} {len : Nat} {x : Int32} (tgt : Nat) (hd : decode cc pc = .ok (.tableswitch dflt lo hi offs, len)) (h : x.toInt < lo ∨ hi < x.toInt) (ht : (pc : Int) + dflt = (tgt : Int)) (k : am_W E C Q μ cl sl tgt ls st) : am_W E C Q μ cl sl pc ls (.int x :: st) := fun H locs la hA hS hl => lv_tableOut fx.1 fx.2.1 hd h ht (k H locs la hA hS hl)
/-- a name for what lies on the stack -/
theorem am_topi {x y : Int32} (h : x = y) (k : am_W E C Q μ cl sl pc ls (.int y :: st)) : am_W E C Q μ cl sl pc ls (.int x :: st) := h ▸ k
theorem am_topl {x y : Int64} (h : x = y) (k : am_W E C Q μ cl sl pc ls (.long y :: st)) : am_W E C Q μ cl sl pc ls (.long x :: st) := h ▸ k
end AMR
end
section
/-! the rules that speak of cells -/
theorem am_inC {ci : Nat} (h : ci < 8) : ∀ w ∈ u_ws (am_cl ci).1 (am_cl ci).2.1 (am_cl ci).2.2, w ∈ am_G := by
  rcases (show ci = 0 ∨ ci = 1 ∨ ci = 2 ∨ ci = 3 ∨ ci = 4 ∨ ci = 5 ∨ ci = 6 ∨ ci = 7 by omega) with rfl | rfl | rfl | rfl | rfl | rfl | rfl | rfl <;> decide +kernel
theorem am_tyC {ci : Nat} (h : ci < 8) : ∀ k, k < (am_cl ci).2.2 → parseFieldDescriptor ((am_cl ci).2.1 k).2.2.1 = some (am_ty ci k) := by
  rcases (show ci = 0 ∨ ci = 1 ∨ ci = 2 ∨ ci = 3 ∨ ci = 4 ∨ ci = 5 ∨ ci = 6 ∨ ci = 7 by omega) with rfl | rfl | rfl | rfl | rfl | rfl | rfl | rfl
  · exact tyX0_ok
  · exact tyX1_ok
  · exact tyX2_ok
  · exact tyX3_ok
  · exact tyX4_ok
  · exact tyX5_ok
  · exact tyX6_ok
  · exact tyX7_ok
theorem am_nmC {ci : Nat} (h : ci < 8) : ∀ a, a < (am_cl ci).2.2 → ∀ b, b < (am_cl ci).2.2 → a ≠ b → ((am_cl ci).2.1 a).2.1 ≠ ((am_cl ci).2.1 b).2.1 := by
  rcases (show ci = 0 ∨ ci = 1 ∨ ci = 2 ∨ ci = 3 ∨ ci = 4 ∨ ci = 5 ∨ ci = 6 ∨ ci = 7 by omega) with rfl | rfl | rfl | rfl | rfl | rfl | rfl | rfl
  · exact nmX0
  · exact nmX1
  · exact nmX2
  · exact nmX3
  · exact nmX4
  · exact nmX5
  · exact nmX6
  · exact nmX7
/-- entry idx of own's pool is field k of class ci -/
def am_lk (own : String) (idx ci k : Nat) : Prop := Cond.fieldLink own idx ((am_cl ci).2.1 k).1 ((am_cl ci).2.1 k).2.1 ((am_cl ci).2.1 k).2.2.1 ∈ am_G ∨ ∃ host, Cond.fieldLinkNest own idx ((am_cl ci).2.1 k).1 ((am_cl ci).2.1 k).2.1 ((am_cl ci).2.1 k).2.2.1 host ∈ am_N
theorem am_Ag.put {E : am_E} {μ μ' : am_M} {H H1 : Heap} {n : Nat} (h : am_Ag E μ H) (hn : (mm_S μ n).1 < 12) (hS : ∀ a, mm_S μ' a = mm_S μ a) (hZ : mm_Z μ' = mm_Z μ) (ho : ∀ a, a ≠ n → ∀ k, mm_I μ' a k = mm_I μ a k ∧ mm_L μ' a k = mm_L μ a k ∧ mm_R μ' a k = mm_R μ a k) (hat : am_at E μ' H1 n) (hz : H1.size = H.size) (oq : ∀ q, q ≠ am_rho E n → H1[q]? = H[q]?) : am_Ag E μ' H1 := by
  refine ⟨by rw [hz, hZ]; exact h.1, by rw [hZ]; exact h.2.1, fun a => ?_⟩
  by_cases ha : a = n
  · subst ha; exact hat
  · exact (h.2.2 a).kept (hS a) (fun k => (ho a ha k).1) (fun k => (ho a ha k).2.1) (fun k => (ho a ha k).2.2) (fun h12 => oq _ (fun e => ha (am_rho_inj ((h.2.2 a).1 h12) ((h.2.2 n).1 hn) e)))
section AMH
variable {E : am_E} {C : am_C} {cc : ByteArray} {own : String} {nL : Nat} {ret : Option FieldType} {R : Room} {Q : State → Prop} {μ : am_M} {cl sl pc : Nat} {ls : List (Option Value)} {st : List Value}
theorem am_getV (fx : am_F E C cc own nL ret R) {n ci k idx : Nat} {w : Value} (hd : decode cc pc = .ok (.getfield idx, 3)) (lk : am_lk own idx ci k) (hc : ci < 8) (hk : k < (am_cl ci).2.2) (hs : (mm_S μ n).1 = ci) (hw : am_tr E w = am_fv E μ n k) (kk : am_W E C Q μ cl sl (pc + 3) ls (w :: st)) : am_W E C Q μ cl sl pc ls (.ref n :: st) := by
  intro H locs la hA hS hl
  have hat := (hA.2.2 n).2.1 (by rw [hs]; exact hc)
  rw [hs] at hat
  obtain ⟨cell, q1, q2, q3, q4⟩ := hat
  obtain ⟨hSl, hfc, kC, hkC, hkind⟩ := fx.2.2.2.2.2.1.1.1 ci _ (am_cl_at hc)
  obtain ⟨cf, kf, fi, f, hi, hsl⟩ := hSl k hk
  have hst := (u_facts hfc hkC (u_lays fx.2.2.2.2.1 (am_inC hc) hk) hi).1
  have hv : cell.slots[f.slot]? = some (am_tr E w) := by rw [hsl, q4 k hk, hw]
  rcases lk with hlk | ⟨host, hlk⟩
  · exact W.getf fx.1 fx.2.1 fx.2.2.2.1 (fx.2.2.2.2.1 _ hlk) hi hst q1 (by rw [q3]; exact fun h => by cases h) hv rfl rfl hd (kk H locs la hA hS hl)
  · exact va_Wgetf fx.1 fx.2.1 fx.2.2.2.1 (va_Nw.use rfl (fx.2.2.2.2.2.1.2.1 _ hlk)) hi hst q1 (by rw [q3]; exact fun h => by cases h) hv rfl rfl hd (kk H locs la hA hS hl)
theorem am_getI (fx : am_F E C cc own nL ret R) {n ci k idx : Nat} (hd : decode cc pc = .ok (.getfield idx, 3)) (lk : am_lk own idx ci k) (hc : ci < 8) (hk : k < (am_cl ci).2.2) (ht : am_ty ci k = .int) (hs : (mm_S μ n).1 = ci) {x : Int32} (hx : mm_I μ n k = x) (kk : am_W E C Q μ cl sl (pc + 3) ls (.int x :: st)) : am_W E C Q μ cl sl pc ls (.ref n :: st) :=
  am_getV fx hd lk hc hk hs (by simp only [am_fv, hs, ht, am_tr, hx]) kk
theorem am_getL (fx : am_F E C cc own nL ret R) {n ci k idx : Nat} (hd : decode cc pc = .ok (.getfield idx, 3)) (lk : am_lk own idx ci k) (hc : ci < 8) (hk : k < (am_cl ci).2.2) (ht : am_ty ci k = .long) (hs : (mm_S μ n).1 = ci) {x : Int64} (hx : mm_L μ n k = x) (kk : am_W E C Q μ cl sl (pc + 3) ls (.long x :: st)) : am_W E C Q μ cl sl pc ls (.ref n :: st) :=
  am_getV fx hd lk hc hk hs (by simp only [am_fv, hs, ht, am_tr, hx]) kk
def am_isR : FieldType → Bool
  | .object _ => true
  | .array _ => true
  | _ => false
theorem am_fvR {E : am_E} {μ : am_M} {n k : Nat} (ht : am_isR (am_ty (mm_S μ n).1 k) = true) : am_fv E μ n k = va_rf ((mm_R μ n k).map (am_rho E)) := by
  unfold am_fv
  revert ht
  generalize am_ty (mm_S μ n).1 k = t
  intro ht
  cases t <;> first | rfl | (cases ht)
theorem am_getR (fx : am_F E C cc own nL ret R) {n ci k idx : Nat} (hd : decode cc pc = .ok (.getfield idx, 3)) (lk : am_lk own idx ci k) (hc : ci < 8) (hk : k < (am_cl ci).2.2) (ht : am_isR (am_ty ci k) = true) (hs : (mm_S μ n).1 = ci) {a : Nat} (ha : mm_R μ n k = some a) (kk : am_W E C Q μ cl sl (pc + 3) ls (.ref a :: st)) : am_W E C Q μ cl sl pc ls (.ref n :: st) :=
  am_getV fx hd lk hc hk hs (by rw [am_fvR (by rw [hs]; exact ht), ha]; rfl) kk
theorem am_getN (fx : am_F E C cc own nL ret R) {n ci k idx : Nat} (hd : decode cc pc = .ok (.getfield idx, 3)) (lk : am_lk own idx ci k) (hc : ci < 8) (hk : k < (am_cl ci).2.2) (ht : am_isR (am_ty ci k) = true) (hs : (mm_S μ n).1 = ci) (ha : mm_R μ n k = none) (kk : am_W E C Q μ cl sl (pc + 3) ls (.null :: st)) : am_W E C Q μ cl sl pc ls (.ref n :: st) :=
  am_getV fx hd lk hc hk hs (by rw [am_fvR (by rw [hs]; exact ht), ha]; rfl) kk
theorem am_putV (fx : am_F E C cc own nL ret R) {n ci k idx : Nat} {w : Value} {μ' : am_M} (hd : decode cc pc = .ok (.putfield idx, 3)) (lk : am_lk own idx ci k) (hc : ci < 8) (hk : k < (am_cl ci).2.2) (hfin : ((am_cl ci).2.1 k).2.2.2 = false) (hs : (mm_S μ n).1 = ci) (hn : narrow (am_ty ci k) (am_tr E w) = am_tr E w) (hfit : fits (am_ty ci k) (am_tr E w) = true)
    (hSm : ∀ a, mm_S μ' a = mm_S μ a) (hZ : mm_Z μ' = mm_Z μ) (ho : ∀ a, a ≠ n → ∀ k, mm_I μ' a k = mm_I μ a k ∧ mm_L μ' a k = mm_L μ a k ∧ mm_R μ' a k = mm_R μ a k) (hv : ∀ j, am_fv E μ' n j = if j = k then am_tr E w else am_fv E μ n j) (kk : am_W E C Q μ' cl sl (pc + 3) ls st) : am_W E C Q μ cl sl pc ls (w :: .ref n :: st) := by
  intro H locs la hA hS hl
  have hat := (hA.2.2 n).2.1 (by rw [hs]; exact hc)
  rw [hs] at hat
  obtain ⟨cell, q1, q2, q3, q4⟩ := hat
  have hK := fx.2.2.2.2.2.1.1
  have hap := va_apart (own := own) fx.2.2.2.2.1 (am_inC hc) (am_ty ci) (am_tyC hc) (am_nmC hc) hK (am_cl_at hc)
  obtain ⟨hSl, hfc, kC, hkC, hkind⟩ := hK.1 ci _ (am_cl_at hc)
  obtain ⟨cf, kf, fi, f, hi, hsl⟩ := hSl k hk
  have hlay := fx.2.2.2.2.1 _ (am_inC hc _ (u_in_lay hk))
  unfold u_lay at hlay
  rw [if_neg (by rw [hfin]; decide)] at hlay
  have hst := (u_facts hfc hkC (u_lays fx.2.2.2.2.1 (am_inC hc) hk) hi).1
  have h6 := u_store hfc hkC hkind hlay hi (am_tyC hc k hk) hn hfit
  have n0 : 0 < n := (hA.2.2 n).1 (by rw [hs]; omega)
  have fin : ∀ H' : Heap, H'[am_rho E n]? = some (cell.setSlot f.slot (am_tr E w)) → H'.size = H.size → (∀ q, q ≠ am_rho E n → H'[q]? = H[q]?) → W (cx_p C) E.1 (cx_e C) (cx_R C) (cx_s C) (cx_m C) (cx_a C) (cx_b C) (cx_M C) (cx_c C) H' (locs ++ [⟨am_rho E n, f.slot⟩]) cl sl Q (F0 (cx_m C) (pc + 3) la (st.map (am_tr E))) := by
    intro H' e1 e2 e3
    rw [hsl] at e1
    refine kk H' _ la (hA.put (n := n) (by rw [hs]; omega) hSm hZ ho ?_ e2 e3) (hS.put e2 e3 (am_rho_b n0)) hl
    refine ⟨fun _ => n0, fun _ => ?_, ?_, ?_, ?_, ?_⟩
    · rw [hSm n, hs]
      refine t_OB.to (V := updV (am_fv E μ n) k (am_tr E w)) ⟨_, e1, q2, q3, t_set q4 hap hk _⟩ (fun j _ => ?_)
      rw [hv j]
      rfl
    all_goals (rw [hSm n, hs]; intro h; omega)
  rcases lk with hlk | ⟨host, hlk⟩
  · exact W.putK fx.1 fx.2.1 (f := f) ⟨fx.2.2.2.1, fx.2.2.2.2.1 _ hlk, ⟨_, _, _, hi⟩, hst⟩ (by rw [q2]; exact h6) q1 q3 (by rw [hsl]; exact k2_hasslot (q4 k hk)) rfl rfl hd fin
  · exact va_WputK fx.1 fx.2.1 (f := f) fx.2.2.2.1 (va_Nw.use rfl (fx.2.2.2.2.2.1.2.1 _ hlk)) hi hst (by rw [q2]; exact h6) q1 q3 (by rw [hsl]; exact k2_hasslot (q4 k hk)) rfl rfl hd fin
end AMH
end
section
section AMI
variable {E : am_E} {C : am_C} {cc : ByteArray} {own : String} {nL : Nat} {ret : Option FieldType} {R : Room} {Q : State → Prop} {μ : am_M} {cl sl pc : Nat} {ls : List (Option Value)} {st : List Value}
theorem am_fv_sI {E : am_E} {μ : am_M} {n k : Nat} {x : Int32} (ht : am_ty (mm_S μ n).1 k = .int) (j : Nat) : am_fv E (mm_sI μ n k x) n j = if j = k then .int x else am_fv E μ n j := by
  by_cases h : j = k
  · subst h
    simp only [am_fv, mS_sI, ht, if_true, mI_same]
  · simp only [am_fv, mS_sI, mL_sI, mR_sI, if_neg h, mI_sI, true_and, if_neg h]
theorem am_fv_sL {E : am_E} {μ : am_M} {n k : Nat} {x : Int64} (ht : am_ty (mm_S μ n).1 k = .long) (j : Nat) : am_fv E (mm_sL μ n k x) n j = if j = k then .long x else am_fv E μ n j := by
  by_cases h : j = k
  · subst h
    simp only [am_fv, mS_sL, ht, if_true, mL_same]
  · simp only [am_fv, mS_sL, mI_sL, mR_sL, if_neg h, mL_sL, true_and, if_neg h]
theorem am_fv_sR {E : am_E} {μ : am_M} {n k : Nat} {x : Option Nat} (ht : am_isR (am_ty (mm_S μ n).1 k) = true) (j : Nat) : am_fv E (mm_sR μ n k x) n j = if j = k then va_rf (x.map (am_rho E)) else am_fv E μ n j := by
  by_cases h : j = k
  · subst h
    rw [am_fvR (by rw [mS_sR]; exact ht), if_pos rfl, mR_sR, if_pos ⟨rfl, rfl⟩]
  · simp only [am_fv, mS_sR, mI_sR, mL_sR, if_neg h, mR_sR, true_and, if_neg h]
theorem am_oI {μ : am_M} {n k : Nat} {x : Int32} : ∀ a, a ≠ n → ∀ j, mm_I (mm_sI μ n k x) a j = mm_I μ a j ∧ mm_L (mm_sI μ n k x) a j = mm_L μ a j ∧ mm_R (mm_sI μ n k x) a j = mm_R μ a j := fun _ ha _ => ⟨mI_ne (Or.inl ha), rfl, rfl⟩
theorem am_oL {μ : am_M} {n k : Nat} {x : Int64} : ∀ a, a ≠ n → ∀ j, mm_I (mm_sL μ n k x) a j = mm_I μ a j ∧ mm_L (mm_sL μ n k x) a j = mm_L μ a j ∧ mm_R (mm_sL μ n k x) a j = mm_R μ a j := fun _ ha _ => ⟨rfl, mL_ne (Or.inl ha), rfl⟩
theorem am_oR {μ : am_M} {n k : Nat} {x : Option Nat} : ∀ a, a ≠ n → ∀ j, mm_I (mm_sR μ n k x) a j = mm_I μ a j ∧ mm_L (mm_sR μ n k x) a j = mm_L μ a j ∧ mm_R (mm_sR μ n k x) a j = mm_R μ a j := fun _ ha _ => ⟨rfl, rfl, by rw [mR_sR, if_neg (fun q => ha q.1)]⟩
theorem am_putI (fx : am_F E C cc own nL ret R) {n ci k idx : Nat} {x : Int32} (hd : decode cc pc = .ok (.putfield idx, 3)) (lk : am_lk own idx ci k) (hc : ci < 8) (hk : k < (am_cl ci).2.2) (hfin : ((am_cl ci).2.1 k).2.2.2 = false) (ht : am_ty ci k = .int) (hs : (mm_S μ n).1 = ci) (kk : am_W E C Q (mm_sI μ n k x) cl sl (pc + 3) ls st) : am_W E C Q μ cl sl pc ls (.int x :: .ref n :: st) :=
  am_putV fx (w := .int x) (μ' := mm_sI μ n k x) hd lk hc hk hfin hs (by rw [ht]; rfl) (by rw [ht]; rfl) (fun _ => rfl) rfl am_oI (am_fv_sI (by rw [hs]; exact ht)) kk
theorem am_putL (fx : am_F E C cc own nL ret R) {n ci k idx : Nat} {x : Int64} (hd : decode cc pc = .ok (.putfield idx, 3)) (lk : am_lk own idx ci k) (hc : ci < 8) (hk : k < (am_cl ci).2.2) (hfin : ((am_cl ci).2.1 k).2.2.2 = false) (ht : am_ty ci k = .long) (hs : (mm_S μ n).1 = ci) (kk : am_W E C Q (mm_sL μ n k x) cl sl (pc + 3) ls st) : am_W E C Q μ cl sl pc ls (.long x :: .ref n :: st) :=
  am_putV fx (w := .long x) (μ' := mm_sL μ n k x) hd lk hc hk hfin hs (by rw [ht]; rfl) (by rw [ht]; rfl) (fun _ => rfl) rfl am_oL (am_fv_sL (by rw [hs]; exact ht)) kk
theorem am_putR (fx : am_F E C cc own nL ret R) {n ci k idx : Nat} {a : Nat} (hd : decode cc pc = .ok (.putfield idx, 3)) (lk : am_lk own idx ci k) (hc : ci < 8) (hk : k < (am_cl ci).2.2) (hfin : ((am_cl ci).2.1 k).2.2.2 = false) (ht : am_isR (am_ty ci k) = true) (hs : (mm_S μ n).1 = ci) (kk : am_W E C Q (mm_sR μ n k (some a)) cl sl (pc + 3) ls st) : am_W E C Q μ cl sl pc ls (.ref a :: .ref n :: st) :=
  am_putV fx (w := .ref a) (μ' := mm_sR μ n k (some a)) hd lk hc hk hfin hs (by revert ht; generalize am_ty ci k = t; intro ht; cases t <;> first | rfl | (cases ht)) (by revert ht; generalize am_ty ci k = t; intro ht; cases t <;> first | rfl | (cases ht)) (fun _ => rfl) rfl am_oR (am_fv_sR (by rw [hs]; exact ht)) kk
theorem am_putN (fx : am_F E C cc own nL ret R) {n ci k idx : Nat} (hd : decode cc pc = .ok (.putfield idx, 3)) (lk : am_lk own idx ci k) (hc : ci < 8) (hk : k < (am_cl ci).2.2) (hfin : ((am_cl ci).2.1 k).2.2.2 = false) (ht : am_isR (am_ty ci k) = true) (hs : (mm_S μ n).1 = ci) (kk : am_W E C Q (mm_sR μ n k none) cl sl (pc + 3) ls st) : am_W E C Q μ cl sl pc ls (.null :: .ref n :: st) :=
  am_putV fx (w := .null) (μ' := mm_sR μ n k none) hd lk hc hk hfin hs (by revert ht; generalize am_ty ci k = t; intro ht; cases t <;> first | rfl | (cases ht)) (by revert ht; generalize am_ty ci k = t; intro ht; cases t <;> first | rfl | (cases ht)) (fun _ => rfl) rfl am_oR (am_fv_sR (by rw [hs]; exact ht)) kk
/-- a final field, in the constructor of its class -/
theorem am_putFV (fx : am_F E C cc own nL ret R) (hin : (cx_M C).name = "<init>") {n ci k idx : Nat} {w : Value} {μ' : am_M} (hd : decode cc pc = .ok (.putfield idx, 3)) (lk : Cond.fieldLink own idx ((am_cl ci).2.1 k).1 ((am_cl ci).2.1 k).2.1 ((am_cl ci).2.1 k).2.2.1 ∈ am_G) (hc : ci < 8) (hk : k < (am_cl ci).2.2) (hfin : ((am_cl ci).2.1 k).2.2.2 = true) (hdecl : ((am_cl ci).2.1 k).1 = own) (hs : (mm_S μ n).1 = ci) (hn : narrow (am_ty ci k) (am_tr E w) = am_tr E w) (hfit : fits (am_ty ci k) (am_tr E w) = true)
    (hSm : ∀ a, mm_S μ' a = mm_S μ a) (hZ : mm_Z μ' = mm_Z μ) (ho : ∀ a, a ≠ n → ∀ k, mm_I μ' a k = mm_I μ a k ∧ mm_L μ' a k = mm_L μ a k ∧ mm_R μ' a k = mm_R μ a k) (hv : ∀ j, am_fv E μ' n j = if j = k then am_tr E w else am_fv E μ n j) (kk : am_W E C Q μ' cl sl (pc + 3) ls st) : am_W E C Q μ cl sl pc ls (w :: .ref n :: st) := by
  intro H locs la hA hS hl
  have hat := (hA.2.2 n).2.1 (by rw [hs]; exact hc)
  rw [hs] at hat
  obtain ⟨cell, q1, q2, q3, q4⟩ := hat
  have hK := fx.2.2.2.2.2.1.1
  have hap := va_apart (own := own) fx.2.2.2.2.1 (am_inC hc) (am_ty ci) (am_tyC hc) (am_nmC hc) hK (am_cl_at hc)
  obtain ⟨hSl, hfc, kC, hkC, hkind⟩ := hK.1 ci _ (am_cl_at hc)
  obtain ⟨cf, kf, fi, f, hi, hsl⟩ := hSl k hk
  have hlay := fx.2.2.2.2.1 _ (am_inC hc _ (u_in_lay hk))
  unfold u_lay at hlay
  rw [if_pos hfin] at hlay
  have hst := (u_facts hfc hkC (u_lays fx.2.2.2.2.1 (am_inC hc) hk) hi).1
  have hcf : (cx_m C).cls = cf := by
    obtain ⟨_, _, c', _, _, _, -, -, hf', -, -, -, hown2, -⟩ := Cond.laysFinal_spec hlay
    have e1 : c' = cf := by have := hi.symm.trans hf'; simp at this; exact this.1.symm
    rw [hdecl] at hown2
    rw [← e1]; exact Option.some.inj (fx.2.2.2.1.symm.trans hown2)
  have h6 := u_fits hfc hkC hkind (Or.inr hlay) hi (am_tyC hc k hk) hn hfit
  have n0 : 0 < n := (hA.2.2 n).1 (by rw [hs]; omega)
  refine W.putFinK fx.1 fx.2.1 fx.2.2.2.1 (fx.2.2.2.2.1 _ lk) hi hst hcf hin (by rw [q2]; exact h6) q1 q3 (by rw [hsl]; exact k2_hasslot (q4 k hk)) rfl rfl hd fun H' e1 e2 e3 => ?_
  rw [hsl] at e1
  refine kk H' _ la (hA.put (n := n) (by rw [hs]; omega) hSm hZ ho ?_ e2 e3) (hS.put e2 e3 (am_rho_b n0)) hl
  refine ⟨fun _ => n0, fun _ => ?_, ?_, ?_, ?_, ?_⟩
  · rw [hSm n, hs]
    refine t_OB.to (V := updV (am_fv E μ n) k (am_tr E w)) ⟨_, e1, q2, q3, t_set q4 hap hk _⟩ (fun j _ => ?_)
    rw [hv j]
    rfl
  all_goals (rw [hSm n, hs]; intro h; omega)
theorem am_putFI (fx : am_F E C cc own nL ret R) (hin : (cx_M C).name = "<init>") {n ci k idx : Nat} {x : Int32} (hd : decode cc pc = .ok (.putfield idx, 3)) (lk : Cond.fieldLink own idx ((am_cl ci).2.1 k).1 ((am_cl ci).2.1 k).2.1 ((am_cl ci).2.1 k).2.2.1 ∈ am_G) (hc : ci < 8) (hk : k < (am_cl ci).2.2) (hfin : ((am_cl ci).2.1 k).2.2.2 = true) (hdecl : ((am_cl ci).2.1 k).1 = own) (ht : am_ty ci k = .int) (hs : (mm_S μ n).1 = ci) (kk : am_W E C Q (mm_sI μ n k x) cl sl (pc + 3) ls st) : am_W E C Q μ cl sl pc ls (.int x :: .ref n :: st) :=
  am_putFV fx hin (w := .int x) (μ' := mm_sI μ n k x) hd lk hc hk hfin hdecl hs (by rw [ht]; rfl) (by rw [ht]; rfl) (fun _ => rfl) rfl am_oI (am_fv_sI (by rw [hs]; exact ht)) kk
theorem am_putFR (fx : am_F E C cc own nL ret R) (hin : (cx_M C).name = "<init>") {n ci k idx : Nat} {a : Nat} (hd : decode cc pc = .ok (.putfield idx, 3)) (lk : Cond.fieldLink own idx ((am_cl ci).2.1 k).1 ((am_cl ci).2.1 k).2.1 ((am_cl ci).2.1 k).2.2.1 ∈ am_G) (hc : ci < 8) (hk : k < (am_cl ci).2.2) (hfin : ((am_cl ci).2.1 k).2.2.2 = true) (hdecl : ((am_cl ci).2.1 k).1 = own) (ht : am_isR (am_ty ci k) = true) (hs : (mm_S μ n).1 = ci) (kk : am_W E C Q (mm_sR μ n k (some a)) cl sl (pc + 3) ls st) : am_W E C Q μ cl sl pc ls (.ref a :: .ref n :: st) :=
  am_putFV fx hin (w := .ref a) (μ' := mm_sR μ n k (some a)) hd lk hc hk hfin hdecl hs (by revert ht; generalize am_ty ci k = t; intro ht; cases t <;> first | rfl | (cases ht)) (by revert ht; generalize am_ty ci k = t; intro ht; cases t <;> first | rfl | (cases ht)) (fun _ => rfl) rfl am_oR (am_fv_sR (by rw [hs]; exact ht)) kk
-- arrays
theorem am_iald (fx : am_F E C cc own nL ret R) {a N j : Nat} {x v : Int32} (hd : decode cc pc = .ok (.iaload, 1)) (hs : mm_S μ a = (8, N)) (hx : x = nI j) (hj : j < N) (hN : N < 2 ^ 31) (hv : mm_I μ a j = v) (kk : am_W E C Q μ cl sl (pc + 1) ls (.int v :: st)) : am_W E C Q μ cl sl pc ls (.int x :: .ref a :: st) := by
  intro H locs la hA hS hl
  subst hx; subst hv
  have hc := (hA.2.2 a).2.2.1 (by rw [hs])
  rw [hs] at hc
  exact W.iald fx.1 fx.2.1 hc ((fx.2.2.2.2.2.1.1.2 0 _ rfl).1 N _) (fun q => by cases q) (by rw [arrV_size]; exact vp_in_nI hj hN) (by rw [nI_clamp (by omega), arrV_read _ _ hj]; rfl) rfl rfl hd (kk H locs la hA hS hl)
theorem am_lald (fx : am_F E C cc own nL ret R) {a N j : Nat} {x : Int32} {v : Int64} (hd : decode cc pc = .ok (.laload, 1)) (hs : mm_S μ a = (9, N)) (hx : x = nI j) (hj : j < N) (hN : N < 2 ^ 31) (hv : mm_L μ a j = v) (kk : am_W E C Q μ cl sl (pc + 1) ls (.long v :: st)) : am_W E C Q μ cl sl pc ls (.int x :: .ref a :: st) := by
  intro H locs la hA hS hl
  subst hx; subst hv
  have hc := (hA.2.2 a).2.2.2.1 (by rw [hs])
  rw [hs] at hc
  exact W.lald fx.1 fx.2.1 hc ((fx.2.2.2.2.2.1.1.2 1 _ rfl).1 N _) (fun q => by cases q) (by rw [arrV_size]; exact vp_in_nI hj hN) (by rw [nI_clamp (by omega), arrV_read _ _ hj]; rfl) rfl rfl hd (kk H locs la hA hS hl)
theorem am_zald (fx : am_F E C cc own nL ret R) {a N j : Nat} {x v : Int32} (hd : decode cc pc = .ok (.baload, 1)) (hs : mm_S μ a = (10, N)) (hx : x = nI j) (hj : j < N) (hN : N < 2 ^ 31) (hv : mm_I μ a j = v) (kk : am_W E C Q μ cl sl (pc + 1) ls (.int v :: st)) : am_W E C Q μ cl sl pc ls (.int x :: .ref a :: st) := by
  intro H locs la hA hS hl
  subst hx; subst hv
  have hc := (hA.2.2 a).2.2.2.2.1 (by rw [hs])
  rw [hs] at hc
  exact W.zald fx.1 fx.2.1 hc ((fx.2.2.2.2.2.1.1.2 2 _ rfl).1 N _) (fun q => by cases q) (by rw [arrV_size]; exact vp_in_nI hj hN) (by rw [nI_clamp (by omega), arrV_read _ _ hj]; rfl) rfl rfl hd (kk H locs la hA hS hl)
theorem am_aald (fx : am_F E C cc own nL ret R) {a N j r : Nat} {x : Int32} (hd : decode cc pc = .ok (.aaload, 1)) (hs : mm_S μ a = (11, N)) (hx : x = nI j) (hj : j < N) (hN : N < 2 ^ 31) (hv : mm_R μ a j = some r) (kk : am_W E C Q μ cl sl (pc + 1) ls (.ref r :: st)) : am_W E C Q μ cl sl pc ls (.int x :: .ref a :: st) := by
  intro H locs la hA hS hl
  subst hx
  have hc := (hA.2.2 a).2.2.2.2.2 (by rw [hs])
  rw [hs] at hc
  exact W.aald (v := .ref (am_rho E r)) fx.1 fx.2.1 hc ((fx.2.2.2.2.2.1.1.2 3 _ rfl).1 N _) rfl (fun q => by cases q) (by rw [arrV_size]; exact vp_in_nI hj hN) (by rw [nI_clamp (by omega), arrV_read _ _ hj, hv]; rfl) rfl rfl hd (kk H locs la hA hS hl)
theorem am_alen (fx : am_F E C cc own nL ret R) {a N kd : Nat} {v : Int32} (hd : decode cc pc = .ok (.arraylength, 1)) (hs : mm_S μ a = (kd, N)) (hk : kd = 8 ∨ kd = 9 ∨ kd = 10 ∨ kd = 11) (hv : nI N = v) (kk : am_W E C Q μ cl sl (pc + 1) ls (.int v :: st)) : am_W E C Q μ cl sl pc ls (.ref a :: st) := by
  intro H locs la hA hS hl
  subst hv
  rcases hk with rfl | rfl | rfl | rfl
  · have hc := (hA.2.2 a).2.2.1 (by rw [hs])
    rw [hs] at hc
    exact W.alen fx.1 fx.2.1 hc ((fx.2.2.2.2.2.1.1.2 0 _ rfl).1 N _) (by rw [arrV_size] <;> rfl) rfl rfl hd (kk H locs la hA hS hl)
  · have hc := (hA.2.2 a).2.2.2.1 (by rw [hs])
    rw [hs] at hc
    exact W.alen fx.1 fx.2.1 hc ((fx.2.2.2.2.2.1.1.2 1 _ rfl).1 N _) (by rw [arrV_size] <;> rfl) rfl rfl hd (kk H locs la hA hS hl)
  · have hc := (hA.2.2 a).2.2.2.2.1 (by rw [hs])
    rw [hs] at hc
    exact W.alen fx.1 fx.2.1 hc ((fx.2.2.2.2.2.1.1.2 2 _ rfl).1 N _) (by rw [arrV_size] <;> rfl) rfl rfl hd (kk H locs la hA hS hl)
  · have hc := (hA.2.2 a).2.2.2.2.2 (by rw [hs])
    rw [hs] at hc
    exact W.alen fx.1 fx.2.1 hc ((fx.2.2.2.2.2.1.1.2 3 _ rfl).1 N _) (by rw [arrV_size] <;> rfl) rfl rfl hd (kk H locs la hA hS hl)
theorem am_iast (fx : am_F E C cc own nL ret R) {a N j : Nat} {x y : Int32} (hd : decode cc pc = .ok (.iastore, 1)) (hs : mm_S μ a = (8, N)) (hx : x = nI j) (hj : j < N) (hN : N < 2 ^ 31) (kk : am_W E C Q (mm_sI μ a j y) cl sl (pc + 1) ls st) : am_W E C Q μ cl sl pc ls (.int y :: .int x :: .ref a :: st) := by
  intro H locs la hA hS hl
  subst hx
  have hc := (hA.2.2 a).2.2.1 (by rw [hs])
  rw [hs] at hc
  have n0 : 0 < a := (hA.2.2 a).1 (by rw [hs]; simp)
  refine W.iast fx.1 fx.2.1 hc ((fx.2.2.2.2.2.1.1.2 0 _ rfl).1 N _) (fun q => by cases q) (by rw [arrV_size]; exact vp_in_nI hj hN) rfl rfl hd fun H1 e z oq => ?_
  refine kk H1 _ la (hA.put (n := a) (by rw [hs]; simp) (fun _ => rfl) rfl am_oI ?_ z oq) (hS.put z oq (am_rho_b n0)) hl
  refine ⟨fun _ => n0, ?_, ?_, ?_, ?_, ?_⟩ <;> rw [mS_sI, hs]
  · intro h; exact absurd h (by simp)
  · intro _
    rw [e, arrV_store, nI_clamp (by omega)]
    congr 2
    funext q
    by_cases hq : q = j <;> simp [updV, mI_sI, hq]
  all_goals (intro h; exact absurd h (by simp))
theorem am_last (fx : am_F E C cc own nL ret R) {a N j : Nat} {x : Int32} {y : Int64} (hd : decode cc pc = .ok (.lastore, 1)) (hs : mm_S μ a = (9, N)) (hx : x = nI j) (hj : j < N) (hN : N < 2 ^ 31) (kk : am_W E C Q (mm_sL μ a j y) cl sl (pc + 1) ls st) : am_W E C Q μ cl sl pc ls (.long y :: .int x :: .ref a :: st) := by
  intro H locs la hA hS hl
  subst hx
  have hc := (hA.2.2 a).2.2.2.1 (by rw [hs])
  rw [hs] at hc
  have n0 : 0 < a := (hA.2.2 a).1 (by rw [hs]; simp)
  refine W.last fx.1 fx.2.1 hc ((fx.2.2.2.2.2.1.1.2 1 _ rfl).1 N _) (fun q => by cases q) (by rw [arrV_size]; exact vp_in_nI hj hN) rfl rfl hd fun H1 e z oq => ?_
  refine kk H1 _ la (hA.put (n := a) (by rw [hs]; simp) (fun _ => rfl) rfl am_oL ?_ z oq) (hS.put z oq (am_rho_b n0)) hl
  refine ⟨fun _ => n0, ?_, ?_, ?_, ?_, ?_⟩ <;> rw [mS_sL, hs]
  · intro h; exact absurd h (by simp)
  · intro h; exact absurd h (by simp)
  · intro _
    rw [e, arrV_store, nI_clamp (by omega)]
    congr 2
    funext q
    by_cases hq : q = j <;> simp [updV, mL_sL, hq]
  all_goals (intro h; exact absurd h (by simp))
theorem am_zast (fx : am_F E C cc own nL ret R) {a N j : Nat} {x y : Int32} (hd : decode cc pc = .ok (.bastore, 1)) (hs : mm_S μ a = (10, N)) (hx : x = nI j) (hj : j < N) (hN : N < 2 ^ 31) (hy : y = 0 ∨ y = 1) (kk : am_W E C Q (mm_sI μ a j y) cl sl (pc + 1) ls st) : am_W E C Q μ cl sl pc ls (.int y :: .int x :: .ref a :: st) := by
  intro H locs la hA hS hl
  subst hx
  have hc := (hA.2.2 a).2.2.2.2.1 (by rw [hs])
  rw [hs] at hc
  have n0 : 0 < a := (hA.2.2 a).1 (by rw [hs]; simp)
  have hy2 : narrow .boolean (.int y) = .int y := by rcases hy with rfl | rfl <;> rfl
  refine W.zast fx.1 fx.2.1 hc ((fx.2.2.2.2.2.1.1.2 2 _ rfl).1 N _) (fun q => by cases q) (by rw [arrV_size]; exact vp_in_nI hj hN) rfl rfl hd fun H1 e z oq => ?_
  refine kk H1 _ la (hA.put (n := a) (by rw [hs]; simp) (fun _ => rfl) rfl am_oI ?_ z oq) (hS.put z oq (am_rho_b n0)) hl
  refine ⟨fun _ => n0, ?_, ?_, ?_, ?_, ?_⟩ <;> rw [mS_sI, hs]
  · intro h; exact absurd h (by simp)
  · intro h; exact absurd h (by simp)
  · intro h; exact absurd h (by simp)
  · intro _
    rw [e, arrV_store, nI_clamp (by omega)]
    congr 2
    funext q
    by_cases hq : q = j
    · subst hq
      simp [updV, mI_sI, hy2]
    · simp [updV, mI_sI, hq]
  · intro h; exact absurd h (by simp)
end AMI
end
section
theorem am_at_none {E : am_E} {μ : am_M} {H : Heap} {n : Nat} (h : 12 ≤ (mm_S μ n).1) : am_at E μ H n := by
  refine ⟨?_, ?_, ?_, ?_, ?_, ?_⟩ <;> intro q <;> omega
theorem am_none {E : am_E} {μ : am_M} {H : Heap} (h : am_Ag E μ H) {n : Nat} (hn : mm_Z μ ≤ n) : 12 ≤ (mm_S μ n).1 := by
  rcases Nat.lt_or_ge (mm_S μ n).1 12 with q | q
  · have := am_lt h q
    omega
  · exact q
theorem am_Ag.add {E : am_E} {μ μ' : am_M} {H H1 : Heap} (h : am_Ag E μ H) (d : Nat) (hz : H1.size = H.size + d) (hZ : mm_Z μ' = mm_Z μ + d) (hold : ∀ a, a < mm_Z μ → mm_S μ' a = mm_S μ a ∧ ∀ k, mm_I μ' a k = mm_I μ a k ∧ mm_L μ' a k = mm_L μ a k ∧ mm_R μ' a k = mm_R μ a k) (oq : ∀ q, q < H.size → H1[q]? = H[q]?) (hnew : ∀ a, mm_Z μ ≤ a → am_at E μ' H1 a) : am_Ag E μ' H1 := by
  refine ⟨by rw [hz, hZ, am_rho_add h.2.1, h.1], by rw [hZ]; have := h.2.1; omega, fun a => ?_⟩
  by_cases ha : a < mm_Z μ
  · obtain ⟨h1, h2⟩ := hold a ha
    refine (h.2.2 a).kept h1 (fun k => (h2 k).1) (fun k => (h2 k).2.1) (fun k => (h2 k).2.2) (fun h12 => oq _ ?_)
    rw [h.1]
    exact (am_rho_lt ((h.2.2 a).1 h12) h.2.1).mpr ha
  · exact hnew a (by omega)
theorem am_Sgrow {A : Nat → Prop} {H0 H H1 : Heap} {locs : List Loc} (hS : va_S A H0 H locs) (hz : H.size ≤ H1.size) (oq : ∀ q, q < H.size → H1[q]? = H[q]?) : va_S A H0 H1 locs := ⟨Nat.le_trans hS.1 hz, fun q h1 h2 => (oq q (Nat.lt_of_lt_of_le h1 hS.1)).trans (hS.2.1 q h1 h2), hS.2.2⟩
def am_plain : FieldType → Bool
  | .int => true
  | .long => true
  | .object _ => true
  | .array _ => true
  | _ => false
section AMN
variable {E : am_E} {C : am_C} {cc : ByteArray} {own : String} {nL : Nat} {ret : Option FieldType} {R : Room} {Q : State → Prop} {μ : am_M} {cl sl pc : Nat} {ls : List (Option Value)} {st : List Value}
theorem am_new (fx : am_F E C cc own nL ret R) {ci idx N : Nat} (hd : decode cc pc = .ok (.new idx, 3)) (hc : ci < 8) (hN : (am_cl ci).2.2 = N) (h1 : Cond.classLink own idx (am_cl ci).1 ∈ am_G) (h2 : Cond.instantiable (am_cl ci).1 N ∈ am_G) (h3 : Cond.initialized (am_cl ci).1 ∈ am_G) (hp : ∀ j, j < N → am_plain (am_ty ci j) = true) (hcl : cl + 1 ≤ R.cells) (hsl : sl + N ≤ R.slots) (kk : am_W E C Q (mm_nw μ ci 0) (cl + 1) (sl + N) (pc + 3) ls (.ref (mm_Z μ) :: st)) : am_W E C Q μ cl sl pc ls st := by
  intro H locs la hA hS hl
  have hR : cx_R C = R := fx.2.2.2.2.2.2.1
  have hKn := fx.2.2.2.2.2.1.1.1 ci _ (am_cl_at hc)
  refine W.newcK fx.1 fx.2.1 fx.2.2.2.1 (fx.2.2.2.2.1 _ h1) (fx.2.2.2.2.1 _ h2) (fx.2.2.2.2.1 _ h3) rfl hd (by rw [hR]; exact hcl) (by rw [hR]; exact hsl) hKn.2.1 hA.1 fun H1 kC hkC e1 z1 o1 => ?_
  have o2 : ∀ q, q < H.size → H1[q]? = H[q]? := fun q hq => o1 q (by rw [← hA.1]; exact hq)
  have hold : ∀ a, a < mm_Z μ → ¬ a = mm_Z μ := fun a h => Nat.ne_of_lt h
  refine kk H1 locs la (hA.add 1 (by rw [z1, hA.1]) rfl (fun a ha => ⟨by rw [mS_nw, if_neg (hold a ha)], fun k => ⟨by rw [mI_nw, if_neg (hold a ha)], by rw [mL_nw, if_neg (hold a ha)], by rw [mR_nw, if_neg (hold a ha)]⟩⟩) o2 (fun a ha => ?_)) (am_Sgrow hS (by rw [z1, hA.1]; omega) o2) hl
  by_cases he : a = mm_Z μ
  · subst he
    refine ⟨fun _ => hA.2.1, fun _ => ?_, ?_, ?_, ?_, ?_⟩
    · rw [mS_nw, if_pos rfl]
      refine (u_born (am_ty ci) fx.2.2.2.2.1 (am_inC hc) hKn hkC e1 (am_tyC hc)).to (fun j hj => ?_)
      have hp2 := hp j (by rw [← hN]; exact hj)
      simp only [am_fv, mS_nw, if_true, mI_nw, mL_nw, mR_nw]
      revert hp2
      generalize am_ty ci j = t
      intro hp2
      cases t <;> first | rfl | (cases hp2)
    all_goals (rw [mS_nw, if_pos rfl]; intro q; dsimp only at q; omega)
  · exact am_at_none (by rw [mS_nw, if_neg he]; exact am_none hA ha)
theorem am_newarr (fx : am_F E C cc own nL ret R) {at_ : ArrayType} {kd N : Nat} {x : Int32} (hd : decode cc pc = .ok (.newarray at_, 2)) (hk : (at_ = .int ∧ kd = 8) ∨ (at_ = .long ∧ kd = 9) ∨ (at_ = .boolean ∧ kd = 10)) (hw : Cond.arrayClass (newarray.typeOf at_) ∈ am_G) (hx : x = nI N) (hN : N < 65536) (hcl : cl + 1 ≤ R.cells) (hsl : sl + N ≤ R.slots) (kk : am_W E C Q (mm_nw μ kd N) (cl + 1) (sl + N) (pc + 2) ls (.ref (mm_Z μ) :: st)) : am_W E C Q μ cl sl pc ls (.int x :: st) := by
  intro H locs la hA hS hl
  subst hx
  have hR : cx_R C = R := fx.2.2.2.2.2.2.1
  refine va_newaK fx.1 fx.2.1 (fx.2.2.2.2.1 _ hw) rfl hd rfl (nI_pos (by omega)) (nI_clamp (by omega)) (by rcases hk with ⟨rfl, -⟩ | ⟨rfl, -⟩ | ⟨rfl, -⟩ <;> simp [newarray.typeOf, componentBytes] <;> omega) (by rw [hR]; exact hcl) (by rw [hR]; exact hsl) hA.1 fun H1 cA e1 z1 o1 hAr hNm => ?_
  have o2 : ∀ q, q < H.size → H1[q]? = H[q]? := fun q hq => o1 q (by rw [← hA.1]; exact hq)
  have hold : ∀ a, a < mm_Z μ → ¬ a = mm_Z μ := fun a h => Nat.ne_of_lt h
  refine kk H1 locs la (hA.add 1 (by rw [z1, hA.1]) rfl (fun a ha => ⟨by rw [mS_nw, if_neg (hold a ha)], fun k => ⟨by rw [mI_nw, if_neg (hold a ha)], by rw [mL_nw, if_neg (hold a ha)], by rw [mR_nw, if_neg (hold a ha)]⟩⟩) o2 (fun a ha => ?_)) (am_Sgrow hS (by rw [z1, hA.1]; omega) o2) hl
  by_cases he : a = mm_Z μ
  · subst he
    rcases hk with ⟨rfl, rfl⟩ | ⟨rfl, rfl⟩ | ⟨rfl, rfl⟩
    · have hcy : E.2.2.2 0 = cA := Option.some.inj ((fx.2.2.2.2.2.1.1.2 0 _ rfl).2.symm.trans hNm)
      refine ⟨fun _ => hA.2.1, ?_, ?_, ?_, ?_, ?_⟩ <;> rw [mS_nw, if_pos rfl] <;> intro q <;> first | (exfalso; revert q; simp; done) | skip
      rw [e1, hcy]
      simp only [mI_nw, if_true]
      rfl
    · have hcy : E.2.2.2 1 = cA := Option.some.inj ((fx.2.2.2.2.2.1.1.2 1 _ rfl).2.symm.trans hNm)
      refine ⟨fun _ => hA.2.1, ?_, ?_, ?_, ?_, ?_⟩ <;> rw [mS_nw, if_pos rfl] <;> intro q <;> first | (exfalso; revert q; simp; done) | skip
      rw [e1, hcy]
      simp only [mL_nw, if_true]
      rfl
    · have hcy : E.2.2.2 2 = cA := Option.some.inj ((fx.2.2.2.2.2.1.1.2 2 _ rfl).2.symm.trans hNm)
      refine ⟨fun _ => hA.2.1, ?_, ?_, ?_, ?_, ?_⟩ <;> rw [mS_nw, if_pos rfl] <;> intro q <;> first | (exfalso; revert q; simp; done) | skip
      rw [e1, hcy]
      simp only [mI_nw, if_true]
      rfl
  · exact am_at_none (by rw [mS_nw, if_neg he]; exact am_none hA ha)
theorem am_mna (fx : am_F E C cc own nL ret R) {idx N K : Nat} {x y : Int32} (hd : decode cc pc = .ok (.multianewarray idx 2, 4)) (h1 : Cond.classLink own idx "[[I" ∈ am_G) (hw : Cond.arrayClass .int ∈ am_G) (hx : x = nI N) (hy : y = nI K) (hN : N < 65536) (hK : K < 65536) (hcl : cl + (1 + N) ≤ R.cells) (hsl : sl + (N + N * K) ≤ R.slots) (kk : am_W E C Q (mm_gr μ N K) (cl + 1 + N) (sl + N + N * K) (pc + 4) ls (.ref (mm_Z μ) :: st)) : am_W E C Q μ cl sl pc ls (.int y :: .int x :: st) := by
  intro H locs la hA hS hl
  subst hx; subst hy
  have hR : cx_R C = R := fx.2.2.2.2.2.2.1
  intro T hT Xs
  have cN : (nI N).toNatClampNeg = N := nI_clamp (by omega)
  have cK : (nI K).toNatClampNeg = K := nI_clamp (by omega)
  obtain ⟨vm₁, cA, comp, -, fA, fC, hO, hI, X', step⟩ := Xs.multianewarray2F (ty := .int) fx.1 fx.2.2.2.1 (fx.2.2.2.2.1 _ h1) fx.2.2.2.2.2.1.2.2 (fx.2.2.2.2.1 _ hw) (g := F0 (cx_m C) pc la (.int (nI K) :: .int (nI N) :: st.map (am_tr E))) rfl (by rw [fx.2.1]; exact hd) rfl (nI_pos (by omega)) (nI_pos (by omega)) (by rw [cN]; omega) (by rw [cK]; simp [componentBytes]; omega) (by rw [cK]; omega) rfl rfl (by rw [cN, hR]; exact hcl) (by rw [cN, cK, hR]; exact hsl)
  rw [cN, cK] at X' step
  have ec : E.2.2.2 0 = comp := Option.some.inj ((fx.2.2.2.2.2.1.1.2 0 _ rfl).2.symm.trans fC)
  have ea : E.2.2.2 3 = cA := Option.some.inj ((fx.2.2.2.2.2.1.1.2 3 _ rfl).2.symm.trans fA)
  generalize hF : Jvm.Free.Multi.fill (T.setVm vm₁) cA comp N K (defaultValue .int) N = F at X' step
  have hTh : (T.setVm vm₁).heap = H := hT
  obtain ⟨f1, f2, -, -⟩ := Jvm.Free.Multi.fill_facts (T.setVm vm₁) cA comp N K (defaultValue .int) N
  rw [hF, hTh] at f1 f2
  have o2 : ∀ q : Nat, q < H.size → F.heap[q]? = H[q]? := fun q hq => by
    have := Jvm.Free.Multi.fill_old (T.setVm vm₁) cA comp N K (defaultValue .int) (a := q) (by rw [hTh]; exact hq) N
    rw [hF, hTh] at this
    exact this
  have hrow : ∀ j : Nat, j < N → F.heap[H.size + 1 + j]? = some (arrV comp K (fun _ => .int 0)) := fun j hj => by
    have := Jvm.Free.Multi.fill_inner (T.setVm vm₁) cA comp N K (defaultValue .int) N j hj
    rw [hF, hTh] at this
    rw [this, ← arrV_new]
    rfl
  rw [vr_outer] at f2
  have Z0 := hA.2.1
  have key : am_Ag E (mm_gr μ N K) F.heap := by
    refine hA.add (1 + N) (by rw [f1]; omega) (by rw [mZ_gr]; omega) (fun a ha => ⟨?_, fun k => ⟨?_, rfl, ?_⟩⟩) o2 (fun a ha => ?_)
    · rw [mS_gr, if_neg (by omega), if_neg (by omega)]
    · rw [mI_gr, if_neg (by omega)]
    · rw [mR_gr, if_neg (by omega)]
    · by_cases he : a = mm_Z μ
      · subst he
        refine ⟨fun _ => hA.2.1, ?_, ?_, ?_, ?_, ?_⟩ <;> rw [mS_gr, if_pos rfl] <;> intro q <;> first | (exfalso; revert q; simp; done) | skip
        rw [← hA.1, f2, ea]
        congr 2
        funext j
        rw [mR_gr, if_pos rfl]
        by_cases hj : j < N
        · rw [if_pos hj, if_pos hj]
          show va_rf (some _) = va_rf (some _)
          rw [Nat.add_assoc (mm_Z μ), am_rho_add Z0, ← hA.1, Nat.add_assoc]
        · rw [if_neg hj, if_neg hj]
          rfl
      · by_cases hr : mm_Z μ < a ∧ a ≤ mm_Z μ + N
        · refine ⟨fun _ => by omega, ?_, ?_, ?_, ?_, ?_⟩ <;> rw [mS_gr, if_neg he, if_pos hr] <;> intro q <;> first | (exfalso; revert q; simp; done) | skip
          obtain ⟨j, hj, rfl⟩ : ∃ j, j < N ∧ a = mm_Z μ + (1 + j) := ⟨a - mm_Z μ - 1, by omega, by omega⟩
          rw [am_rho_add Z0, ← hA.1, ← Nat.add_assoc, hrow j hj, ec]
          congr 2
          funext k
          rw [mI_gr, if_pos hr]
        · exact am_at_none (by rw [mS_gr, if_neg he, if_neg hr]; exact am_none hA (by omega))
  obtain ⟨t, a1, b1⟩ := kk F.heap locs la key (am_Sgrow hS (by rw [f1]; omega) o2) hl F rfl X'
  refine ⟨t, step t ?_, b1⟩
  rw [hT, hA.1]
  exact a1
end AMN
end
section
/-! contracts over the abstract memory; entry, calls, returns -/
abbrev am_A (E : am_E) : Nat → Prop := fun q => E.2.1.2 ≤ q
def am_Pc (E : am_E) (as : List Value) (μ : am_M) : Array Value → State → Prop := fun a U => a = (as.map (am_tr E)).toArray ∧ am_Ag E μ U.heap ∧ am_K E U ∧ E.2.1.2 ≤ U.heap.size
def am_Qc (E : am_E) (post : Option Value → am_M → Prop) : Array Value → State → Outcome → State → Prop := fun _ st o t => (∃ (v : Option Value) (μ' : am_M), o = .returned (v.map (am_tr E)) ∧ post v μ' ∧ am_Ag E μ' t.heap) ∧ va_F (am_A E) st t
def am_Ct (E : am_E) (y : MethodName) (cc : ByteArray) (nL : Nat) (ret : Option FieldType) (rm : Room) (as : List Value) (μ : am_M) (post : Option Value → am_M → Prop) : Prop := Met E.1 y (Cond.code y cc nL ret :: am_G) rm (am_Pc E as μ) (am_Qc E post) rm.cells rm.slots (am_A E)
abbrev am_MQ (E : am_E) (C : am_C) (post : Option Value → am_M → Prop) (mc ms : Nat) : State → Prop := MQ (cx_b C) (am_Qc E post) (cx_a C) (cx_s C) mc ms (am_A E)
def am_lay : List Value → List (Option Value)
  | [] => []
  | v :: vs => if v.category = 2 then some v :: none :: am_lay vs else some v :: am_lay vs
def am_en (nL : Nat) (as : List Value) : List (Option Value) := am_lay as ++ List.replicate (nL - (am_lay as).length) none
theorem am_lay_in (E : am_E) : ∀ (as : List Value) (k i : Nat) (v : Value), (am_lay as)[i]? = some (some v) → (k + i, am_tr E v) ∈ lv_args k (as.map (am_tr E))
  | [], k, i, v, h => by simp [am_lay] at h
  | a :: as, k, i, v, h => by
    simp only [List.map_cons, lv_args, am_tr_cat]
    simp only [am_lay] at h
    by_cases hc : a.category = 2
    · rw [if_pos hc] at h ⊢
      match i, h with
      | 0, h =>
        simp only [List.getElem?_cons_zero, Option.some.injEq] at h
        subst h
        exact List.mem_cons_self
      | 1, h => simp at h
      | i + 2, h =>
        simp only [List.getElem?_cons_succ] at h
        have := am_lay_in E as (k + 2) i v h
        rw [show k + 2 + i = k + (i + 2) by omega] at this
        exact List.mem_cons_of_mem _ this
    · rw [if_neg hc] at h ⊢
      match i, h with
      | 0, h =>
        simp only [List.getElem?_cons_zero, Option.some.injEq] at h
        subst h
        exact List.mem_cons_self
      | i + 1, h =>
        simp only [List.getElem?_cons_succ] at h
        have := am_lay_in E as (k + 1) i v h
        rw [show k + 1 + i = k + (i + 1) by omega] at this
        exact List.mem_cons_of_mem _ this
theorem am_lay_len (E : am_E) : ∀ as : List Value, (lg_sl (as.map (am_tr E))).length = (am_lay as).length
  | [] => rfl
  | a :: as => by
    have h := am_lay_len E as
    simp only [lg_sl] at h
    simp only [List.map_cons, lg_sl, List.flatMap_cons, am_tr_cat, am_lay, List.length_append]
    by_cases hc : a.category = 2
    · rw [if_pos hc, if_pos hc, h]; simp; omega
    · rw [if_neg hc, if_neg hc, h]; simp; omega
theorem am_Ct.of {E : am_E} {y : MethodName} {cc : ByteArray} {nL : Nat} {ret : Option FieldType} {rm : Room} {as : List Value} {μ : am_M} {post : Option Value → am_M → Prop} {ls : List (Option Value)} (hy : plainName y.cls = true) (hl : (am_lay as).length ≤ nL) (hls : am_en nL as = ls)
    (body : ∀ C : am_C, am_F E C cc y.cls nL ret rm → (cx_M C).name = y.name → am_W E C (am_MQ E C post rm.cells rm.slots) μ 0 0 0 ls []) : am_Ct E y cc nL ret rm as μ post := by
  refine Met.ofW (cc := cc) (maxL := nL) (ret := ret) hy rfl ?_
  intro p e s m args below meth c s₁ B hml hv
  obtain ⟨rfl, hAg, hK, hb⟩ := hv
  have hts := atoms_spec (ws := Cond.code y cc nL ret :: am_G) B.pre
  have hown : s.vm.findClass y.cls = some m.cls := findClass_of_methodNamed B.named
  have fx : am_F E (p, e, rm, s, m, (as.map (am_tr E)).toArray, below, meth, c) cc y.cls nL ret rm := ⟨B.exec, B.bytes, hml, hown, fun w hw => hts w (List.mem_cons_of_mem _ hw), hK, rfl, hb, B.returns, B.notSynchronized⟩
  have hlen : (lg_sl (as.map (am_tr E))).length ≤ nL := by rw [am_lay_len]; exact hl
  have hla := lv_entry (as.map (am_tr E)) (n := nL) hlen
  rw [lg_entry_eq]
  refine body _ fx (name_of_methodNamed B.named B.method).1 s.heap [] _ hAg va_S.rf ⟨by rw [show (cx_c (p, e, rm, s, m, (as.map (am_tr E)).toArray, below, meth, c)).maxLocals = nL from hml]; exact hla.1, hla.2.1, fun i v hi => ?_⟩
  subst hls
  have hi2 : (am_lay as)[i]? = some (some v) := by
    unfold am_en at hi
    by_cases h : i < (am_lay as).length
    · rwa [List.getElem?_append_left h] at hi
    · rw [List.getElem?_append_right (by omega), List.getElem?_replicate] at hi
      split at hi <;> cases hi
  have := am_lay_in E as 0 i v hi2
  rw [Nat.zero_add] at this
  exact hla.2.2 _ this
section AMX
variable {E : am_E} {C : am_C} {cc : ByteArray} {own : String} {nL : Nat} {ret : Option FieldType} {R : Room} {Q : State → Prop} {μ : am_M} {cl sl pc : Nat} {ls : List (Option Value)} {st : List Value} {post : Option Value → am_M → Prop}
theorem am_end {H : Heap} {locs : List Loc} {v : Option Value} (hA : am_Ag E μ H) (hS : va_S (am_A E) (cx_s C).heap H locs) (hp : post v μ) {o : Option Value} (ho : o = v.map (am_tr E)) : ∀ t : State, t.heap = H → (cx_s C).WarmedH t.vm → am_Qc E post (cx_a C) (cx_s C) (.returned o) t := fun t ht _ => ⟨⟨v, μ, by rw [ho], hp, by rw [ht]; exact hA⟩, hS.F ht⟩
theorem am_iret (fx : am_F E C cc own nL (some .int) R) {v : Int32} (hd : decode cc pc = .ok (.ireturn, 1)) (hp : post (some (.int v)) μ) : am_W E C (am_MQ E C post cl sl) μ cl sl pc ls [.int v] := fun H locs la hA hS hl => W.iret fx.1 fx.2.1 fx.2.2.2.2.2.2.2.2.1 (am_end hA hS hp rfl) hS.2.2 hd fx.2.2.2.2.2.2.2.2.2
theorem am_zret (fx : am_F E C cc own nL (some .boolean) R) {v : Int32} (hd : decode cc pc = .ok (.ireturn, 1)) (hv : v = 0 ∨ v = 1) (hp : post (some (.int v)) μ) : am_W E C (am_MQ E C post cl sl) μ cl sl pc ls [.int v] := fun H locs la hA hS hl => W.zret fx.1 fx.2.1 fx.2.2.2.2.2.2.2.2.1 (by rcases hv with rfl | rfl <;> rfl) (am_end hA hS hp rfl) hS.2.2 hd fx.2.2.2.2.2.2.2.2.2
theorem am_lret (fx : am_F E C cc own nL (some .long) R) {v : Int64} (hd : decode cc pc = .ok (.lreturn, 1)) (hp : post (some (.long v)) μ) : am_W E C (am_MQ E C post cl sl) μ cl sl pc ls [.long v] := fun H locs la hA hS hl => W.lret fx.1 fx.2.1 fx.2.2.2.2.2.2.2.2.1 (am_end hA hS hp rfl) hS.2.2 hd fx.2.2.2.2.2.2.2.2.2
theorem am_vret (fx : am_F E C cc own nL none R) (hd : decode cc pc = .ok (.return_, 1)) (hp : post none μ) : am_W E C (am_MQ E C post cl sl) μ cl sl pc ls [] := fun H locs la hA hS hl => W.vret fx.1 fx.2.1 fx.2.2.2.2.2.2.2.2.1 (am_end (v := none) hA hS hp rfl) hS.2.2 hd fx.2.2.2.2.2.2.2.2.2
theorem am_aret {t : FieldType} (fx : am_F E C cc own nL (some (.array t)) R) {a : Nat} (hd : decode cc pc = .ok (.areturn, 1)) (hp : post (some (.ref a)) μ) : am_W E C (am_MQ E C post cl sl) μ cl sl pc ls [.ref a] := fun H locs la hA hS hl => W.aret (v := .ref (am_rho E a)) fx.1 fx.2.1 fx.2.2.2.2.2.2.2.2.1 (Or.inr ⟨_, rfl⟩) (Or.inr ⟨_, rfl⟩) (am_end (v := some (.ref a)) hA hS hp rfl) hS.2.2 hd fx.2.2.2.2.2.2.2.2.2
theorem am_back {H : Heap} {locs : List Loc} {la : Array Slot} {mc ms : Nat} {stk : List Value} {rest : List Value} {a : Array Value} (hS : va_S (am_A E) (cx_s C).heap H locs) (hl : am_ls E la (cx_c C).maxLocals ls)
    (hr : va_Run (cx_p C) E.1 (cx_e C) (cx_R C) (cx_s C) (cx_m C) (cx_a C) (cx_b C) (cx_M C) (cx_c C) H locs cl sl mc ms (F0 (cx_m C) pc la stk) (rest.map (am_tr E)) (am_Qc E post a) (am_A E))
    (kk : ∀ (v : Option Value) (μ' : am_M), post v μ' → am_W E C Q μ' (cl + mc) (sl + ms) (pc + 3) ls (v.toList ++ rest)) : W (cx_p C) E.1 (cx_e C) (cx_R C) (cx_s C) (cx_m C) (cx_a C) (cx_b C) (cx_M C) (cx_c C) H locs cl sl Q (F0 (cx_m C) pc la stk) := by
  intro T hT X
  obtain ⟨v, st₀, t, T', L, h0, X', hL, e1, e2, ⟨⟨v', μ', hv, hp, hA'⟩, hz, hk⟩, step⟩ := hr T hT X
  cases hv
  rw [h0] at hz hk
  have hS' : va_S (am_A E) (cx_s C).heap T'.heap (locs ++ L) := ⟨Nat.le_trans hS.1 (by rw [e1]; exact hz), fun q h1 h2 => by rw [e1, hk q (Nat.lt_of_lt_of_le h1 hS.1) h2]; exact hS.2.1 q h1 h2, fun q hq => by
    rcases List.mem_append.mp hq with h | h
    · exact hS.2.2 q h
    · exact hL q h⟩
  obtain ⟨t2, a1, b1⟩ := kk v' μ' hp T'.heap (locs ++ L) la (by rw [e1]; exact hA') hS' hl T' rfl X'
  refine ⟨t2, step t2 ?_, b1⟩
  have e3 : (v'.map (am_tr E)).toList ++ rest.map (am_tr E) = (v'.toList ++ rest).map (am_tr E) := by cases v' <;> rfl
  rw [e3]
  exact a1
/-- the words of a call's method -/
def am_mk (own : String) (idx : Nat) (y : MethodName) (cc : ByteArray) (nL : Nat) (ret : Option FieldType) (n : Nat) : Prop := (Cond.methodLink own idx y ∈ am_G ∨ ∃ host, Cond.methodLinkNest own idx y host ∈ am_N) ∧ Cond.code y cc nL ret ∈ am_G ∧ Cond.initialized y.cls ∈ am_G ∧ (y.cls ≠ "java/lang/invoke/MethodHandle" ∧ y.cls ≠ "java/lang/invoke/VarHandle" ∧ (parseMethodDescriptor y.desc).map (fun d => d.parameters.length) = some n)
theorem am_good {y : MethodName} {cc : ByteArray} {nL : Nat} {ret : Option FieldType} (h : Cond.code y cc nL ret ∈ am_G) : GoodIn am_G (Cond.code y cc nL ret :: am_G) := by
  intro w hw
  rcases List.mem_cons.mp hw with rfl | hw
  · exact ⟨h, good_of_word (List.mem_filter.mp h).2⟩
  · exact ⟨hw, good_of_word (List.mem_filter.mp hw).2⟩
theorem am_Pc_blind {as : List Value} : FrameBlind (am_Pc E as μ) := fun a U g mk q => ⟨q.1, q.2.1, ⟨va_K.moved (u := U) (U := U.calling g mk a) (Vm.Alike.refl U.vm) q.2.2.1.1, fun w hw => by
    have h3 := (List.mem_filter.mp hw).2
    have h2 := q.2.2.1.2.1 w hw
    cases w <;> first | (simp [am_isN] at h3; done) | exact va_Nw.same rfl (u := U) (U := U.calling g mk a) rfl h2, q.2.2.1.2.2⟩, q.2.2.2⟩
theorem am_callV (fx : am_F E C cc own nL ret R) {y : MethodName} {cc' : ByteArray} {nL' n idx a ci : Nat} {ret' : Option FieldType} {rm : Room} {As rest : List Value} (hd : decode cc pc = .ok (.invokevirtual idx, 3)) (lk : am_mk own idx y cc' nL' ret' n ∧ Cond.instanceMethod y ∈ am_G ∧ Cond.selects y.cls y y ∈ am_G) (hM : am_Ct E y cc' nL' ret' rm (.ref a :: As) μ post) (hs : (mm_S μ a).1 = ci) (hc : ci < 8 ∧ (am_cl ci).1 = y.cls) (hn : As.length = n) (hw : (rest.map fun v => v.category).sum ≤ 8) (hR : rm.frames + 1 ≤ R.frames ∧ 8 + (nL' + 11) + rm.locals ≤ R.locals) (hf : cl + rm.cells ≤ R.cells ∧ sl + rm.slots ≤ R.slots) (hst : st = As.reverse ++ .ref a :: rest)
    (kk : ∀ (v : Option Value) (μ' : am_M), post v μ' → am_W E C Q μ' (cl + rm.cells) (sl + rm.slots) (pc + 3) ls (v.toList ++ rest)) : am_W E C Q μ cl sl pc ls st := by
  intro H locs la hA hS hl
  subst hst
  obtain ⟨⟨hlk, hcode, hini, hy1, hy2, hpar⟩, hin, hsel⟩ := lk
  have hts := fx.2.2.2.2.1
  have hEq : cx_R C = R := fx.2.2.2.2.2.2.1
  have hat := (hA.2.2 a).2.1 (by rw [hs]; exact hc.1)
  rw [hs] at hat
  obtain ⟨cell, q1, q2, q3, q4⟩ := hat
  have hfc := (fx.2.2.2.2.2.1.1.1 ci _ (am_cl_at hc.1)).2.1
  have hp : PreV (cx_s C) H y.cls (am_rho E a) (am_Pc E (.ref a :: As) μ) (As.map (am_tr E)) := ⟨am_Pc_blind, ⟨cell, q1, by rw [q3]; rfl, by rw [q2, ← hc.2]; exact hfc⟩, fun U hU hW => ⟨rfl, by rw [hU]; exact hA, fx.2.2.2.2.2.1.warm hW, by rw [hU]; exact Nat.le_trans fx.2.2.2.2.2.2.2.1 hS.1⟩⟩
  have hmap : (As.reverse ++ .ref a :: rest).map (am_tr E) = (As.map (am_tr E)).reverse ++ .ref (am_rho E a) :: rest.map (am_tr E) := by rw [List.map_append, List.map_reverse]; rfl
  rw [hmap]
  have hw2 : 2 * (F0 (cx_m C) pc la ((As.map (am_tr E)).reverse ++ .ref (am_rho E a) :: rest.map (am_tr E))).monitorRoom + ((rest.map (am_tr E)).map fun v => v.category).sum ≤ 8 := lv_room (by rw [List.map_map, show ((fun v : Value => v.category) ∘ am_tr E) = fun v => v.category from funext fun v => am_tr_cat E v]; exact hw)
  rw [← hEq] at hR hf
  rcases hlk with hlk | ⟨host, hlk⟩
  · refine am_back (a := (Value.ref (am_rho E a) :: As.map (am_tr E)).toArray) hS hl (va_runV (As := As.map (am_tr E)) (rest := rest.map (am_tr E)) (b := am_rho E a) (C := y.cls) (maxL := nL') (ret := ret') (bytes := cc') (index := idx) (n := n) ⟨fx.1, fx.2.1, fx.2.2.1, fx.2.2.2.1, hts⟩ hM ⟨callB_of n hts (am_good hcode) rfl rfl rfl (hts _ hini) (hts _ hlk) ⟨hy1, hy2, hpar⟩ hR, hts _ hin, hts _ hsel⟩ hp rfl (by simpa using hn) (hl.1.trans fx.2.2.1) rfl hw2 hd hf) kk
  · refine am_back (a := (Value.ref (am_rho E a) :: As.map (am_tr E)).toArray) hS hl (va_runVN (As := As.map (am_tr E)) (rest := rest.map (am_tr E)) (b := am_rho E a) (C := y.cls) (maxL := nL') (ret := ret') (bytes := cc') (index := idx) (n := n) (host := host) ⟨fx.1, fx.2.1, fx.2.2.1, fx.2.2.2.1, hts⟩ hM ⟨va_cnB n hts (am_good hcode) rfl rfl rfl (fx.2.2.2.2.2.1.2.1 _ hlk) (hts _ hini) ⟨hy1, hy2, hpar⟩ hR, hts _ hin, hts _ hsel⟩ hp rfl (by simpa using hn) (hl.1.trans fx.2.2.1) rfl hw2 hd hf) kk
theorem am_callS (fx : am_F E C cc own nL ret R) {y : MethodName} {cc' : ByteArray} {nL' n idx : Nat} {ret' : Option FieldType} {rm : Room} {As rest : List Value} (hd : decode cc pc = .ok (.invokestatic idx, 3)) (lk : am_mk own idx y cc' nL' ret' n ∧ Cond.static y ∈ am_G) (hM : am_Ct E y cc' nL' ret' rm As μ post) (hn : As.length = n) (hw : (rest.map fun v => v.category).sum ≤ 8) (hR : rm.frames + 1 ≤ R.frames ∧ 8 + (nL' + 11) + rm.locals ≤ R.locals) (hf : cl + rm.cells ≤ R.cells ∧ sl + rm.slots ≤ R.slots) (hst : st = As.reverse ++ rest)
    (kk : ∀ (v : Option Value) (μ' : am_M), post v μ' → am_W E C Q μ' (cl + rm.cells) (sl + rm.slots) (pc + 3) ls (v.toList ++ rest)) : am_W E C Q μ cl sl pc ls st := by
  intro H locs la hA hS hl
  subst hst
  obtain ⟨⟨hlk, hcode, hini, hy1, hy2, hpar⟩, hstt⟩ := lk
  have hts := fx.2.2.2.2.1
  have hEq : cx_R C = R := fx.2.2.2.2.2.2.1
  have hp : PreS (cx_s C) H (am_Pc E As μ) (As.map (am_tr E)) := ⟨am_Pc_blind, fun U hU hW => ⟨rfl, by rw [hU]; exact hA, fx.2.2.2.2.2.1.warm hW, by rw [hU]; exact Nat.le_trans fx.2.2.2.2.2.2.2.1 hS.1⟩⟩
  have hmap : (As.reverse ++ rest).map (am_tr E) = (As.map (am_tr E)).reverse ++ rest.map (am_tr E) := by rw [List.map_append, List.map_reverse]
  rw [hmap]
  have hw2 : 2 * (F0 (cx_m C) pc la ((As.map (am_tr E)).reverse ++ rest.map (am_tr E))).monitorRoom + ((rest.map (am_tr E)).map fun v => v.category).sum ≤ 8 := lv_room (by rw [List.map_map, show ((fun v : Value => v.category) ∘ am_tr E) = fun v => v.category from funext fun v => am_tr_cat E v]; exact hw)
  rw [← hEq] at hR hf
  rcases hlk with hlk | ⟨host, hlk⟩
  · refine am_back (a := (As.map (am_tr E)).toArray) hS hl (va_runS (As := As.map (am_tr E)) (rest := rest.map (am_tr E)) (maxL := nL') (ret := ret') (bytes := cc') (index := idx) (n := n) ⟨fx.1, fx.2.1, fx.2.2.1, fx.2.2.2.1, hts⟩ hM ⟨callB_of n hts (am_good hcode) rfl rfl rfl (hts _ hini) (hts _ hlk) ⟨hy1, hy2, hpar⟩ hR, hts _ hstt⟩ hp rfl (by simpa using hn) (hl.1.trans fx.2.2.1) rfl hw2 hd hf) kk
  · refine am_back (a := (As.map (am_tr E)).toArray) hS hl (va_runSN (As := As.map (am_tr E)) (rest := rest.map (am_tr E)) (maxL := nL') (ret := ret') (bytes := cc') (index := idx) (n := n) (host := host) ⟨fx.1, fx.2.1, fx.2.2.1, fx.2.2.2.1, hts⟩ hM ⟨va_cnB n hts (am_good hcode) rfl rfl rfl (fx.2.2.2.2.2.1.2.1 _ hlk) (hts _ hini) ⟨hy1, hy2, hpar⟩ hR, hts _ hstt, trivial⟩ hp rfl (by simpa using hn) (hl.1.trans fx.2.2.1) rfl hw2 hd hf) kk
theorem am_callI (fx : am_F E C cc own nL ret R) {y : MethodName} {cc' : ByteArray} {nL' n idx a : Nat} {rm : Room} {As rest : List Value} (hd : decode cc pc = .ok (.invokespecial idx, 3)) (lk : am_mk own idx y cc' nL' none n ∧ y.name = "<init>" ∧ Cond.instanceMethod y ∈ am_G) (hM : am_Ct E y cc' nL' none rm (.ref a :: As) μ post) (hn : As.length = n) (hw : (rest.map fun v => v.category).sum ≤ 8) (hR : rm.frames + 1 ≤ R.frames ∧ 8 + (nL' + 11) + rm.locals ≤ R.locals) (hf : cl + rm.cells ≤ R.cells ∧ sl + rm.slots ≤ R.slots) (hst : st = As.reverse ++ .ref a :: rest)
    (kk : ∀ (v : Option Value) (μ' : am_M), post v μ' → am_W E C Q μ' (cl + rm.cells) (sl + rm.slots) (pc + 3) ls (v.toList ++ rest)) : am_W E C Q μ cl sl pc ls st := by
  intro H locs la hA hS hl
  subst hst
  obtain ⟨⟨hlk, hcode, hini, hy1, hy2, hpar⟩, hnm, hin⟩ := lk
  have hts := fx.2.2.2.2.1
  have hEq : cx_R C = R := fx.2.2.2.2.2.2.1
  have hp : PreS (cx_s C) H (am_Pc E (.ref a :: As) μ) (.ref (am_rho E a) :: As.map (am_tr E)) := ⟨am_Pc_blind, fun U hU hW => ⟨rfl, by rw [hU]; exact hA, fx.2.2.2.2.2.1.warm hW, by rw [hU]; exact Nat.le_trans fx.2.2.2.2.2.2.2.1 hS.1⟩⟩
  have hmap : (As.reverse ++ .ref a :: rest).map (am_tr E) = (As.map (am_tr E)).reverse ++ .ref (am_rho E a) :: rest.map (am_tr E) := by rw [List.map_append, List.map_reverse]; rfl
  rw [hmap]
  have hw2 : 2 * (F0 (cx_m C) pc la ((As.map (am_tr E)).reverse ++ .ref (am_rho E a) :: rest.map (am_tr E))).monitorRoom + ((rest.map (am_tr E)).map fun v => v.category).sum ≤ 8 := lv_room (by rw [List.map_map, show ((fun v : Value => v.category) ∘ am_tr E) = fun v => v.category from funext fun v => am_tr_cat E v]; exact hw)
  rw [← hEq] at hR hf
  rcases hlk with hlk | ⟨host, hlk⟩
  · refine am_back (a := (Value.ref (am_rho E a) :: As.map (am_tr E)).toArray) hS hl (va_runI (As := As.map (am_tr E)) (rest := rest.map (am_tr E)) (b := am_rho E a) (maxL := nL') (bytes := cc') (index := idx) (n := n) ⟨fx.1, fx.2.1, fx.2.2.1, fx.2.2.2.1, hts⟩ hM ⟨callB_of n hts (am_good hcode) rfl rfl rfl (hts _ hini) (hts _ hlk) ⟨hy1, hy2, hpar⟩ hR, hnm, hts _ hin⟩ hp rfl (by simpa using hn) (hl.1.trans fx.2.2.1) rfl hw2 hd hf) kk
  · refine am_back (a := (Value.ref (am_rho E a) :: As.map (am_tr E)).toArray) hS hl (va_runIN (As := As.map (am_tr E)) (rest := rest.map (am_tr E)) (b := am_rho E a) (maxL := nL') (bytes := cc') (index := idx) (n := n) (host := host) ⟨fx.1, fx.2.1, fx.2.2.1, fx.2.2.2.1, hts⟩ hM ⟨va_cnB n hts (am_good hcode) rfl rfl rfl (fx.2.2.2.2.2.1.2.1 _ hlk) (hts _ hini) ⟨hy1, hy2, hpar⟩ hR, hnm, hts _ hin⟩ hp rfl (by simpa using hn) (hl.1.trans fx.2.2.1) rfl hw2 hd hf) kk
theorem am_objInit (fx : am_F E C cc own nL ret R) {idx a : Nat} (hd : decode cc pc = .ok (.invokespecial idx, 3)) (h1 : Cond.methodLink own idx objectInit ∈ am_G) (h2 : Cond.instanceMethod objectInit ∈ am_G) (h3 : Cond.code objectInit ⟨#[0xb1]⟩ 1 none ∈ am_G) (hR : 1 ≤ R.frames ∧ (st.map fun v => v.category).sum + 12 ≤ R.locals) (kk : am_W E C Q μ cl sl (pc + 3) ls st) : am_W E C Q μ cl sl pc ls (.ref a :: st) := by
  intro H locs la hA hS hl
  have hts := fx.2.2.2.2.1
  have hEq : cx_R C = R := fx.2.2.2.2.2.2.1
  rw [← hEq] at hR
  refine W.objInit fx.1 fx.2.1 fx.2.2.2.1 (hts _ h1) (hts _ h2) (hts _ h3) rfl hl.1 rfl hd hR.1 ?_ (kk H locs la hA hS hl)
  have h := hR.2
  show 2 * 0 + ((st.map (am_tr E)).map fun v => v.category).sum + 12 ≤ _
  rw [List.map_map, show ((fun v : Value => v.category) ∘ am_tr E) = fun v => v.category from funext fun v => am_tr_cat E v]
  omega
theorem am_mmax (fx : am_F E C cc own nL ret R) {idx : Nat} {x y v : Int32} (hd : decode cc pc = .ok (.invokestatic idx, 3)) (h1 : Cond.methodLink own idx Lib.Math.max.name ∈ am_G) (h2 : Cond.static Lib.Math.max.name ∈ am_G) (h3 : Cond.initialized "java/lang/Math" ∈ am_G) (h4 : Cond.code Lib.Math.max.name Lib.Math.max.code 2 (some .int) ∈ am_G) (hR : 1 ≤ R.frames ∧ (st.map fun v => v.category).sum + 13 ≤ R.locals ∧ cl ≤ R.cells ∧ sl ≤ R.slots) (hv : (if x < y then y else x) = v) (kk : am_W E C Q μ cl sl (pc + 3) ls (.int v :: st)) : am_W E C Q μ cl sl pc ls (.int y :: .int x :: st) := by
  intro H locs la hA hS hl
  subst hv
  have hts := fx.2.2.2.2.1
  have hEq : cx_R C = R := fx.2.2.2.2.2.2.1
  rw [← hEq] at hR
  refine va_mmax fx.1 fx.2.1 hl.1.symm fx.2.2.2.1 (hts _ h1) (hts _ h2) (hts _ h3) (hts _ h4) hR.1 ?_ hR.2.2.1 hR.2.2.2 hd (kk H locs la hA hS hl)
  rw [List.map_map, show ((fun v : Value => v.category) ∘ am_tr E) = fun v => v.category from funext fun v => am_tr_cat E v]
  exact hR.2.1
theorem am_mmin (fx : am_F E C cc own nL ret R) {idx : Nat} {x y v : Int32} (hd : decode cc pc = .ok (.invokestatic idx, 3)) (h1 : Cond.methodLink own idx Lib.Math.min.name ∈ am_G) (h2 : Cond.static Lib.Math.min.name ∈ am_G) (h3 : Cond.initialized "java/lang/Math" ∈ am_G) (h4 : Cond.code Lib.Math.min.name Lib.Math.min.code 2 (some .int) ∈ am_G) (hR : 1 ≤ R.frames ∧ (st.map fun v => v.category).sum + 13 ≤ R.locals ∧ cl ≤ R.cells ∧ sl ≤ R.slots) (hv : (if y < x then y else x) = v) (kk : am_W E C Q μ cl sl (pc + 3) ls (.int v :: st)) : am_W E C Q μ cl sl pc ls (.int y :: .int x :: st) := by
  intro H locs la hA hS hl
  subst hv
  have hts := fx.2.2.2.2.1
  have hEq : cx_R C = R := fx.2.2.2.2.2.2.1
  rw [← hEq] at hR
  refine va_mmin fx.1 fx.2.1 hl.1.symm fx.2.2.2.1 (hts _ h1) (hts _ h2) (hts _ h3) (hts _ h4) hR.1 ?_ hR.2.2.1 hR.2.2.2 hd (kk H locs la hA hS hl)
  rw [List.map_map, show ((fun v : Value => v.category) ∘ am_tr E) = fun v => v.category from funext fun v => am_tr_cat E v]
  exact hR.2.1
theorem am_mabs (fx : am_F E C cc own nL ret R) {idx : Nat} {x v : Int32} (hd : decode cc pc = .ok (.invokestatic idx, 3)) (h1 : Cond.methodLink own idx Lib.Math.abs.name ∈ am_G) (h2 : Cond.static Lib.Math.abs.name ∈ am_G) (h3 : Cond.initialized "java/lang/Math" ∈ am_G) (h4 : Cond.code Lib.Math.abs.name Lib.Math.abs.code 1 (some .int) ∈ am_G) (hR : 1 ≤ R.frames ∧ (st.map fun v => v.category).sum + 13 ≤ R.locals ∧ cl ≤ R.cells ∧ sl ≤ R.slots) (hv : (if 0 ≤ x then x else 0 - x) = v) (kk : am_W E C Q μ cl sl (pc + 3) ls (.int v :: st)) : am_W E C Q μ cl sl pc ls (.int x :: st) := by
  intro H locs la hA hS hl
  subst hv
  have hts := fx.2.2.2.2.1
  have hEq : cx_R C = R := fx.2.2.2.2.2.2.1
  rw [← hEq] at hR
  refine va_mabs fx.1 fx.2.1 hl.1.symm fx.2.2.2.1 (hts _ h1) (hts _ h2) (hts _ h3) (hts _ h4) hR.1 ?_ hR.2.2.1 hR.2.2.2 hd (kk H locs la hA hS hl)
  rw [List.map_map, show ((fun v : Value => v.category) ∘ am_tr E) = fun v => v.category from funext fun v => am_tr_cat E v]
  exact hR.2.1
end AMX
end
section
theorem kw_oi : Cond.instanceMethod objectInit ∈ am_G := am_inG 62 (by decide +kernel) (by decide +kernel)
theorem kw_oc : Cond.code objectInit ⟨#[0xb1]⟩ 1 none ∈ am_G := am_inG 63 (by decide +kernel) (by decide +kernel)
theorem kw_aint : Cond.arrayClass .int ∈ am_G := am_inG 101 (by decide +kernel) (by decide +kernel)
theorem kw_along : Cond.arrayClass .long ∈ am_G := am_inG 130 (by decide +kernel) (by decide +kernel)
theorem kw_aboolean : Cond.arrayClass .boolean ∈ am_G := am_inG 102 (by decide +kernel) (by decide +kernel)
theorem kw_smax : Cond.static Lib.Math.max.name ∈ am_G := am_inG 522 (by decide +kernel) (by decide +kernel)
theorem kw_cmax : Cond.code Lib.Math.max.name Lib.Math.max.code 2 (some .int) ∈ am_G := am_inG 523 (by decide +kernel) (by decide +kernel)
theorem kw_smin : Cond.static Lib.Math.min.name ∈ am_G := am_inG 430 (by decide +kernel) (by decide +kernel)
theorem kw_cmin : Cond.code Lib.Math.min.name Lib.Math.min.code 2 (some .int) ∈ am_G := am_inG 431 (by decide +kernel) (by decide +kernel)
theorem kw_sabs : Cond.static Lib.Math.abs.name ∈ am_G := am_inG 437 (by decide +kernel) (by decide +kernel)
theorem kw_cabs : Cond.code Lib.Math.abs.name Lib.Math.abs.code 1 (some .int) ∈ am_G := am_inG 438 (by decide +kernel) (by decide +kernel)
theorem knL : Cond.initialized RL ∈ am_G := am_inG 41 (by decide +kernel) (by decide +kernel)
theorem knX6 : Cond.initialized RX6 ∈ am_G := am_inG 42 (by decide +kernel) (by decide +kernel)
theorem knX5 : Cond.initialized RX5 ∈ am_G := am_inG 43 (by decide +kernel) (by decide +kernel)
theorem knJ7 : Cond.initialized RJ7 ∈ am_G := am_inG 44 (by decide +kernel) (by decide +kernel)
theorem knX0 : Cond.initialized RX0 ∈ am_G := am_inG 45 (by decide +kernel) (by decide +kernel)
theorem knX1 : Cond.initialized RX1 ∈ am_G := am_inG 46 (by decide +kernel) (by decide +kernel)
theorem knX4 : Cond.initialized RX4 ∈ am_G := am_inG 47 (by decide +kernel) (by decide +kernel)
theorem knX7 : Cond.initialized RX7 ∈ am_G := am_inG 48 (by decide +kernel) (by decide +kernel)
theorem knX3 : Cond.initialized RX3 ∈ am_G := am_inG 49 (by decide +kernel) (by decide +kernel)
theorem knX2 : Cond.initialized RX2 ∈ am_G := am_inG 50 (by decide +kernel) (by decide +kernel)
theorem knJ9 : Cond.initialized RJ9 ∈ am_G := am_inG 51 (by decide +kernel) (by decide +kernel)
theorem ktX6 : Cond.instantiable RX6 5 ∈ am_G := am_inG 57 (by decide +kernel) (by decide +kernel)
theorem ktX5 : Cond.instantiable RX5 6 ∈ am_G := am_inG 65 (by decide +kernel) (by decide +kernel)
theorem ktX0 : Cond.instantiable RX0 6 ∈ am_G := am_inG 104 (by decide +kernel) (by decide +kernel)
theorem ktX1 : Cond.instantiable RX1 7 ∈ am_G := am_inG 132 (by decide +kernel) (by decide +kernel)
theorem ktX4 : Cond.instantiable RX4 7 ∈ am_G := am_inG 162 (by decide +kernel) (by decide +kernel)
theorem ktX3 : Cond.instantiable RX3 6 ∈ am_G := am_inG 262 (by decide +kernel) (by decide +kernel)
theorem ktX2 : Cond.instantiable RX2 15 ∈ am_G := am_inG 298 (by decide +kernel) (by decide +kernel)
theorem ktX7 : Cond.instantiable RX7 34 ∈ am_G := am_inG 704 (by decide +kernel) (by decide +kernel)
abbrev rmX0_init : Room := { frames := 1, cells := 3, slots := 649, locals := 20 }
theorem kcX0_init : Cond.code yX0_init cX0_init 1 none ∈ am_G := am_inG 107 (by decide +kernel) (by decide +kernel)
theorem kiX0_init : Cond.instanceMethod yX0_init ∈ am_G := am_inG 106 (by decide +kernel) (by decide +kernel)
abbrev rmX0_clear : Room := { frames := 0, cells := 0, slots := 0, locals := 0 }
theorem kcX0_clear : Cond.code yX0_clear cX0_clear 1 none ∈ am_G := am_inG 424 (by decide +kernel) (by decide +kernel)
theorem kiX0_clear : Cond.instanceMethod yX0_clear ∈ am_G := am_inG 422 (by decide +kernel) (by decide +kernel)
theorem ksX0_clear : Cond.selects RX0 yX0_clear yX0_clear ∈ am_G := am_inG 423 (by decide +kernel) (by decide +kernel)
abbrev rmX0_addRound : Room := { frames := 1, cells := 0, slots := 0, locals := 21 }
theorem kcX0_addRound : Cond.code yX0_addRound cX0_addRound 3 none ∈ am_G := am_inG 435 (by decide +kernel) (by decide +kernel)
theorem kiX0_addRound : Cond.instanceMethod yX0_addRound ∈ am_G := am_inG 433 (by decide +kernel) (by decide +kernel)
theorem ksX0_addRound : Cond.selects RX0 yX0_addRound yX0_addRound ∈ am_G := am_inG 434 (by decide +kernel) (by decide +kernel)
abbrev rmX0_count : Room := { frames := 1, cells := 0, slots := 0, locals := 24 }
theorem kcX0_count : Cond.code yX0_count cX0_count 6 none ∈ am_G := am_inG 442 (by decide +kernel) (by decide +kernel)
theorem kiX0_count : Cond.instanceMethod yX0_count ∈ am_G := am_inG 440 (by decide +kernel) (by decide +kernel)
theorem ksX0_count : Cond.selects RX0 yX0_count yX0_count ∈ am_G := am_inG 441 (by decide +kernel) (by decide +kernel)
abbrev rmX0_addSign : Room := { frames := 0, cells := 0, slots := 0, locals := 0 }
theorem kcX0_addSign : Cond.code yX0_addSign cX0_addSign 4 none ∈ am_G := am_inG 454 (by decide +kernel) (by decide +kernel)
theorem kiX0_addSign : Cond.instanceMethod yX0_addSign ∈ am_G := am_inG 453 (by decide +kernel) (by decide +kernel)
theorem ksX0_addSign : Cond.selects RX0 yX0_addSign yX0_addSign ∈ am_G := am_inG 7 (by decide +kernel) (by decide +kernel)
abbrev rmX0_weightOf : Room := { frames := 0, cells := 0, slots := 0, locals := 0 }
theorem kcX0_weightOf : Cond.code yX0_weightOf cX0_weightOf 4 (some .int) ∈ am_G := am_inG 449 (by decide +kernel) (by decide +kernel)
theorem kiX0_weightOf : Cond.instanceMethod yX0_weightOf ∈ am_G := am_inG 448 (by decide +kernel) (by decide +kernel)
theorem ksX0_weightOf : Cond.selects RX0 yX0_weightOf yX0_weightOf ∈ am_G := am_inG 6 (by decide +kernel) (by decide +kernel)
abbrev rmX0_areAbove : Room := { frames := 0, cells := 0, slots := 0, locals := 0 }
theorem kcX0_areAbove : Cond.code yX0_areAbove cX0_areAbove 3 (some .boolean) ∈ am_G := am_inG 459 (by decide +kernel) (by decide +kernel)
theorem kiX0_areAbove : Cond.instanceMethod yX0_areAbove ∈ am_G := am_inG 457 (by decide +kernel) (by decide +kernel)
theorem ksX0_areAbove : Cond.selects RX0 yX0_areAbove yX0_areAbove ∈ am_G := am_inG 458 (by decide +kernel) (by decide +kernel)
abbrev rmX1_init : Room := { frames := 1, cells := 17, slots := 361, locals := 20 }
theorem kcX1_init : Cond.code yX1_init cX1_init 1 none ∈ am_G := am_inG 135 (by decide +kernel) (by decide +kernel)
theorem kiX1_init : Cond.instanceMethod yX1_init ∈ am_G := am_inG 134 (by decide +kernel) (by decide +kernel)
abbrev rmX1_find : Room := { frames := 4, cells := 0, slots := 0, locals := 91 }
theorem kcX1_find : Cond.code yX1_find cX1_find 5 none ∈ am_G := am_inG 514 (by decide +kernel) (by decide +kernel)
theorem kiX1_find : Cond.instanceMethod yX1_find ∈ am_G := am_inG 512 (by decide +kernel) (by decide +kernel)
theorem ksX1_find : Cond.selects RX1 yX1_find yX1_find ∈ am_G := am_inG 513 (by decide +kernel) (by decide +kernel)
abbrev rmX1_memberAt : Room := { frames := 0, cells := 0, slots := 0, locals := 0 }
theorem kcX1_memberAt : Cond.code yX1_memberAt cX1_memberAt 2 (some .int) ∈ am_G := am_inG 551 (by decide +kernel) (by decide +kernel)
theorem kiX1_memberAt : Cond.instanceMethod yX1_memberAt ∈ am_G := am_inG 549 (by decide +kernel) (by decide +kernel)
theorem ksX1_memberAt : Cond.selects RX1 yX1_memberAt yX1_memberAt ∈ am_G := am_inG 550 (by decide +kernel) (by decide +kernel)
abbrev rmX1_gatherWhole : Room := { frames := 2, cells := 0, slots := 0, locals := 42 }
theorem kcX1_gatherWhole : Cond.code yX1_gatherWhole cX1_gatherWhole 3 none ∈ am_G := am_inG 518 (by decide +kernel) (by decide +kernel)
theorem kiX1_gatherWhole : Cond.instanceMethod yX1_gatherWhole ∈ am_G := am_inG 517 (by decide +kernel) (by decide +kernel)
theorem ksX1_gatherWhole : Cond.selects RX1 yX1_gatherWhole yX1_gatherWhole ∈ am_G := am_inG 8 (by decide +kernel) (by decide +kernel)
abbrev rmX1_placeFrom : Room := { frames := 3, cells := 0, slots := 0, locals := 67 }
theorem kcX1_placeFrom : Cond.code yX1_placeFrom cX1_placeFrom 5 none ∈ am_G := am_inG 530 (by decide +kernel) (by decide +kernel)
theorem kiX1_placeFrom : Cond.instanceMethod yX1_placeFrom ∈ am_G := am_inG 529 (by decide +kernel) (by decide +kernel)
theorem ksX1_placeFrom : Cond.selects RX1 yX1_placeFrom yX1_placeFrom ∈ am_G := am_inG 9 (by decide +kernel) (by decide +kernel)
abbrev rmX1_joinCosts : Room := { frames := 2, cells := 0, slots := 0, locals := 43 }
theorem kcX1_joinCosts : Cond.code yX1_joinCosts cX1_joinCosts 5 none ∈ am_G := am_inG 534 (by decide +kernel) (by decide +kernel)
theorem kiX1_joinCosts : Cond.instanceMethod yX1_joinCosts ∈ am_G := am_inG 533 (by decide +kernel) (by decide +kernel)
theorem ksX1_joinCosts : Cond.selects RX1 yX1_joinCosts yX1_joinCosts ∈ am_G := am_inG 10 (by decide +kernel) (by decide +kernel)
abbrev rmX1_lastThatCanRise : Room := { frames := 0, cells := 0, slots := 0, locals := 0 }
theorem kcX1_lastThatCanRise : Cond.code yX1_lastThatCanRise cX1_lastThatCanRise 2 (some .int) ∈ am_G := am_inG 547 (by decide +kernel) (by decide +kernel)
theorem kiX1_lastThatCanRise : Cond.instanceMethod yX1_lastThatCanRise ∈ am_G := am_inG 546 (by decide +kernel) (by decide +kernel)
theorem ksX1_lastThatCanRise : Cond.selects RX1 yX1_lastThatCanRise yX1_lastThatCanRise ∈ am_G := am_inG 12 (by decide +kernel) (by decide +kernel)
abbrev rmX1_keepIfLess : Room := { frames := 2, cells := 0, slots := 0, locals := 42 }
theorem kcX1_keepIfLess : Cond.code yX1_keepIfLess cX1_keepIfLess 4 none ∈ am_G := am_inG 539 (by decide +kernel) (by decide +kernel)
theorem kiX1_keepIfLess : Cond.instanceMethod yX1_keepIfLess ∈ am_G := am_inG 538 (by decide +kernel) (by decide +kernel)
theorem ksX1_keepIfLess : Cond.selects RX1 yX1_keepIfLess yX1_keepIfLess ∈ am_G := am_inG 11 (by decide +kernel) (by decide +kernel)
abbrev rmX2_init : Room := { frames := 1, cells := 18, slots := 372, locals := 24 }
theorem kcX2_init : Cond.code yX2_init cX2_init 4 none ∈ am_G := am_inG 301 (by decide +kernel) (by decide +kernel)
theorem kiX2_init : Cond.instanceMethod yX2_init ∈ am_G := am_inG 300 (by decide +kernel) (by decide +kernel)
abbrev rmX2_begin : Room := { frames := 1, cells := 0, slots := 0, locals := 20 }
theorem kcX2_begin : Cond.code yX2_begin cX2_begin 6 none ∈ am_G := am_inG 365 (by decide +kernel) (by decide +kernel)
theorem kiX2_begin : Cond.instanceMethod yX2_begin ∈ am_G := am_inG 363 (by decide +kernel) (by decide +kernel)
theorem ksX2_begin : Cond.selects RX2 yX2_begin yX2_begin ∈ am_G := am_inG 364 (by decide +kernel) (by decide +kernel)
abbrev rmX2_whyOver : Room := { frames := 0, cells := 0, slots := 0, locals := 0 }
theorem kcX2_whyOver : Cond.code yX2_whyOver cX2_whyOver 1 (some .int) ∈ am_G := am_inG 370 (by decide +kernel) (by decide +kernel)
theorem kiX2_whyOver : Cond.instanceMethod yX2_whyOver ∈ am_G := am_inG 369 (by decide +kernel) (by decide +kernel)
theorem ksX2_whyOver : Cond.selects RX2 yX2_whyOver yX2_whyOver ∈ am_G := am_inG 0 (by decide +kernel) (by decide +kernel)
abbrev rmX2_isEntered : Room := { frames := 0, cells := 0, slots := 0, locals := 0 }
theorem kcX2_isEntered : Cond.code yX2_isEntered cX2_isEntered 2 (some .boolean) ∈ am_G := am_inG 428 (by decide +kernel) (by decide +kernel)
theorem kiX2_isEntered : Cond.instanceMethod yX2_isEntered ∈ am_G := am_inG 426 (by decide +kernel) (by decide +kernel)
theorem ksX2_isEntered : Cond.selects RX2 yX2_isEntered yX2_isEntered ∈ am_G := am_inG 427 (by decide +kernel) (by decide +kernel)
abbrev rmX2_isLeft : Room := { frames := 0, cells := 0, slots := 0, locals := 0 }
theorem kcX2_isLeft : Cond.code yX2_isLeft cX2_isLeft 2 (some .boolean) ∈ am_G := am_inG 392 (by decide +kernel) (by decide +kernel)
theorem kiX2_isLeft : Cond.instanceMethod yX2_isLeft ∈ am_G := am_inG 390 (by decide +kernel) (by decide +kernel)
theorem ksX2_isLeft : Cond.selects RX2 yX2_isLeft yX2_isLeft ∈ am_G := am_inG 391 (by decide +kernel) (by decide +kernel)
abbrev rmX2_instanceAt : Room := { frames := 0, cells := 0, slots := 0, locals := 0 }
theorem kcX2_instanceAt : Cond.code yX2_instanceAt cX2_instanceAt 2 (some .int) ∈ am_G := am_inG 378 (by decide +kernel) (by decide +kernel)
theorem kiX2_instanceAt : Cond.instanceMethod yX2_instanceAt ∈ am_G := am_inG 376 (by decide +kernel) (by decide +kernel)
theorem ksX2_instanceAt : Cond.selects RX2 yX2_instanceAt yX2_instanceAt ∈ am_G := am_inG 377 (by decide +kernel) (by decide +kernel)
abbrev rmX2_remainingAt : Room := { frames := 1, cells := 0, slots := 0, locals := 21 }
theorem kcX2_remainingAt : Cond.code yX2_remainingAt cX2_remainingAt 4 (some .int) ∈ am_G := am_inG 467 (by decide +kernel) (by decide +kernel)
theorem kiX2_remainingAt : Cond.instanceMethod yX2_remainingAt ∈ am_G := am_inG 465 (by decide +kernel) (by decide +kernel)
theorem ksX2_remainingAt : Cond.selects RX2 yX2_remainingAt yX2_remainingAt ∈ am_G := am_inG 466 (by decide +kernel) (by decide +kernel)
abbrev rmX2_leftFrom : Room := { frames := 1, cells := 0, slots := 0, locals := 21 }
theorem kcX2_leftFrom : Cond.code yX2_leftFrom cX2_leftFrom 3 (some .int) ∈ am_G := am_inG 396 (by decide +kernel) (by decide +kernel)
theorem kiX2_leftFrom : Cond.instanceMethod yX2_leftFrom ∈ am_G := am_inG 395 (by decide +kernel) (by decide +kernel)
theorem ksX2_leftFrom : Cond.selects RX2 yX2_leftFrom yX2_leftFrom ∈ am_G := am_inG 1 (by decide +kernel) (by decide +kernel)
abbrev rmX2_runNext : Room := { frames := 5, cells := 0, slots := 0, locals := 117 }
theorem kcX2_runNext : Cond.code yX2_runNext cX2_runNext 2 (some .int) ∈ am_G := am_inG 386 (by decide +kernel) (by decide +kernel)
theorem kiX2_runNext : Cond.instanceMethod yX2_runNext ∈ am_G := am_inG 384 (by decide +kernel) (by decide +kernel)
theorem ksX2_runNext : Cond.selects RX2 yX2_runNext yX2_runNext ∈ am_G := am_inG 385 (by decide +kernel) (by decide +kernel)
abbrev rmX2_endRound : Room := { frames := 4, cells := 0, slots := 0, locals := 97 }
theorem kcX2_endRound : Cond.code yX2_endRound cX2_endRound 1 none ∈ am_G := am_inG 400 (by decide +kernel) (by decide +kernel)
theorem kiX2_endRound : Cond.instanceMethod yX2_endRound ∈ am_G := am_inG 399 (by decide +kernel) (by decide +kernel)
theorem ksX2_endRound : Cond.selects RX2 yX2_endRound yX2_endRound ∈ am_G := am_inG 2 (by decide +kernel) (by decide +kernel)
abbrev rmX2_dropWorse : Room := { frames := 3, cells := 0, slots := 0, locals := 73 }
theorem kcX2_dropWorse : Cond.code yX2_dropWorse cX2_dropWorse 5 none ∈ am_G := am_inG 404 (by decide +kernel) (by decide +kernel)
theorem kiX2_dropWorse : Cond.instanceMethod yX2_dropWorse ∈ am_G := am_inG 403 (by decide +kernel) (by decide +kernel)
theorem ksX2_dropWorse : Cond.selects RX2 yX2_dropWorse yX2_dropWorse ∈ am_G := am_inG 3 (by decide +kernel) (by decide +kernel)
abbrev rmX2_leader : Room := { frames := 3, cells := 0, slots := 0, locals := 71 }
theorem kcX2_leader : Cond.code yX2_leader cX2_leader 1 (some .int) ∈ am_G := am_inG 475 (by decide +kernel) (by decide +kernel)
theorem kiX2_leader : Cond.instanceMethod yX2_leader ∈ am_G := am_inG 473 (by decide +kernel) (by decide +kernel)
theorem ksX2_leader : Cond.selects RX2 yX2_leader yX2_leader ∈ am_G := am_inG 474 (by decide +kernel) (by decide +kernel)
abbrev rmX2_arrange : Room := { frames := 2, cells := 0, slots := 0, locals := 47 }
theorem kcX2_arrange : Cond.code yX2_arrange cX2_arrange 5 (some .int) ∈ am_G := am_inG 408 (by decide +kernel) (by decide +kernel)
theorem kiX2_arrange : Cond.instanceMethod yX2_arrange ∈ am_G := am_inG 407 (by decide +kernel) (by decide +kernel)
theorem ksX2_arrange : Cond.selects RX2 yX2_arrange yX2_arrange ∈ am_G := am_inG 4 (by decide +kernel) (by decide +kernel)
abbrev rmX2_rankOf : Room := { frames := 1, cells := 0, slots := 0, locals := 24 }
theorem kcX2_rankOf : Cond.code yX2_rankOf cX2_rankOf 4 (some .int) ∈ am_G := am_inG 412 (by decide +kernel) (by decide +kernel)
theorem kiX2_rankOf : Cond.instanceMethod yX2_rankOf ∈ am_G := am_inG 410 (by decide +kernel) (by decide +kernel)
theorem ksX2_rankOf : Cond.selects RX2 yX2_rankOf yX2_rankOf ∈ am_G := am_inG 411 (by decide +kernel) (by decide +kernel)
abbrev rmX2_rankAgainst : Room := { frames := 0, cells := 0, slots := 0, locals := 0 }
theorem kcX2_rankAgainst : Cond.code yX2_rankAgainst cX2_rankAgainst 5 (some .int) ∈ am_G := am_inG 416 (by decide +kernel) (by decide +kernel)
theorem kiX2_rankAgainst : Cond.instanceMethod yX2_rankAgainst ∈ am_G := am_inG 415 (by decide +kernel) (by decide +kernel)
theorem ksX2_rankAgainst : Cond.selects RX2 yX2_rankAgainst yX2_rankAgainst ∈ am_G := am_inG 5 (by decide +kernel) (by decide +kernel)
abbrev rmX2_countOdds : Room := { frames := 2, cells := 0, slots := 0, locals := 49 }
theorem kcX2_countOdds : Cond.code yX2_countOdds cX2_countOdds 5 none ∈ am_G := am_inG 420 (by decide +kernel) (by decide +kernel)
theorem kiX2_countOdds : Cond.instanceMethod yX2_countOdds ∈ am_G := am_inG 418 (by decide +kernel) (by decide +kernel)
theorem ksX2_countOdds : Cond.selects RX2 yX2_countOdds yX2_countOdds ∈ am_G := am_inG 419 (by decide +kernel) (by decide +kernel)
abbrev rmX2_sumOfFirst : Room := { frames := 1, cells := 0, slots := 0, locals := 21 }
theorem kcX2_sumOfFirst : Cond.code yX2_sumOfFirst cX2_sumOfFirst 6 (some .long) ∈ am_G := am_inG 702 (by decide +kernel) (by decide +kernel)
theorem kiX2_sumOfFirst : Cond.instanceMethod yX2_sumOfFirst ∈ am_G := am_inG 700 (by decide +kernel) (by decide +kernel)
theorem ksX2_sumOfFirst : Cond.selects RX2 yX2_sumOfFirst yX2_sumOfFirst ∈ am_G := am_inG 701 (by decide +kernel) (by decide +kernel)
abbrev rmX3_init : Room := { frames := 1, cells := 0, slots := 0, locals := 20 }
theorem kcX3_init : Cond.code yX3_init cX3_init 7 none ∈ am_G := am_inG 265 (by decide +kernel) (by decide +kernel)
theorem kiX3_init : Cond.instanceMethod yX3_init ∈ am_G := am_inG 264 (by decide +kernel) (by decide +kernel)
abbrev rmX3_areWithinBounds : Room := { frames := 1, cells := 0, slots := 0, locals := 22 }
theorem kcX3_areWithinBounds : Cond.code yX3_areWithinBounds cX3_areWithinBounds 1 (some .boolean) ∈ am_G := am_inG 295 (by decide +kernel) (by decide +kernel)
theorem kiX3_areWithinBounds : Cond.instanceMethod yX3_areWithinBounds ∈ am_G := am_inG 293 (by decide +kernel) (by decide +kernel)
theorem ksX3_areWithinBounds : Cond.selects RX3 yX3_areWithinBounds yX3_areWithinBounds ∈ am_G := am_inG 294 (by decide +kernel) (by decide +kernel)
abbrev rmX4_init : Room := { frames := 1, cells := 2, slots := 24, locals := 20 }
theorem kcX4_init : Cond.code yX4_init cX4_init 1 none ∈ am_G := am_inG 165 (by decide +kernel) (by decide +kernel)
theorem kiX4_init : Cond.instanceMethod yX4_init ∈ am_G := am_inG 164 (by decide +kernel) (by decide +kernel)
abbrev rmX4_find : Room := { frames := 4, cells := 0, slots := 0, locals := 91 }
theorem kcX4_find : Cond.code yX4_find cX4_find 4 none ∈ am_G := am_inG 586 (by decide +kernel) (by decide +kernel)
theorem kiX4_find : Cond.instanceMethod yX4_find ∈ am_G := am_inG 584 (by decide +kernel) (by decide +kernel)
theorem ksX4_find : Cond.selects RX4 yX4_find yX4_find ∈ am_G := am_inG 585 (by decide +kernel) (by decide +kernel)
abbrev rmX4_settingFor : Room := { frames := 2, cells := 0, slots := 0, locals := 44 }
theorem kcX4_settingFor : Cond.code yX4_settingFor cX4_settingFor 3 (some .int) ∈ am_G := am_inG 624 (by decide +kernel) (by decide +kernel)
theorem kiX4_settingFor : Cond.instanceMethod yX4_settingFor ∈ am_G := am_inG 622 (by decide +kernel) (by decide +kernel)
theorem ksX4_settingFor : Cond.selects RX4 yX4_settingFor yX4_settingFor ∈ am_G := am_inG 623 (by decide +kernel) (by decide +kernel)
abbrev rmX4_putAllFromCut : Room := { frames := 2, cells := 0, slots := 0, locals := 43 }
theorem kcX4_putAllFromCut : Cond.code yX4_putAllFromCut cX4_putAllFromCut 4 none ∈ am_G := am_inG 591 (by decide +kernel) (by decide +kernel)
theorem kiX4_putAllFromCut : Cond.instanceMethod yX4_putAllFromCut ∈ am_G := am_inG 590 (by decide +kernel) (by decide +kernel)
theorem ksX4_putAllFromCut : Cond.selects RX4 yX4_putAllFromCut yX4_putAllFromCut ∈ am_G := am_inG 15 (by decide +kernel) (by decide +kernel)
abbrev rmX4_moveBelow : Room := { frames := 2, cells := 0, slots := 0, locals := 44 }
theorem kcX4_moveBelow : Cond.code yX4_moveBelow cX4_moveBelow 6 none ∈ am_G := am_inG 598 (by decide +kernel) (by decide +kernel)
theorem kiX4_moveBelow : Cond.instanceMethod yX4_moveBelow ∈ am_G := am_inG 597 (by decide +kernel) (by decide +kernel)
theorem ksX4_moveBelow : Cond.selects RX4 yX4_moveBelow yX4_moveBelow ∈ am_G := am_inG 16 (by decide +kernel) (by decide +kernel)
abbrev rmX4_keepIfLess : Room := { frames := 3, cells := 0, slots := 0, locals := 65 }
theorem kcX4_keepIfLess : Cond.code yX4_keepIfLess cX4_keepIfLess 7 none ∈ am_G := am_inG 603 (by decide +kernel) (by decide +kernel)
theorem kiX4_keepIfLess : Cond.instanceMethod yX4_keepIfLess ∈ am_G := am_inG 602 (by decide +kernel) (by decide +kernel)
theorem ksX4_keepIfLess : Cond.selects RX4 yX4_keepIfLess yX4_keepIfLess ∈ am_G := am_inG 17 (by decide +kernel) (by decide +kernel)
abbrev rmX4_leastOf : Room := { frames := 2, cells := 0, slots := 0, locals := 42 }
theorem kcX4_leastOf : Cond.code yX4_leastOf cX4_leastOf 4 (some .int) ∈ am_G := am_inG 606 (by decide +kernel) (by decide +kernel)
theorem kzX4_leastOf : Cond.static yX4_leastOf ∈ am_G := am_inG 605 (by decide +kernel) (by decide +kernel)
abbrev rmX5_init : Room := { frames := 1, cells := 18, slots := 386, locals := 23 }
theorem kcX5_init : Cond.code yX5_init cX5_init 2 none ∈ am_G := am_inG 68 (by decide +kernel) (by decide +kernel)
theorem kiX5_init : Cond.instanceMethod yX5_init ∈ am_G := am_inG 67 (by decide +kernel) (by decide +kernel)
abbrev rmX5_addSetting : Room := { frames := 0, cells := 0, slots := 0, locals := 0 }
theorem kcX5_addSetting : Cond.code yX5_addSetting cX5_addSetting 1 (some .int) ∈ am_G := am_inG 217 (by decide +kernel) (by decide +kernel)
theorem kiX5_addSetting : Cond.instanceMethod yX5_addSetting ∈ am_G := am_inG 215 (by decide +kernel) (by decide +kernel)
theorem ksX5_addSetting : Cond.selects RX5 yX5_addSetting yX5_addSetting ∈ am_G := am_inG 216 (by decide +kernel) (by decide +kernel)
abbrev rmX5_addInstance : Room := { frames := 0, cells := 0, slots := 0, locals := 0 }
theorem kcX5_addInstance : Cond.code yX5_addInstance cX5_addInstance 4 (some .int) ∈ am_G := am_inG 228 (by decide +kernel) (by decide +kernel)
theorem kiX5_addInstance : Cond.instanceMethod yX5_addInstance ∈ am_G := am_inG 226 (by decide +kernel) (by decide +kernel)
theorem ksX5_addInstance : Cond.selects RX5 yX5_addInstance yX5_addInstance ∈ am_G := am_inG 227 (by decide +kernel) (by decide +kernel)
abbrev rmX5_hasSetting : Room := { frames := 0, cells := 0, slots := 0, locals := 0 }
theorem kcX5_hasSetting : Cond.code yX5_hasSetting cX5_hasSetting 2 (some .boolean) ∈ am_G := am_inG 236 (by decide +kernel) (by decide +kernel)
theorem kiX5_hasSetting : Cond.instanceMethod yX5_hasSetting ∈ am_G := am_inG 234 (by decide +kernel) (by decide +kernel)
theorem ksX5_hasSetting : Cond.selects RX5 yX5_hasSetting yX5_hasSetting ∈ am_G := am_inG 235 (by decide +kernel) (by decide +kernel)
abbrev rmX5_hasInstance : Room := { frames := 0, cells := 0, slots := 0, locals := 0 }
theorem kcX5_hasInstance : Cond.code yX5_hasInstance cX5_hasInstance 2 (some .boolean) ∈ am_G := am_inG 240 (by decide +kernel) (by decide +kernel)
theorem kiX5_hasInstance : Cond.instanceMethod yX5_hasInstance ∈ am_G := am_inG 238 (by decide +kernel) (by decide +kernel)
theorem ksX5_hasInstance : Cond.selects RX5 yX5_hasInstance yX5_hasInstance ∈ am_G := am_inG 239 (by decide +kernel) (by decide +kernel)
abbrev rmX5_isLearning : Room := { frames := 1, cells := 0, slots := 0, locals := 21 }
theorem kcX5_isLearning : Cond.code yX5_isLearning cX5_isLearning 2 (some .boolean) ∈ am_G := am_inG 543 (by decide +kernel) (by decide +kernel)
theorem kiX5_isLearning : Cond.instanceMethod yX5_isLearning ∈ am_G := am_inG 541 (by decide +kernel) (by decide +kernel)
theorem ksX5_isLearning : Cond.selects RX5 yX5_isLearning yX5_isLearning ∈ am_G := am_inG 542 (by decide +kernel) (by decide +kernel)
abbrev rmX5_costAt : Room := { frames := 1, cells := 0, slots := 0, locals := 21 }
theorem kcX5_costAt : Cond.code yX5_costAt cX5_costAt 3 (some .int) ∈ am_G := am_inG 245 (by decide +kernel) (by decide +kernel)
theorem kiX5_costAt : Cond.instanceMethod yX5_costAt ∈ am_G := am_inG 243 (by decide +kernel) (by decide +kernel)
theorem ksX5_costAt : Cond.selects RX5 yX5_costAt yX5_costAt ∈ am_G := am_inG 244 (by decide +kernel) (by decide +kernel)
abbrev rmX5_tell : Room := { frames := 1, cells := 0, slots := 0, locals := 21 }
theorem kcX5_tell : Cond.code yX5_tell cX5_tell 4 (some .int) ∈ am_G := am_inG 252 (by decide +kernel) (by decide +kernel)
theorem kiX5_tell : Cond.instanceMethod yX5_tell ∈ am_G := am_inG 250 (by decide +kernel) (by decide +kernel)
theorem ksX5_tell : Cond.selects RX5 yX5_tell yX5_tell ∈ am_G := am_inG 251 (by decide +kernel) (by decide +kernel)
abbrev rmX5_isWhole : Room := { frames := 1, cells := 0, slots := 0, locals := 21 }
theorem kcX5_isWhole : Cond.code yX5_isWhole cX5_isWhole 2 (some .boolean) ∈ am_G := am_inG 510 (by decide +kernel) (by decide +kernel)
theorem kiX5_isWhole : Cond.instanceMethod yX5_isWhole ∈ am_G := am_inG 508 (by decide +kernel) (by decide +kernel)
theorem ksX5_isWhole : Cond.selects RX5 yX5_isWhole yX5_isWhole ∈ am_G := am_inG 509 (by decide +kernel) (by decide +kernel)
abbrev rmX5_countWhole : Room := { frames := 2, cells := 0, slots := 0, locals := 42 }
theorem kcX5_countWhole : Cond.code yX5_countWhole cX5_countWhole 3 (some .int) ∈ am_G := am_inG 506 (by decide +kernel) (by decide +kernel)
theorem kiX5_countWhole : Cond.instanceMethod yX5_countWhole ∈ am_G := am_inG 504 (by decide +kernel) (by decide +kernel)
theorem ksX5_countWhole : Cond.selects RX5 yX5_countWhole yX5_countWhole ∈ am_G := am_inG 505 (by decide +kernel) (by decide +kernel)
abbrev rmX5_featureAt : Room := { frames := 1, cells := 0, slots := 0, locals := 22 }
theorem kcX5_featureAt : Cond.code yX5_featureAt cX5_featureAt 3 (some .int) ∈ am_G := am_inG 572 (by decide +kernel) (by decide +kernel)
theorem kiX5_featureAt : Cond.instanceMethod yX5_featureAt ∈ am_G := am_inG 570 (by decide +kernel) (by decide +kernel)
theorem ksX5_featureAt : Cond.selects RX5 yX5_featureAt yX5_featureAt ∈ am_G := am_inG 571 (by decide +kernel) (by decide +kernel)
abbrev rmX5_learningOnes : Room := { frames := 0, cells := 1, slots := 24, locals := 0 }
theorem kcX5_learningOnes : Cond.code yX5_learningOnes cX5_learningOnes 5 (some (.array .int)) ∈ am_G := am_inG 307 (by decide +kernel) (by decide +kernel)
theorem kiX5_learningOnes : Cond.instanceMethod yX5_learningOnes ∈ am_G := am_inG 305 (by decide +kernel) (by decide +kernel)
theorem ksX5_learningOnes : Cond.selects RX5 yX5_learningOnes yX5_learningOnes ∈ am_G := am_inG 306 (by decide +kernel) (by decide +kernel)
abbrev rmX5_nearestLearning : Room := { frames := 3, cells := 0, slots := 0, locals := 66 }
theorem kcX5_nearestLearning : Cond.code yX5_nearestLearning cX5_nearestLearning 5 (some .int) ∈ am_G := am_inG 563 (by decide +kernel) (by decide +kernel)
theorem kiX5_nearestLearning : Cond.instanceMethod yX5_nearestLearning ∈ am_G := am_inG 561 (by decide +kernel) (by decide +kernel)
theorem ksX5_nearestLearning : Cond.selects RX5 yX5_nearestLearning yX5_nearestLearning ∈ am_G := am_inG 562 (by decide +kernel) (by decide +kernel)
abbrev rmX5_distance : Room := { frames := 2, cells := 0, slots := 0, locals := 44 }
theorem kcX5_distance : Cond.code yX5_distance cX5_distance 3 (some .int) ∈ am_G := am_inG 568 (by decide +kernel) (by decide +kernel)
theorem kiX5_distance : Cond.instanceMethod yX5_distance ∈ am_G := am_inG 567 (by decide +kernel) (by decide +kernel)
theorem ksX5_distance : Cond.selects RX5 yX5_distance yX5_distance ∈ am_G := am_inG 14 (by decide +kernel) (by decide +kernel)
abbrev rmX5_bestOn : Room := { frames := 2, cells := 0, slots := 0, locals := 42 }
theorem kcX5_bestOn : Cond.code yX5_bestOn cX5_bestOn 5 (some .int) ∈ am_G := am_inG 578 (by decide +kernel) (by decide +kernel)
theorem kiX5_bestOn : Cond.instanceMethod yX5_bestOn ∈ am_G := am_inG 576 (by decide +kernel) (by decide +kernel)
theorem ksX5_bestOn : Cond.selects RX5 yX5_bestOn yX5_bestOn ∈ am_G := am_inG 577 (by decide +kernel) (by decide +kernel)
abbrev rmX6_init : Room := { frames := 2, cells := 44, slots := 1446, locals := 44 }
theorem kcX6_init : Cond.code yX6_init cX6_init 1 none ∈ am_G := am_inG 60 (by decide +kernel) (by decide +kernel)
theorem kiX6_init : Cond.instanceMethod yX6_init ∈ am_G := am_inG 59 (by decide +kernel) (by decide +kernel)
abbrev rmX6_setting : Room := { frames := 1, cells := 0, slots := 0, locals := 20 }
theorem kcX6_setting : Cond.code yX6_setting cX6_setting 1 (some .int) ∈ am_G := am_inG 213 (by decide +kernel) (by decide +kernel)
theorem kiX6_setting : Cond.instanceMethod yX6_setting ∈ am_G := am_inG 211 (by decide +kernel) (by decide +kernel)
theorem ksX6_setting : Cond.selects RX6 yX6_setting yX6_setting ∈ am_G := am_inG 212 (by decide +kernel) (by decide +kernel)
abbrev rmX6_instance : Room := { frames := 1, cells := 0, slots := 0, locals := 23 }
theorem kcX6_instance : Cond.code yX6_instance cX6_instance 4 (some .int) ∈ am_G := am_inG 221 (by decide +kernel) (by decide +kernel)
theorem kiX6_instance : Cond.instanceMethod yX6_instance ∈ am_G := am_inG 219 (by decide +kernel) (by decide +kernel)
theorem ksX6_instance : Cond.selects RX6 yX6_instance yX6_instance ∈ am_G := am_inG 220 (by decide +kernel) (by decide +kernel)
abbrev rmX6_cost : Room := { frames := 2, cells := 0, slots := 0, locals := 44 }
theorem kcX6_cost : Cond.code yX6_cost cX6_cost 4 (some .int) ∈ am_G := am_inG 232 (by decide +kernel) (by decide +kernel)
theorem kiX6_cost : Cond.instanceMethod yX6_cost ∈ am_G := am_inG 230 (by decide +kernel) (by decide +kernel)
theorem ksX6_cost : Cond.selects RX6 yX6_cost yX6_cost ∈ am_G := am_inG 231 (by decide +kernel) (by decide +kernel)
abbrev rmX6_costOf : Room := { frames := 2, cells := 0, slots := 0, locals := 43 }
theorem kcX6_costOf : Cond.code yX6_costOf cX6_costOf 4 (some .int) ∈ am_G := am_inG 256 (by decide +kernel) (by decide +kernel)
theorem kiX6_costOf : Cond.instanceMethod yX6_costOf ∈ am_G := am_inG 254 (by decide +kernel) (by decide +kernel)
theorem ksX6_costOf : Cond.selects RX6 yX6_costOf yX6_costOf ∈ am_G := am_inG 255 (by decide +kernel) (by decide +kernel)
abbrev rmX6_race : Room := { frames := 2, cells := 20, slots := 393, locals := 47 }
theorem kcX6_race : Cond.code yX6_race cX6_race 10 (some .int) ∈ am_G := am_inG 260 (by decide +kernel) (by decide +kernel)
theorem kiX6_race : Cond.instanceMethod yX6_race ∈ am_G := am_inG 258 (by decide +kernel) (by decide +kernel)
theorem ksX6_race : Cond.selects RX6 yX6_race yX6_race ∈ am_G := am_inG 259 (by decide +kernel) (by decide +kernel)
abbrev rmX6_wants : Room := { frames := 1, cells := 0, slots := 0, locals := 22 }
theorem kcX6_wants : Cond.code yX6_wants cX6_wants 2 (some .int) ∈ am_G := am_inG 374 (by decide +kernel) (by decide +kernel)
theorem kiX6_wants : Cond.instanceMethod yX6_wants ∈ am_G := am_inG 372 (by decide +kernel) (by decide +kernel)
theorem ksX6_wants : Cond.selects RX6 yX6_wants yX6_wants ∈ am_G := am_inG 373 (by decide +kernel) (by decide +kernel)
abbrev rmX6_run : Room := { frames := 6, cells := 0, slots := 0, locals := 138 }
theorem kcX6_run : Cond.code yX6_run cX6_run 1 (some .int) ∈ am_G := am_inG 382 (by decide +kernel) (by decide +kernel)
theorem kiX6_run : Cond.instanceMethod yX6_run ∈ am_G := am_inG 380 (by decide +kernel) (by decide +kernel)
theorem ksX6_run : Cond.selects RX6 yX6_run yX6_run ∈ am_G := am_inG 381 (by decide +kernel) (by decide +kernel)
abbrev rmX6_left : Room := { frames := 2, cells := 0, slots := 0, locals := 44 }
theorem kcX6_left : Cond.code yX6_left cX6_left 2 (some .int) ∈ am_G := am_inG 463 (by decide +kernel) (by decide +kernel)
theorem kiX6_left : Cond.instanceMethod yX6_left ∈ am_G := am_inG 461 (by decide +kernel) (by decide +kernel)
theorem ksX6_left : Cond.selects RX6 yX6_left yX6_left ∈ am_G := am_inG 462 (by decide +kernel) (by decide +kernel)
abbrev rmX6_raceOf : Room := { frames := 4, cells := 0, slots := 0, locals := 91 }
theorem kcX6_raceOf : Cond.code yX6_raceOf cX6_raceOf 2 (some .int) ∈ am_G := am_inG 471 (by decide +kernel) (by decide +kernel)
theorem kiX6_raceOf : Cond.instanceMethod yX6_raceOf ∈ am_G := am_inG 469 (by decide +kernel) (by decide +kernel)
theorem ksX6_raceOf : Cond.selects RX6 yX6_raceOf yX6_raceOf ∈ am_G := am_inG 470 (by decide +kernel) (by decide +kernel)
abbrev rmX6_rank : Room := { frames := 2, cells := 0, slots := 0, locals := 47 }
theorem kcX6_rank : Cond.code yX6_rank cX6_rank 2 (some .int) ∈ am_G := am_inG 479 (by decide +kernel) (by decide +kernel)
theorem kiX6_rank : Cond.instanceMethod yX6_rank ∈ am_G := am_inG 477 (by decide +kernel) (by decide +kernel)
theorem ksX6_rank : Cond.selects RX6 yX6_rank yX6_rank ∈ am_G := am_inG 478 (by decide +kernel) (by decide +kernel)
abbrev rmX6_dropped : Room := { frames := 1, cells := 0, slots := 0, locals := 21 }
theorem kcX6_dropped : Cond.code yX6_dropped cX6_dropped 2 (some .int) ∈ am_G := am_inG 485 (by decide +kernel) (by decide +kernel)
theorem kiX6_dropped : Cond.instanceMethod yX6_dropped ∈ am_G := am_inG 483 (by decide +kernel) (by decide +kernel)
theorem ksX6_dropped : Cond.selects RX6 yX6_dropped yX6_dropped ∈ am_G := am_inG 484 (by decide +kernel) (by decide +kernel)
abbrev rmX6_odds : Room := { frames := 3, cells := 0, slots := 0, locals := 73 }
theorem kcX6_odds : Cond.code yX6_odds cX6_odds 4 (some .long) ∈ am_G := am_inG 490 (by decide +kernel) (by decide +kernel)
theorem kiX6_odds : Cond.instanceMethod yX6_odds ∈ am_G := am_inG 488 (by decide +kernel) (by decide +kernel)
theorem ksX6_odds : Cond.selects RX6 yX6_odds yX6_odds ∈ am_G := am_inG 489 (by decide +kernel) (by decide +kernel)
abbrev rmX6_portfolio : Room := { frames := 5, cells := 0, slots := 0, locals := 115 }
theorem kcX6_portfolio : Cond.code yX6_portfolio cX6_portfolio 3 (some .int) ∈ am_G := am_inG 502 (by decide +kernel) (by decide +kernel)
theorem kiX6_portfolio : Cond.instanceMethod yX6_portfolio ∈ am_G := am_inG 500 (by decide +kernel) (by decide +kernel)
theorem ksX6_portfolio : Cond.selects RX6 yX6_portfolio yX6_portfolio ∈ am_G := am_inG 501 (by decide +kernel) (by decide +kernel)
abbrev rmX6_pick : Room := { frames := 5, cells := 0, slots := 0, locals := 111 }
theorem kcX6_pick : Cond.code yX6_pick cX6_pick 3 (some .int) ∈ am_G := am_inG 555 (by decide +kernel) (by decide +kernel)
theorem kiX6_pick : Cond.instanceMethod yX6_pick ∈ am_G := am_inG 553 (by decide +kernel) (by decide +kernel)
theorem ksX6_pick : Cond.selects RX6 yX6_pick yX6_pick ∈ am_G := am_inG 554 (by decide +kernel) (by decide +kernel)
abbrev rmX6_stump : Room := { frames := 5, cells := 0, slots := 0, locals := 114 }
theorem kcX6_stump : Cond.code yX6_stump cX6_stump 2 (some .int) ∈ am_G := am_inG 582 (by decide +kernel) (by decide +kernel)
theorem kiX6_stump : Cond.instanceMethod yX6_stump ∈ am_G := am_inG 580 (by decide +kernel) (by decide +kernel)
theorem ksX6_stump : Cond.selects RX6 yX6_stump yX6_stump ∈ am_G := am_inG 581 (by decide +kernel) (by decide +kernel)
abbrev rmX6_heldOut : Room := { frames := 6, cells := 0, slots := 0, locals := 136 }
theorem kcX6_heldOut : Cond.code yX6_heldOut cX6_heldOut 5 (some .int) ∈ am_G := am_inG 611 (by decide +kernel) (by decide +kernel)
theorem kiX6_heldOut : Cond.instanceMethod yX6_heldOut ∈ am_G := am_inG 609 (by decide +kernel) (by decide +kernel)
theorem ksX6_heldOut : Cond.selects RX6 yX6_heldOut yX6_heldOut ∈ am_G := am_inG 610 (by decide +kernel) (by decide +kernel)
abbrev rmX6_mean : Room := { frames := 6, cells := 1, slots := 6, locals := 90 }
theorem kcX6_mean : Cond.code yX6_mean cX6_mean 4 (some .long) ∈ am_G := am_inG 632 (by decide +kernel) (by decide +kernel)
theorem kiX6_mean : Cond.instanceMethod yX6_mean ∈ am_G := am_inG 630 (by decide +kernel) (by decide +kernel)
theorem ksX6_mean : Cond.selects RX6 yX6_mean yX6_mean ∈ am_G := am_inG 631 (by decide +kernel) (by decide +kernel)
abbrev rmX6_isWithin : Room := { frames := 0, cells := 0, slots := 0, locals := 0 }
theorem kcX6_isWithin : Cond.code yX6_isWithin cX6_isWithin 3 (some .boolean) ∈ am_G := am_inG 224 (by decide +kernel) (by decide +kernel)
theorem kzX6_isWithin : Cond.static yX6_isWithin ∈ am_G := am_inG 223 (by decide +kernel) (by decide +kernel)
abbrev rmX6_pickFor : Room := { frames := 4, cells := 0, slots := 0, locals := 90 }
theorem kcX6_pickFor : Cond.code yX6_pickFor cX6_pickFor 2 (some .int) ∈ am_G := am_inG 559 (by decide +kernel) (by decide +kernel)
theorem kiX6_pickFor : Cond.instanceMethod yX6_pickFor ∈ am_G := am_inG 558 (by decide +kernel) (by decide +kernel)
theorem ksX6_pickFor : Cond.selects RX6 yX6_pickFor yX6_pickFor ∈ am_G := am_inG 13 (by decide +kernel) (by decide +kernel)
abbrev rmX6_findChoice : Room := { frames := 5, cells := 0, slots := 0, locals := 115 }
theorem kcX6_findChoice : Cond.code yX6_findChoice cX6_findChoice 2 none ∈ am_G := am_inG 615 (by decide +kernel) (by decide +kernel)
theorem kiX6_findChoice : Cond.instanceMethod yX6_findChoice ∈ am_G := am_inG 614 (by decide +kernel) (by decide +kernel)
theorem ksX6_findChoice : Cond.selects RX6 yX6_findChoice yX6_findChoice ∈ am_G := am_inG 18 (by decide +kernel) (by decide +kernel)
abbrev rmX6_chosenFor : Room := { frames := 5, cells := 0, slots := 0, locals := 111 }
theorem kcX6_chosenFor : Cond.code yX6_chosenFor cX6_chosenFor 3 (some .int) ∈ am_G := am_inG 620 (by decide +kernel) (by decide +kernel)
theorem kiX6_chosenFor : Cond.instanceMethod yX6_chosenFor ∈ am_G := am_inG 619 (by decide +kernel) (by decide +kernel)
theorem ksX6_chosenFor : Cond.selects RX6 yX6_chosenFor yX6_chosenFor ∈ am_G := am_inG 19 (by decide +kernel) (by decide +kernel)
abbrev rmX6_lowestTerms : Room := { frames := 1, cells := 0, slots := 0, locals := 30 }
theorem kcX6_lowestTerms : Cond.code yX6_lowestTerms cX6_lowestTerms 9 (some .long) ∈ am_G := am_inG 495 (by decide +kernel) (by decide +kernel)
theorem kzX6_lowestTerms : Cond.static yX6_lowestTerms ∈ am_G := am_inG 494 (by decide +kernel) (by decide +kernel)
abbrev rmX6_greatestDivisor : Room := { frames := 0, cells := 0, slots := 0, locals := 0 }
theorem kcX6_greatestDivisor : Cond.code yX6_greatestDivisor cX6_greatestDivisor 11 (some .long) ∈ am_G := am_inG 498 (by decide +kernel) (by decide +kernel)
theorem kzX6_greatestDivisor : Cond.static yX6_greatestDivisor ∈ am_G := am_inG 497 (by decide +kernel) (by decide +kernel)
abbrev rmX7_init : Room := { frames := 1, cells := 9, slots := 1756, locals := 20 }
theorem kcX7_init : Cond.code yX7_init cX7_init 1 none ∈ am_G := am_inG 707 (by decide +kernel) (by decide +kernel)
theorem kiX7_init : Cond.instanceMethod yX7_init ∈ am_G := am_inG 706 (by decide +kernel) (by decide +kernel)
abbrev rmX7_thrown : Room := { frames := 0, cells := 0, slots := 0, locals := 0 }
theorem kcX7_thrown : Cond.code yX7_thrown cX7_thrown 1 (some .int) ∈ am_G := am_inG 815 (by decide +kernel) (by decide +kernel)
theorem kiX7_thrown : Cond.instanceMethod yX7_thrown ∈ am_G := am_inG 813 (by decide +kernel) (by decide +kernel)
theorem ksX7_thrown : Cond.selects RX7 yX7_thrown yX7_thrown ∈ am_G := am_inG 814 (by decide +kernel) (by decide +kernel)
abbrev rmX7_in : Room := { frames := 0, cells := 0, slots := 0, locals := 0 }
theorem kcX7_in : Cond.code yX7_in cX7_in 3 (some .boolean) ∈ am_G := am_inG 826 (by decide +kernel) (by decide +kernel)
theorem kzX7_in : Cond.static yX7_in ∈ am_G := am_inG 825 (by decide +kernel) (by decide +kernel)
abbrev rmX7_isSetting : Room := { frames := 1, cells := 0, slots := 0, locals := 22 }
theorem kcX7_isSetting : Cond.code yX7_isSetting cX7_isSetting 2 (some .boolean) ∈ am_G := am_inG 834 (by decide +kernel) (by decide +kernel)
theorem kiX7_isSetting : Cond.instanceMethod yX7_isSetting ∈ am_G := am_inG 833 (by decide +kernel) (by decide +kernel)
theorem ksX7_isSetting : Cond.selects RX7 yX7_isSetting yX7_isSetting ∈ am_G := am_inG 21 (by decide +kernel) (by decide +kernel)
abbrev rmX7_isInstance : Room := { frames := 1, cells := 0, slots := 0, locals := 22 }
theorem kcX7_isInstance : Cond.code yX7_isInstance cX7_isInstance 2 (some .boolean) ∈ am_G := am_inG 838 (by decide +kernel) (by decide +kernel)
theorem kiX7_isInstance : Cond.instanceMethod yX7_isInstance ∈ am_G := am_inG 837 (by decide +kernel) (by decide +kernel)
theorem ksX7_isInstance : Cond.selects RX7 yX7_isInstance yX7_isInstance ∈ am_G := am_inG 22 (by decide +kernel) (by decide +kernel)
abbrev rmX7_costAt : Room := { frames := 0, cells := 0, slots := 0, locals := 0 }
theorem kcX7_costAt : Cond.code yX7_costAt cX7_costAt 3 (some .int) ∈ am_G := am_inG 848 (by decide +kernel) (by decide +kernel)
theorem kiX7_costAt : Cond.instanceMethod yX7_costAt ∈ am_G := am_inG 847 (by decide +kernel) (by decide +kernel)
theorem ksX7_costAt : Cond.selects RX7 yX7_costAt yX7_costAt ∈ am_G := am_inG 23 (by decide +kernel) (by decide +kernel)
abbrev rmX7_setting : Room := { frames := 0, cells := 0, slots := 0, locals := 0 }
theorem kcX7_setting : Cond.code yX7_setting cX7_setting 1 (some .int) ∈ am_G := am_inG 819 (by decide +kernel) (by decide +kernel)
theorem kiX7_setting : Cond.instanceMethod yX7_setting ∈ am_G := am_inG 817 (by decide +kernel) (by decide +kernel)
theorem ksX7_setting : Cond.selects RX7 yX7_setting yX7_setting ∈ am_G := am_inG 818 (by decide +kernel) (by decide +kernel)
abbrev rmX7_instance : Room := { frames := 1, cells := 0, slots := 0, locals := 22 }
theorem kcX7_instance : Cond.code yX7_instance cX7_instance 4 (some .int) ∈ am_G := am_inG 823 (by decide +kernel) (by decide +kernel)
theorem kiX7_instance : Cond.instanceMethod yX7_instance ∈ am_G := am_inG 821 (by decide +kernel) (by decide +kernel)
theorem ksX7_instance : Cond.selects RX7 yX7_instance yX7_instance ∈ am_G := am_inG 822 (by decide +kernel) (by decide +kernel)
abbrev rmX7_cost : Room := { frames := 2, cells := 0, slots := 0, locals := 43 }
theorem kcX7_cost : Cond.code yX7_cost cX7_cost 6 (some .int) ∈ am_G := am_inG 830 (by decide +kernel) (by decide +kernel)
theorem kiX7_cost : Cond.instanceMethod yX7_cost ∈ am_G := am_inG 828 (by decide +kernel) (by decide +kernel)
theorem ksX7_cost : Cond.selects RX7 yX7_cost yX7_cost ∈ am_G := am_inG 829 (by decide +kernel) (by decide +kernel)
abbrev rmX7_costOf : Room := { frames := 2, cells := 0, slots := 0, locals := 43 }
theorem kcX7_costOf : Cond.code yX7_costOf cX7_costOf 3 (some .int) ∈ am_G := am_inG 844 (by decide +kernel) (by decide +kernel)
theorem kiX7_costOf : Cond.instanceMethod yX7_costOf ∈ am_G := am_inG 842 (by decide +kernel) (by decide +kernel)
theorem ksX7_costOf : Cond.selects RX7 yX7_costOf yX7_costOf ∈ am_G := am_inG 843 (by decide +kernel) (by decide +kernel)
abbrev rmX7_leftMany : Room := { frames := 0, cells := 0, slots := 0, locals := 0 }
theorem kcX7_leftMany : Cond.code yX7_leftMany cX7_leftMany 3 (some .int) ∈ am_G := am_inG 861 (by decide +kernel) (by decide +kernel)
theorem kiX7_leftMany : Cond.instanceMethod yX7_leftMany ∈ am_G := am_inG 860 (by decide +kernel) (by decide +kernel)
theorem ksX7_leftMany : Cond.selects RX7 yX7_leftMany yX7_leftMany ∈ am_G := am_inG 25 (by decide +kernel) (by decide +kernel)
abbrev rmX7_look : Room := { frames := 1, cells := 0, slots := 0, locals := 22 }
theorem kcX7_look : Cond.code yX7_look cX7_look 2 none ∈ am_G := am_inG 857 (by decide +kernel) (by decide +kernel)
theorem kiX7_look : Cond.instanceMethod yX7_look ∈ am_G := am_inG 856 (by decide +kernel) (by decide +kernel)
theorem ksX7_look : Cond.selects RX7 yX7_look yX7_look ∈ am_G := am_inG 24 (by decide +kernel) (by decide +kernel)
abbrev rmX7_race : Room := { frames := 2, cells := 0, slots := 0, locals := 43 }
theorem kcX7_race : Cond.code yX7_race cX7_race 12 (some .int) ∈ am_G := am_inG 852 (by decide +kernel) (by decide +kernel)
theorem kiX7_race : Cond.instanceMethod yX7_race ∈ am_G := am_inG 850 (by decide +kernel) (by decide +kernel)
theorem ksX7_race : Cond.selects RX7 yX7_race yX7_race ∈ am_G := am_inG 851 (by decide +kernel) (by decide +kernel)
abbrev rmX7_isOn : Room := { frames := 0, cells := 0, slots := 0, locals := 0 }
theorem kcX7_isOn : Cond.code yX7_isOn cX7_isOn 1 (some .boolean) ∈ am_G := am_inG 869 (by decide +kernel) (by decide +kernel)
theorem kiX7_isOn : Cond.instanceMethod yX7_isOn ∈ am_G := am_inG 868 (by decide +kernel) (by decide +kernel)
theorem ksX7_isOn : Cond.selects RX7 yX7_isOn yX7_isOn ∈ am_G := am_inG 26 (by decide +kernel) (by decide +kernel)
abbrev rmX7_wants : Room := { frames := 1, cells := 0, slots := 0, locals := 22 }
theorem kcX7_wants : Cond.code yX7_wants cX7_wants 2 (some .int) ∈ am_G := am_inG 865 (by decide +kernel) (by decide +kernel)
theorem kiX7_wants : Cond.instanceMethod yX7_wants ∈ am_G := am_inG 863 (by decide +kernel) (by decide +kernel)
theorem ksX7_wants : Cond.selects RX7 yX7_wants yX7_wants ∈ am_G := am_inG 864 (by decide +kernel) (by decide +kernel)
abbrev rmX7_run : Room := { frames := 4, cells := 0, slots := 0, locals := 95 }
theorem kcX7_run : Cond.code yX7_run cX7_run 1 (some .int) ∈ am_G := am_inG 873 (by decide +kernel) (by decide +kernel)
theorem kiX7_run : Cond.instanceMethod yX7_run ∈ am_G := am_inG 871 (by decide +kernel) (by decide +kernel)
theorem ksX7_run : Cond.selects RX7 yX7_run yX7_run ∈ am_G := am_inG 872 (by decide +kernel) (by decide +kernel)
abbrev rmX7_rankOf : Room := { frames := 1, cells := 0, slots := 0, locals := 22 }
theorem kcX7_rankOf : Cond.code yX7_rankOf cX7_rankOf 7 (some .int) ∈ am_G := am_inG 885 (by decide +kernel) (by decide +kernel)
theorem kiX7_rankOf : Cond.instanceMethod yX7_rankOf ∈ am_G := am_inG 884 (by decide +kernel) (by decide +kernel)
theorem ksX7_rankOf : Cond.selects RX7 yX7_rankOf yX7_rankOf ∈ am_G := am_inG 29 (by decide +kernel) (by decide +kernel)
abbrev rmX7_leader : Room := { frames := 2, cells := 0, slots := 0, locals := 48 }
theorem kcX7_leader : Cond.code yX7_leader cX7_leader 3 (some .int) ∈ am_G := am_inG 881 (by decide +kernel) (by decide +kernel)
theorem kiX7_leader : Cond.instanceMethod yX7_leader ∈ am_G := am_inG 880 (by decide +kernel) (by decide +kernel)
theorem ksX7_leader : Cond.selects RX7 yX7_leader yX7_leader ∈ am_G := am_inG 28 (by decide +kernel) (by decide +kernel)
abbrev rmX7_drop : Room := { frames := 3, cells := 0, slots := 0, locals := 70 }
theorem kcX7_drop : Cond.code yX7_drop cX7_drop 6 none ∈ am_G := am_inG 877 (by decide +kernel) (by decide +kernel)
theorem kiX7_drop : Cond.instanceMethod yX7_drop ∈ am_G := am_inG 876 (by decide +kernel) (by decide +kernel)
theorem ksX7_drop : Cond.selects RX7 yX7_drop yX7_drop ∈ am_G := am_inG 27 (by decide +kernel) (by decide +kernel)
abbrev rmX7_ranOf : Room := { frames := 0, cells := 0, slots := 0, locals := 0 }
theorem kcX7_ranOf : Cond.code yX7_ranOf cX7_ranOf 2 (some .int) ∈ am_G := am_inG 893 (by decide +kernel) (by decide +kernel)
theorem kiX7_ranOf : Cond.instanceMethod yX7_ranOf ∈ am_G := am_inG 892 (by decide +kernel) (by decide +kernel)
theorem ksX7_ranOf : Cond.selects RX7 yX7_ranOf yX7_ranOf ∈ am_G := am_inG 31 (by decide +kernel) (by decide +kernel)
abbrev rmX7_findOdds : Room := { frames := 1, cells := 0, slots := 0, locals := 22 }
theorem kcX7_findOdds : Cond.code yX7_findOdds cX7_findOdds 11 none ∈ am_G := am_inG 889 (by decide +kernel) (by decide +kernel)
theorem kiX7_findOdds : Cond.instanceMethod yX7_findOdds ∈ am_G := am_inG 888 (by decide +kernel) (by decide +kernel)
theorem ksX7_findOdds : Cond.selects RX7 yX7_findOdds yX7_findOdds ∈ am_G := am_inG 30 (by decide +kernel) (by decide +kernel)
abbrev rmX7_left : Room := { frames := 1, cells := 0, slots := 0, locals := 22 }
theorem kcX7_left : Cond.code yX7_left cX7_left 4 (some .int) ∈ am_G := am_inG 898 (by decide +kernel) (by decide +kernel)
theorem kiX7_left : Cond.instanceMethod yX7_left ∈ am_G := am_inG 896 (by decide +kernel) (by decide +kernel)
theorem ksX7_left : Cond.selects RX7 yX7_left yX7_left ∈ am_G := am_inG 897 (by decide +kernel) (by decide +kernel)
abbrev rmX7_raceOf : Room := { frames := 3, cells := 0, slots := 0, locals := 70 }
theorem kcX7_raceOf : Cond.code yX7_raceOf cX7_raceOf 2 (some .int) ∈ am_G := am_inG 902 (by decide +kernel) (by decide +kernel)
theorem kiX7_raceOf : Cond.instanceMethod yX7_raceOf ∈ am_G := am_inG 900 (by decide +kernel) (by decide +kernel)
theorem ksX7_raceOf : Cond.selects RX7 yX7_raceOf yX7_raceOf ∈ am_G := am_inG 901 (by decide +kernel) (by decide +kernel)
abbrev rmX7_rank : Room := { frames := 2, cells := 0, slots := 0, locals := 48 }
theorem kcX7_rank : Cond.code yX7_rank cX7_rank 2 (some .int) ∈ am_G := am_inG 906 (by decide +kernel) (by decide +kernel)
theorem kiX7_rank : Cond.instanceMethod yX7_rank ∈ am_G := am_inG 904 (by decide +kernel) (by decide +kernel)
theorem ksX7_rank : Cond.selects RX7 yX7_rank yX7_rank ∈ am_G := am_inG 905 (by decide +kernel) (by decide +kernel)
abbrev rmX7_dropped : Room := { frames := 1, cells := 0, slots := 0, locals := 22 }
theorem kcX7_dropped : Cond.code yX7_dropped cX7_dropped 2 (some .int) ∈ am_G := am_inG 910 (by decide +kernel) (by decide +kernel)
theorem kiX7_dropped : Cond.instanceMethod yX7_dropped ∈ am_G := am_inG 908 (by decide +kernel) (by decide +kernel)
theorem ksX7_dropped : Cond.selects RX7 yX7_dropped yX7_dropped ∈ am_G := am_inG 909 (by decide +kernel) (by decide +kernel)
abbrev rmX7_odds : Room := { frames := 2, cells := 0, slots := 0, locals := 52 }
theorem kcX7_odds : Cond.code yX7_odds cX7_odds 4 (some .long) ∈ am_G := am_inG 914 (by decide +kernel) (by decide +kernel)
theorem kiX7_odds : Cond.instanceMethod yX7_odds ∈ am_G := am_inG 912 (by decide +kernel) (by decide +kernel)
theorem ksX7_odds : Cond.selects RX7 yX7_odds yX7_odds ∈ am_G := am_inG 913 (by decide +kernel) (by decide +kernel)
abbrev rmX7_isWhole : Room := { frames := 0, cells := 0, slots := 0, locals := 0 }
theorem kcX7_isWhole : Cond.code yX7_isWhole cX7_isWhole 3 (some .boolean) ∈ am_G := am_inG 927 (by decide +kernel) (by decide +kernel)
theorem kiX7_isWhole : Cond.instanceMethod yX7_isWhole ∈ am_G := am_inG 926 (by decide +kernel) (by decide +kernel)
theorem ksX7_isWhole : Cond.selects RX7 yX7_isWhole yX7_isWhole ∈ am_G := am_inG 33 (by decide +kernel) (by decide +kernel)
abbrev rmX7_wholes : Room := { frames := 1, cells := 0, slots := 0, locals := 22 }
theorem kcX7_wholes : Cond.code yX7_wholes cX7_wholes 3 (some .int) ∈ am_G := am_inG 923 (by decide +kernel) (by decide +kernel)
theorem kiX7_wholes : Cond.instanceMethod yX7_wholes ∈ am_G := am_inG 922 (by decide +kernel) (by decide +kernel)
theorem ksX7_wholes : Cond.selects RX7 yX7_wholes yX7_wholes ∈ am_G := am_inG 32 (by decide +kernel) (by decide +kernel)
abbrev rmX7_many : Room := { frames := 0, cells := 0, slots := 0, locals := 0 }
theorem kcX7_many : Cond.code yX7_many cX7_many 3 (some .int) ∈ am_G := am_inG 930 (by decide +kernel) (by decide +kernel)
theorem kzX7_many : Cond.static yX7_many ∈ am_G := am_inG 929 (by decide +kernel) (by decide +kernel)
abbrev rmX7_isAhead : Room := { frames := 0, cells := 0, slots := 0, locals := 0 }
theorem kcX7_isAhead : Cond.code yX7_isAhead cX7_isAhead 3 (some .boolean) ∈ am_G := am_inG 941 (by decide +kernel) (by decide +kernel)
theorem kzX7_isAhead : Cond.static yX7_isAhead ∈ am_G := am_inG 940 (by decide +kernel) (by decide +kernel)
abbrev rmX7_findSet : Room := { frames := 2, cells := 0, slots := 0, locals := 46 }
theorem kcX7_findSet : Cond.code yX7_findSet cX7_findSet 6 none ∈ am_G := am_inG 934 (by decide +kernel) (by decide +kernel)
theorem kiX7_findSet : Cond.instanceMethod yX7_findSet ∈ am_G := am_inG 933 (by decide +kernel) (by decide +kernel)
theorem ksX7_findSet : Cond.selects RX7 yX7_findSet yX7_findSet ∈ am_G := am_inG 34 (by decide +kernel) (by decide +kernel)
abbrev rmX7_leastOf : Room := { frames := 1, cells := 0, slots := 0, locals := 22 }
theorem kcX7_leastOf : Cond.code yX7_leastOf cX7_leastOf 5 (some .int) ∈ am_G := am_inG 938 (by decide +kernel) (by decide +kernel)
theorem kiX7_leastOf : Cond.instanceMethod yX7_leastOf ∈ am_G := am_inG 937 (by decide +kernel) (by decide +kernel)
theorem ksX7_leastOf : Cond.selects RX7 yX7_leastOf yX7_leastOf ∈ am_G := am_inG 35 (by decide +kernel) (by decide +kernel)
abbrev rmX7_portfolio : Room := { frames := 3, cells := 0, slots := 0, locals := 71 }
theorem kcX7_portfolio : Cond.code yX7_portfolio cX7_portfolio 5 (some .int) ∈ am_G := am_inG 919 (by decide +kernel) (by decide +kernel)
theorem kiX7_portfolio : Cond.instanceMethod yX7_portfolio ∈ am_G := am_inG 917 (by decide +kernel) (by decide +kernel)
theorem ksX7_portfolio : Cond.selects RX7 yX7_portfolio yX7_portfolio ∈ am_G := am_inG 918 (by decide +kernel) (by decide +kernel)
abbrev rmX7_farOf : Room := { frames := 0, cells := 0, slots := 0, locals := 0 }
theorem kcX7_farOf : Cond.code yX7_farOf cX7_farOf 5 (some .int) ∈ am_G := am_inG 953 (by decide +kernel) (by decide +kernel)
theorem kiX7_farOf : Cond.instanceMethod yX7_farOf ∈ am_G := am_inG 952 (by decide +kernel) (by decide +kernel)
theorem ksX7_farOf : Cond.selects RX7 yX7_farOf yX7_farOf ∈ am_G := am_inG 37 (by decide +kernel) (by decide +kernel)
abbrev rmX7_pickOf : Room := { frames := 1, cells := 0, slots := 0, locals := 24 }
theorem kcX7_pickOf : Cond.code yX7_pickOf cX7_pickOf 5 (some .int) ∈ am_G := am_inG 949 (by decide +kernel) (by decide +kernel)
theorem kiX7_pickOf : Cond.instanceMethod yX7_pickOf ∈ am_G := am_inG 948 (by decide +kernel) (by decide +kernel)
theorem ksX7_pickOf : Cond.selects RX7 yX7_pickOf yX7_pickOf ∈ am_G := am_inG 36 (by decide +kernel) (by decide +kernel)
abbrev rmX7_pick : Room := { frames := 2, cells := 0, slots := 0, locals := 48 }
theorem kcX7_pick : Cond.code yX7_pick cX7_pick 2 (some .int) ∈ am_G := am_inG 945 (by decide +kernel) (by decide +kernel)
theorem kiX7_pick : Cond.instanceMethod yX7_pick ∈ am_G := am_inG 943 (by decide +kernel) (by decide +kernel)
theorem ksX7_pick : Cond.selects RX7 yX7_pick yX7_pick ∈ am_G := am_inG 944 (by decide +kernel) (by decide +kernel)
abbrev rmX7_sideBest : Room := { frames := 1, cells := 0, slots := 0, locals := 22 }
theorem kcX7_sideBest : Cond.code yX7_sideBest cX7_sideBest 8 (some .int) ∈ am_G := am_inG 965 (by decide +kernel) (by decide +kernel)
theorem kiX7_sideBest : Cond.instanceMethod yX7_sideBest ∈ am_G := am_inG 964 (by decide +kernel) (by decide +kernel)
theorem ksX7_sideBest : Cond.selects RX7 yX7_sideBest yX7_sideBest ∈ am_G := am_inG 39 (by decide +kernel) (by decide +kernel)
abbrev rmX7_findStump : Room := { frames := 2, cells := 0, slots := 0, locals := 49 }
theorem kcX7_findStump : Cond.code yX7_findStump cX7_findStump 6 none ∈ am_G := am_inG 961 (by decide +kernel) (by decide +kernel)
theorem kiX7_findStump : Cond.instanceMethod yX7_findStump ∈ am_G := am_inG 960 (by decide +kernel) (by decide +kernel)
theorem ksX7_findStump : Cond.selects RX7 yX7_findStump yX7_findStump ∈ am_G := am_inG 38 (by decide +kernel) (by decide +kernel)
abbrev rmX7_stump : Room := { frames := 3, cells := 0, slots := 0, locals := 74 }
theorem kcX7_stump : Cond.code yX7_stump cX7_stump 2 (some .int) ∈ am_G := am_inG 957 (by decide +kernel) (by decide +kernel)
theorem kiX7_stump : Cond.instanceMethod yX7_stump ∈ am_G := am_inG 955 (by decide +kernel) (by decide +kernel)
theorem ksX7_stump : Cond.selects RX7 yX7_stump yX7_stump ∈ am_G := am_inG 956 (by decide +kernel) (by decide +kernel)
abbrev rmX7_heldOut : Room := { frames := 3, cells := 0, slots := 0, locals := 74 }
theorem kcX7_heldOut : Cond.code yX7_heldOut cX7_heldOut 6 (some .int) ∈ am_G := am_inG 969 (by decide +kernel) (by decide +kernel)
theorem kiX7_heldOut : Cond.instanceMethod yX7_heldOut ∈ am_G := am_inG 967 (by decide +kernel) (by decide +kernel)
theorem ksX7_heldOut : Cond.selects RX7 yX7_heldOut yX7_heldOut ∈ am_G := am_inG 968 (by decide +kernel) (by decide +kernel)
abbrev rmX7_runsOf : Room := { frames := 0, cells := 0, slots := 0, locals := 0 }
theorem kcX7_runsOf : Cond.code yX7_runsOf cX7_runsOf 2 (some .int) ∈ am_G := am_inG 977 (by decide +kernel) (by decide +kernel)
theorem kiX7_runsOf : Cond.instanceMethod yX7_runsOf ∈ am_G := am_inG 976 (by decide +kernel) (by decide +kernel)
theorem ksX7_runsOf : Cond.selects RX7 yX7_runsOf yX7_runsOf ∈ am_G := am_inG 40 (by decide +kernel) (by decide +kernel)
abbrev rmX7_mean : Room := { frames := 1, cells := 0, slots := 0, locals := 22 }
theorem kcX7_mean : Cond.code yX7_mean cX7_mean 8 (some .long) ∈ am_G := am_inG 973 (by decide +kernel) (by decide +kernel)
theorem kiX7_mean : Cond.instanceMethod yX7_mean ∈ am_G := am_inG 971 (by decide +kernel) (by decide +kernel)
theorem ksX7_mean : Cond.selects RX7 yX7_mean yX7_mean ∈ am_G := am_inG 972 (by decide +kernel) (by decide +kernel)
abbrev rmJ7_fill_d0a16 : Room := { frames := 0, cells := 0, slots := 0, locals := 0 }
theorem kcJ7_fill_d0a16 : Cond.code yJ7_fill_d0a16 cJ7_fill_d0a16 5 none ∈ am_G := am_inG 445 (by decide +kernel) (by decide +kernel)
theorem kzJ7_fill_d0a16 : Cond.static yJ7_fill_d0a16 ∈ am_G := am_inG 444 (by decide +kernel) (by decide +kernel)
abbrev rmJ7_fill_53178 : Room := { frames := 0, cells := 0, slots := 0, locals := 0 }
theorem kcJ7_fill_53178 : Cond.code yJ7_fill_53178 cJ7_fill_53178 4 none ∈ am_G := am_inG 74 (by decide +kernel) (by decide +kernel)
theorem kzJ7_fill_53178 : Cond.static yJ7_fill_53178 ∈ am_G := am_inG 73 (by decide +kernel) (by decide +kernel)
abbrev rmL_mean : Room := { frames := 7, cells := 1, slots := 6, locals := 113 }
theorem kzL_mean : Cond.static yL_mean ∈ am_G := am_inG 626 (by decide +kernel) (by decide +kernel)
theorem moX0_3 : Cond.methodLink RX0 3 objectInit ∈ am_G := am_inG 108 (by decide +kernel) (by decide +kernel)
theorem fgX0_9 : Cond.fieldLink RX0 9 ((am_cl 0).2.1 0).1 ((am_cl 0).2.1 0).2.1 ((am_cl 0).2.1 0).2.2.1 ∈ am_G := am_inG 109 (by decide +kernel) (by decide +kernel)
theorem fkX0_9 : am_lk RX0 9 0 0 := Or.inl fgX0_9
theorem fgX0_15 : Cond.fieldLink RX0 15 ((am_cl 0).2.1 1).1 ((am_cl 0).2.1 1).2.1 ((am_cl 0).2.1 1).2.2.1 ∈ am_G := am_inG 110 (by decide +kernel) (by decide +kernel)
theorem fkX0_15 : am_lk RX0 15 0 1 := Or.inl fgX0_15
theorem fgX0_19 : Cond.fieldLink RX0 19 ((am_cl 0).2.1 2).1 ((am_cl 0).2.1 2).2.1 ((am_cl 0).2.1 2).2.2.1 ∈ am_G := am_inG 111 (by decide +kernel) (by decide +kernel)
theorem fkX0_19 : am_lk RX0 19 0 2 := Or.inl fgX0_19
theorem fgX0_23 : Cond.fieldLink RX0 23 ((am_cl 0).2.1 3).1 ((am_cl 0).2.1 3).2.1 ((am_cl 0).2.1 3).2.2.1 ∈ am_G := am_inG 112 (by decide +kernel) (by decide +kernel)
theorem fkX0_23 : am_lk RX0 23 0 3 := Or.inl fgX0_23
theorem fgX0_27 : Cond.fieldLink RX0 27 ((am_cl 0).2.1 4).1 ((am_cl 0).2.1 4).2.1 ((am_cl 0).2.1 4).2.2.1 ∈ am_G := am_inG 113 (by decide +kernel) (by decide +kernel)
theorem fkX0_27 : am_lk RX0 27 0 4 := Or.inl fgX0_27
theorem fgX0_31 : Cond.fieldLink RX0 31 ((am_cl 0).2.1 5).1 ((am_cl 0).2.1 5).2.1 ((am_cl 0).2.1 5).2.2.1 ∈ am_G := am_inG 115 (by decide +kernel) (by decide +kernel)
theorem fkX0_31 : am_lk RX0 31 0 5 := Or.inl fgX0_31
theorem moX0_34 : Cond.methodLink RX0 34 Lib.Math.abs.name ∈ am_G := am_inG 436 (by decide +kernel) (by decide +kernel)
theorem mkX0_40 : am_mk RX0 40 yJ7_fill_d0a16 cJ7_fill_d0a16 5 none 2 ∧ Cond.static yJ7_fill_d0a16 ∈ am_G := ⟨⟨Or.inl (am_inG 443 (by decide +kernel) (by decide +kernel)), kcJ7_fill_d0a16, knJ7, by decide +kernel⟩, kzJ7_fill_d0a16⟩
theorem mkX0_46 : am_mk RX0 46 yX0_weightOf cX0_weightOf 4 (some .int) 1 ∧ Cond.instanceMethod yX0_weightOf ∈ am_G ∧ Cond.selects yX0_weightOf.cls yX0_weightOf yX0_weightOf ∈ am_G := ⟨⟨Or.inl (am_inG 446 (by decide +kernel) (by decide +kernel)), kcX0_weightOf, knX0, by decide +kernel⟩, kiX0_weightOf, ksX0_weightOf⟩
theorem moX0_49 : Cond.methodLink RX0 49 Lib.Math.min.name ∈ am_G := am_inG 450 (by decide +kernel) (by decide +kernel)
theorem mkX0_53 : am_mk RX0 53 yX0_addSign cX0_addSign 4 none 2 ∧ Cond.instanceMethod yX0_addSign ∈ am_G ∧ Cond.selects yX0_addSign.cls yX0_addSign yX0_addSign ∈ am_G := ⟨⟨Or.inl (am_inG 451 (by decide +kernel) (by decide +kernel)), kcX0_addSign, knX0, by decide +kernel⟩, kiX0_addSign, ksX0_addSign⟩
theorem kdX0_57 : Cond.constantLong RX0 57 2 ∈ am_G := am_inG 455 (by decide +kernel) (by decide +kernel)
theorem moX1_3 : Cond.methodLink RX1 3 objectInit ∈ am_G := am_inG 136 (by decide +kernel) (by decide +kernel)
theorem fgX1_9 : Cond.fieldLink RX1 9 ((am_cl 1).2.1 0).1 ((am_cl 1).2.1 0).2.1 ((am_cl 1).2.1 0).2.2.1 ∈ am_G := am_inG 138 (by decide +kernel) (by decide +kernel)
theorem fkX1_9 : am_lk RX1 9 1 0 := Or.inl fgX1_9
theorem fgX1_15 : Cond.fieldLink RX1 15 ((am_cl 1).2.1 1).1 ((am_cl 1).2.1 1).2.1 ((am_cl 1).2.1 1).2.2.1 ∈ am_G := am_inG 139 (by decide +kernel) (by decide +kernel)
theorem fkX1_15 : am_lk RX1 15 1 1 := Or.inl fgX1_15
theorem fgX1_18 : Cond.fieldLink RX1 18 ((am_cl 1).2.1 2).1 ((am_cl 1).2.1 2).2.1 ((am_cl 1).2.1 2).2.2.1 ∈ am_G := am_inG 140 (by decide +kernel) (by decide +kernel)
theorem fkX1_18 : am_lk RX1 18 1 2 := Or.inl fgX1_18
theorem klX1_21 : Cond.classLink RX1 21 "[[I" ∈ am_G := am_inG 137 (by decide +kernel) (by decide +kernel)
theorem fgX1_23 : Cond.fieldLink RX1 23 ((am_cl 1).2.1 3).1 ((am_cl 1).2.1 3).2.1 ((am_cl 1).2.1 3).2.2.1 ∈ am_G := am_inG 141 (by decide +kernel) (by decide +kernel)
theorem fkX1_23 : am_lk RX1 23 1 3 := Or.inl fgX1_23
theorem fgX1_26 : Cond.fieldLink RX1 26 ((am_cl 1).2.1 4).1 ((am_cl 1).2.1 4).2.1 ((am_cl 1).2.1 4).2.2.1 ∈ am_G := am_inG 142 (by decide +kernel) (by decide +kernel)
theorem fkX1_26 : am_lk RX1 26 1 4 := Or.inl fgX1_26
theorem fgX1_30 : Cond.fieldLink RX1 30 ((am_cl 1).2.1 5).1 ((am_cl 1).2.1 5).2.1 ((am_cl 1).2.1 5).2.2.1 ∈ am_G := am_inG 143 (by decide +kernel) (by decide +kernel)
theorem fkX1_30 : am_lk RX1 30 1 5 := Or.inl fgX1_30
theorem fgX1_33 : Cond.fieldLink RX1 33 ((am_cl 1).2.1 6).1 ((am_cl 1).2.1 6).2.1 ((am_cl 1).2.1 6).2.2.1 ∈ am_G := am_inG 144 (by decide +kernel) (by decide +kernel)
theorem fkX1_33 : am_lk RX1 33 1 6 := Or.inl fgX1_33
theorem mkX1_36 : am_mk RX1 36 yX1_gatherWhole cX1_gatherWhole 3 none 1 ∧ Cond.instanceMethod yX1_gatherWhole ∈ am_G ∧ Cond.selects yX1_gatherWhole.cls yX1_gatherWhole yX1_gatherWhole ∈ am_G := ⟨⟨Or.inl (am_inG 515 (by decide +kernel) (by decide +kernel)), kcX1_gatherWhole, knX1, by decide +kernel⟩, kiX1_gatherWhole, ksX1_gatherWhole⟩
theorem moX1_40 : Cond.methodLink RX1 40 Lib.Math.min.name ∈ am_G := am_inG 520 (by decide +kernel) (by decide +kernel)
theorem moX1_46 : Cond.methodLink RX1 46 Lib.Math.max.name ∈ am_G := am_inG 521 (by decide +kernel) (by decide +kernel)
theorem kdX1_51 : Cond.constant RX1 51 2147483647 ∈ am_G := am_inG 524 (by decide +kernel) (by decide +kernel)
theorem kdX1_52 : Cond.constant RX1 52 2000000 ∈ am_G := am_inG 525 (by decide +kernel) (by decide +kernel)
theorem mkX1_53 : am_mk RX1 53 yJ7_fill_53178 cJ7_fill_53178 4 none 2 ∧ Cond.static yJ7_fill_53178 ∈ am_G := ⟨⟨Or.inl (am_inG 526 (by decide +kernel) (by decide +kernel)), kcJ7_fill_53178, knJ7, by decide +kernel⟩, kzJ7_fill_53178⟩
theorem mkX1_59 : am_mk RX1 59 yX1_placeFrom cX1_placeFrom 5 none 3 ∧ Cond.instanceMethod yX1_placeFrom ∈ am_G ∧ Cond.selects yX1_placeFrom.cls yX1_placeFrom yX1_placeFrom ∈ am_G := ⟨⟨Or.inl (am_inG 527 (by decide +kernel) (by decide +kernel)), kcX1_placeFrom, knX1, by decide +kernel⟩, kiX1_placeFrom, ksX1_placeFrom⟩
theorem mkX1_63 : am_mk RX1 63 yX1_keepIfLess cX1_keepIfLess 4 none 1 ∧ Cond.instanceMethod yX1_keepIfLess ∈ am_G ∧ Cond.selects yX1_keepIfLess.cls yX1_keepIfLess yX1_keepIfLess ∈ am_G := ⟨⟨Or.inl (am_inG 536 (by decide +kernel) (by decide +kernel)), kcX1_keepIfLess, knX1, by decide +kernel⟩, kiX1_keepIfLess, ksX1_keepIfLess⟩
theorem mkX1_66 : am_mk RX1 66 yX1_lastThatCanRise cX1_lastThatCanRise 2 (some .int) 0 ∧ Cond.instanceMethod yX1_lastThatCanRise ∈ am_G ∧ Cond.selects yX1_lastThatCanRise.cls yX1_lastThatCanRise yX1_lastThatCanRise ∈ am_G := ⟨⟨Or.inl (am_inG 544 (by decide +kernel) (by decide +kernel)), kcX1_lastThatCanRise, knX1, by decide +kernel⟩, kiX1_lastThatCanRise, ksX1_lastThatCanRise⟩
theorem fkX1_70 : am_lk RX1 70 5 4 := Or.inr ⟨"RaceTuning", am_inN 81 (by decide +kernel) (by decide +kernel)⟩
theorem mkX1_75 : am_mk RX1 75 yX5_isWhole cX5_isWhole 2 (some .boolean) 1 ∧ Cond.instanceMethod yX5_isWhole ∈ am_G ∧ Cond.selects yX5_isWhole.cls yX5_isWhole yX5_isWhole ∈ am_G := ⟨⟨Or.inl (am_inG 519 (by decide +kernel) (by decide +kernel)), kcX5_isWhole, knX5, by decide +kernel⟩, kiX5_isWhole, ksX5_isWhole⟩
theorem mkX1_79 : am_mk RX1 79 yX1_joinCosts cX1_joinCosts 5 none 3 ∧ Cond.instanceMethod yX1_joinCosts ∈ am_G ∧ Cond.selects yX1_joinCosts.cls yX1_joinCosts yX1_joinCosts ∈ am_G := ⟨⟨Or.inl (am_inG 531 (by decide +kernel) (by decide +kernel)), kcX1_joinCosts, knX1, by decide +kernel⟩, kiX1_joinCosts, ksX1_joinCosts⟩
theorem fkX1_82 : am_lk RX1 82 5 5 := Or.inr ⟨"RaceTuning", am_inN 86 (by decide +kernel) (by decide +kernel)⟩
theorem mkX1_85 : am_mk RX1 85 yX5_costAt cX5_costAt 3 (some .int) 2 ∧ Cond.instanceMethod yX5_costAt ∈ am_G ∧ Cond.selects yX5_costAt.cls yX5_costAt yX5_costAt ∈ am_G := ⟨⟨Or.inl (am_inG 535 (by decide +kernel) (by decide +kernel)), kcX5_costAt, knX5, by decide +kernel⟩, kiX5_costAt, ksX5_costAt⟩
theorem mkX1_88 : am_mk RX1 88 yX5_isLearning cX5_isLearning 2 (some .boolean) 1 ∧ Cond.instanceMethod yX5_isLearning ∈ am_G ∧ Cond.selects yX5_isLearning.cls yX5_isLearning yX5_isLearning ∈ am_G := ⟨⟨Or.inl (am_inG 540 (by decide +kernel) (by decide +kernel)), kcX5_isLearning, knX5, by decide +kernel⟩, kiX5_isLearning, ksX5_isLearning⟩
theorem moX2_3 : Cond.methodLink RX2 3 objectInit ∈ am_G := am_inG 302 (by decide +kernel) (by decide +kernel)
theorem klX2_9 : Cond.classLink RX2 9 "[[I" ∈ am_G := am_inG 303 (by decide +kernel) (by decide +kernel)
theorem fgX2_11 : Cond.fieldLink RX2 11 ((am_cl 2).2.1 5).1 ((am_cl 2).2.1 5).2.1 ((am_cl 2).2.1 5).2.2.1 ∈ am_G := am_inG 314 (by decide +kernel) (by decide +kernel)
theorem fkX2_11 : am_lk RX2 11 2 5 := Or.inl fgX2_11
theorem fgX2_16 : Cond.fieldLink RX2 16 ((am_cl 2).2.1 6).1 ((am_cl 2).2.1 6).2.1 ((am_cl 2).2.1 6).2.2.1 ∈ am_G := am_inG 315 (by decide +kernel) (by decide +kernel)
theorem fkX2_16 : am_lk RX2 16 2 6 := Or.inl fgX2_16
theorem fgX2_20 : Cond.fieldLink RX2 20 ((am_cl 2).2.1 7).1 ((am_cl 2).2.1 7).2.1 ((am_cl 2).2.1 7).2.2.1 ∈ am_G := am_inG 317 (by decide +kernel) (by decide +kernel)
theorem fkX2_20 : am_lk RX2 20 2 7 := Or.inl fgX2_20
theorem fgX2_23 : Cond.fieldLink RX2 23 ((am_cl 2).2.1 8).1 ((am_cl 2).2.1 8).2.1 ((am_cl 2).2.1 8).2.2.1 ∈ am_G := am_inG 319 (by decide +kernel) (by decide +kernel)
theorem fkX2_23 : am_lk RX2 23 2 8 := Or.inl fgX2_23
theorem fgX2_26 : Cond.fieldLink RX2 26 ((am_cl 2).2.1 9).1 ((am_cl 2).2.1 9).2.1 ((am_cl 2).2.1 9).2.2.1 ∈ am_G := am_inG 320 (by decide +kernel) (by decide +kernel)
theorem fkX2_26 : am_lk RX2 26 2 9 := Or.inl fgX2_26
theorem fgX2_29 : Cond.fieldLink RX2 29 ((am_cl 2).2.1 11).1 ((am_cl 2).2.1 11).2.1 ((am_cl 2).2.1 11).2.2.1 ∈ am_G := am_inG 323 (by decide +kernel) (by decide +kernel)
theorem fkX2_29 : am_lk RX2 29 2 11 := Or.inl fgX2_29
theorem fgX2_33 : Cond.fieldLink RX2 33 ((am_cl 2).2.1 12).1 ((am_cl 2).2.1 12).2.1 ((am_cl 2).2.1 12).2.2.1 ∈ am_G := am_inG 325 (by decide +kernel) (by decide +kernel)
theorem fkX2_33 : am_lk RX2 33 2 12 := Or.inl fgX2_33
theorem fgX2_36 : Cond.fieldLink RX2 36 ((am_cl 2).2.1 13).1 ((am_cl 2).2.1 13).2.1 ((am_cl 2).2.1 13).2.2.1 ∈ am_G := am_inG 327 (by decide +kernel) (by decide +kernel)
theorem fkX2_36 : am_lk RX2 36 2 13 := Or.inl fgX2_36
theorem fgX2_39 : Cond.fieldLink RX2 39 ((am_cl 2).2.1 14).1 ((am_cl 2).2.1 14).2.1 ((am_cl 2).2.1 14).2.2.1 ∈ am_G := am_inG 329 (by decide +kernel) (by decide +kernel)
theorem fkX2_39 : am_lk RX2 39 2 14 := Or.inl fgX2_39
theorem fgX2_42 : Cond.fieldLink RX2 42 ((am_cl 2).2.1 0).1 ((am_cl 2).2.1 0).2.1 ((am_cl 2).2.1 0).2.2.1 ∈ am_G := am_inG 308 (by decide +kernel) (by decide +kernel)
theorem fkX2_42 : am_lk RX2 42 2 0 := Or.inl fgX2_42
theorem fgX2_46 : Cond.fieldLink RX2 46 ((am_cl 2).2.1 1).1 ((am_cl 2).2.1 1).2.1 ((am_cl 2).2.1 1).2.2.1 ∈ am_G := am_inG 309 (by decide +kernel) (by decide +kernel)
theorem fkX2_46 : am_lk RX2 46 2 1 := Or.inl fgX2_46
theorem fgX2_50 : Cond.fieldLink RX2 50 ((am_cl 2).2.1 2).1 ((am_cl 2).2.1 2).2.1 ((am_cl 2).2.1 2).2.2.1 ∈ am_G := am_inG 310 (by decide +kernel) (by decide +kernel)
theorem fkX2_50 : am_lk RX2 50 2 2 := Or.inl fgX2_50
theorem mkX2_54 : am_mk RX2 54 yX5_learningOnes cX5_learningOnes 5 (some (.array .int)) 0 ∧ Cond.instanceMethod yX5_learningOnes ∈ am_G ∧ Cond.selects yX5_learningOnes.cls yX5_learningOnes yX5_learningOnes ∈ am_G := ⟨⟨Or.inl (am_inG 304 (by decide +kernel) (by decide +kernel)), kcX5_learningOnes, knX5, by decide +kernel⟩, kiX5_learningOnes, ksX5_learningOnes⟩
theorem fgX2_60 : Cond.fieldLink RX2 60 ((am_cl 2).2.1 3).1 ((am_cl 2).2.1 3).2.1 ((am_cl 2).2.1 3).2.2.1 ∈ am_G := am_inG 311 (by decide +kernel) (by decide +kernel)
theorem fkX2_60 : am_lk RX2 60 2 3 := Or.inl fgX2_60
theorem fkX2_63 : am_lk RX2 63 5 4 := Or.inr ⟨"RaceTuning", am_inN 80 (by decide +kernel) (by decide +kernel)⟩
theorem fgX2_66 : Cond.fieldLink RX2 66 ((am_cl 2).2.1 4).1 ((am_cl 2).2.1 4).2.1 ((am_cl 2).2.1 4).2.2.1 ∈ am_G := am_inG 312 (by decide +kernel) (by decide +kernel)
theorem fkX2_66 : am_lk RX2 66 2 4 := Or.inl fgX2_66
theorem fgX2_69 : Cond.fieldLink RX2 69 ((am_cl 2).2.1 10).1 ((am_cl 2).2.1 10).2.1 ((am_cl 2).2.1 10).2.2.1 ∈ am_G := am_inG 321 (by decide +kernel) (by decide +kernel)
theorem fkX2_69 : am_lk RX2 69 2 10 := Or.inl fgX2_69
theorem kdX2_72 : Cond.constant RX2 72 1103515245 ∈ am_G := am_inG 366 (by decide +kernel) (by decide +kernel)
theorem mkX2_73 : am_mk RX2 73 yX2_whyOver cX2_whyOver 1 (some .int) 0 ∧ Cond.instanceMethod yX2_whyOver ∈ am_G ∧ Cond.selects yX2_whyOver.cls yX2_whyOver yX2_whyOver ∈ am_G := ⟨⟨Or.inl (am_inG 367 (by decide +kernel) (by decide +kernel)), kcX2_whyOver, knX2, by decide +kernel⟩, kiX2_whyOver, ksX2_whyOver⟩
theorem fkX2_77 : am_lk RX2 77 3 4 := Or.inr ⟨"RaceTuning", am_inN 276 (by decide +kernel) (by decide +kernel)⟩
theorem fkX2_82 : am_lk RX2 82 3 5 := Or.inr ⟨"RaceTuning", am_inN 278 (by decide +kernel) (by decide +kernel)⟩
theorem mkX2_85 : am_mk RX2 85 yX2_isLeft cX2_isLeft 2 (some .boolean) 1 ∧ Cond.instanceMethod yX2_isLeft ∈ am_G ∧ Cond.selects yX2_isLeft.cls yX2_isLeft yX2_isLeft ∈ am_G := ⟨⟨Or.inl (am_inG 389 (by decide +kernel) (by decide +kernel)), kcX2_isLeft, knX2, by decide +kernel⟩, kiX2_isLeft, ksX2_isLeft⟩
theorem mkX2_89 : am_mk RX2 89 yX2_instanceAt cX2_instanceAt 2 (some .int) 1 ∧ Cond.instanceMethod yX2_instanceAt ∈ am_G ∧ Cond.selects yX2_instanceAt.cls yX2_instanceAt yX2_instanceAt ∈ am_G := ⟨⟨Or.inl (am_inG 387 (by decide +kernel) (by decide +kernel)), kcX2_instanceAt, knX2, by decide +kernel⟩, kiX2_instanceAt, ksX2_instanceAt⟩
theorem mkX2_93 : am_mk RX2 93 yX5_costAt cX5_costAt 3 (some .int) 2 ∧ Cond.instanceMethod yX5_costAt ∈ am_G ∧ Cond.selects yX5_costAt.cls yX5_costAt yX5_costAt ∈ am_G := ⟨⟨Or.inl (am_inG 388 (by decide +kernel) (by decide +kernel)), kcX5_costAt, knX5, by decide +kernel⟩, kiX5_costAt, ksX5_costAt⟩
theorem mkX2_97 : am_mk RX2 97 yX2_leftFrom cX2_leftFrom 3 (some .int) 1 ∧ Cond.instanceMethod yX2_leftFrom ∈ am_G ∧ Cond.selects yX2_leftFrom.cls yX2_leftFrom yX2_leftFrom ∈ am_G := ⟨⟨Or.inl (am_inG 393 (by decide +kernel) (by decide +kernel)), kcX2_leftFrom, knX2, by decide +kernel⟩, kiX2_leftFrom, ksX2_leftFrom⟩
theorem mkX2_100 : am_mk RX2 100 yX2_endRound cX2_endRound 1 none 0 ∧ Cond.instanceMethod yX2_endRound ∈ am_G ∧ Cond.selects yX2_endRound.cls yX2_endRound yX2_endRound ∈ am_G := ⟨⟨Or.inl (am_inG 397 (by decide +kernel) (by decide +kernel)), kcX2_endRound, knX2, by decide +kernel⟩, kiX2_endRound, ksX2_endRound⟩
theorem fkX2_103 : am_lk RX2 103 3 1 := Or.inr ⟨"RaceTuning", am_inN 270 (by decide +kernel) (by decide +kernel)⟩
theorem mkX2_106 : am_mk RX2 106 yX2_dropWorse cX2_dropWorse 5 none 0 ∧ Cond.instanceMethod yX2_dropWorse ∈ am_G ∧ Cond.selects yX2_dropWorse.cls yX2_dropWorse yX2_dropWorse ∈ am_G := ⟨⟨Or.inl (am_inG 401 (by decide +kernel) (by decide +kernel)), kcX2_dropWorse, knX2, by decide +kernel⟩, kiX2_dropWorse, ksX2_dropWorse⟩
theorem mkX2_109 : am_mk RX2 109 yX2_arrange cX2_arrange 5 (some .int) 0 ∧ Cond.instanceMethod yX2_arrange ∈ am_G ∧ Cond.selects yX2_arrange.cls yX2_arrange yX2_arrange ∈ am_G := ⟨⟨Or.inl (am_inG 405 (by decide +kernel) (by decide +kernel)), kcX2_arrange, knX2, by decide +kernel⟩, kiX2_arrange, ksX2_arrange⟩
theorem mkX2_112 : am_mk RX2 112 yX2_countOdds cX2_countOdds 5 none 2 ∧ Cond.instanceMethod yX2_countOdds ∈ am_G ∧ Cond.selects yX2_countOdds.cls yX2_countOdds yX2_countOdds ∈ am_G := ⟨⟨Or.inl (am_inG 417 (by decide +kernel) (by decide +kernel)), kcX2_countOdds, knX2, by decide +kernel⟩, kiX2_countOdds, ksX2_countOdds⟩
theorem fkX2_116 : am_lk RX2 116 3 2 := Or.inr ⟨"RaceTuning", am_inN 272 (by decide +kernel) (by decide +kernel)⟩
theorem fkX2_119 : am_lk RX2 119 3 3 := Or.inr ⟨"RaceTuning", am_inN 274 (by decide +kernel) (by decide +kernel)⟩
theorem mkX2_122 : am_mk RX2 122 yX0_areAbove cX0_areAbove 3 (some .boolean) 2 ∧ Cond.instanceMethod yX0_areAbove ∈ am_G ∧ Cond.selects yX0_areAbove.cls yX0_areAbove yX0_areAbove ∈ am_G := ⟨⟨Or.inl (am_inG 456 (by decide +kernel) (by decide +kernel)), kcX0_areAbove, knX0, by decide +kernel⟩, kiX0_areAbove, ksX0_areAbove⟩
theorem mkX2_128 : am_mk RX2 128 yX2_rankOf cX2_rankOf 4 (some .int) 1 ∧ Cond.instanceMethod yX2_rankOf ∈ am_G ∧ Cond.selects yX2_rankOf.cls yX2_rankOf yX2_rankOf ∈ am_G := ⟨⟨Or.inl (am_inG 409 (by decide +kernel) (by decide +kernel)), kcX2_rankOf, knX2, by decide +kernel⟩, kiX2_rankOf, ksX2_rankOf⟩
theorem mkX2_131 : am_mk RX2 131 yX2_rankAgainst cX2_rankAgainst 5 (some .int) 2 ∧ Cond.instanceMethod yX2_rankAgainst ∈ am_G ∧ Cond.selects yX2_rankAgainst.cls yX2_rankAgainst yX2_rankAgainst ∈ am_G := ⟨⟨Or.inl (am_inG 413 (by decide +kernel) (by decide +kernel)), kcX2_rankAgainst, knX2, by decide +kernel⟩, kiX2_rankAgainst, ksX2_rankAgainst⟩
theorem mkX2_134 : am_mk RX2 134 yX0_clear cX0_clear 1 none 0 ∧ Cond.instanceMethod yX0_clear ∈ am_G ∧ Cond.selects yX0_clear.cls yX0_clear yX0_clear ∈ am_G := ⟨⟨Or.inl (am_inG 421 (by decide +kernel) (by decide +kernel)), kcX0_clear, knX0, by decide +kernel⟩, kiX0_clear, ksX0_clear⟩
theorem mkX2_137 : am_mk RX2 137 yX2_isEntered cX2_isEntered 2 (some .boolean) 1 ∧ Cond.instanceMethod yX2_isEntered ∈ am_G ∧ Cond.selects yX2_isEntered.cls yX2_isEntered yX2_isEntered ∈ am_G := ⟨⟨Or.inl (am_inG 425 (by decide +kernel) (by decide +kernel)), kcX2_isEntered, knX2, by decide +kernel⟩, kiX2_isEntered, ksX2_isEntered⟩
theorem moX2_140 : Cond.methodLink RX2 140 Lib.Math.min.name ∈ am_G := am_inG 429 (by decide +kernel) (by decide +kernel)
theorem mkX2_145 : am_mk RX2 145 yX0_addRound cX0_addRound 3 none 2 ∧ Cond.instanceMethod yX0_addRound ∈ am_G ∧ Cond.selects yX0_addRound.cls yX0_addRound yX0_addRound ∈ am_G := ⟨⟨Or.inl (am_inG 432 (by decide +kernel) (by decide +kernel)), kcX0_addRound, knX0, by decide +kernel⟩, kiX0_addRound, ksX0_addRound⟩
theorem fkX2_148 : am_lk RX2 148 3 0 := Or.inr ⟨"RaceTuning", am_inN 268 (by decide +kernel) (by decide +kernel)⟩
theorem mkX2_151 : am_mk RX2 151 yX0_count cX0_count 6 none 1 ∧ Cond.instanceMethod yX0_count ∈ am_G ∧ Cond.selects yX0_count.cls yX0_count yX0_count ∈ am_G := ⟨⟨Or.inl (am_inG 439 (by decide +kernel) (by decide +kernel)), kcX0_count, knX0, by decide +kernel⟩, kiX0_count, ksX0_count⟩
theorem moX3_3 : Cond.methodLink RX3 3 objectInit ∈ am_G := am_inG 266 (by decide +kernel) (by decide +kernel)
theorem fgX3_9 : Cond.fieldLink RX3 9 ((am_cl 3).2.1 0).1 ((am_cl 3).2.1 0).2.1 ((am_cl 3).2.1 0).2.2.1 ∈ am_G := am_inG 267 (by decide +kernel) (by decide +kernel)
theorem fkX3_9 : am_lk RX3 9 3 0 := Or.inl fgX3_9
theorem fgX3_15 : Cond.fieldLink RX3 15 ((am_cl 3).2.1 1).1 ((am_cl 3).2.1 1).2.1 ((am_cl 3).2.1 1).2.2.1 ∈ am_G := am_inG 269 (by decide +kernel) (by decide +kernel)
theorem fkX3_15 : am_lk RX3 15 3 1 := Or.inl fgX3_15
theorem fgX3_18 : Cond.fieldLink RX3 18 ((am_cl 3).2.1 2).1 ((am_cl 3).2.1 2).2.1 ((am_cl 3).2.1 2).2.2.1 ∈ am_G := am_inG 271 (by decide +kernel) (by decide +kernel)
theorem fkX3_18 : am_lk RX3 18 3 2 := Or.inl fgX3_18
theorem fgX3_21 : Cond.fieldLink RX3 21 ((am_cl 3).2.1 3).1 ((am_cl 3).2.1 3).2.1 ((am_cl 3).2.1 3).2.2.1 ∈ am_G := am_inG 273 (by decide +kernel) (by decide +kernel)
theorem fkX3_21 : am_lk RX3 21 3 3 := Or.inl fgX3_21
theorem fgX3_24 : Cond.fieldLink RX3 24 ((am_cl 3).2.1 4).1 ((am_cl 3).2.1 4).2.1 ((am_cl 3).2.1 4).2.2.1 ∈ am_G := am_inG 275 (by decide +kernel) (by decide +kernel)
theorem fkX3_24 : am_lk RX3 24 3 4 := Or.inl fgX3_24
theorem fgX3_27 : Cond.fieldLink RX3 27 ((am_cl 3).2.1 5).1 ((am_cl 3).2.1 5).2.1 ((am_cl 3).2.1 5).2.2.1 ∈ am_G := am_inG 277 (by decide +kernel) (by decide +kernel)
theorem fkX3_27 : am_lk RX3 27 3 5 := Or.inl fgX3_27
theorem mkX3_30 : am_mk RX3 30 yX6_isWithin cX6_isWithin 3 (some .boolean) 3 ∧ Cond.static yX6_isWithin ∈ am_G := ⟨⟨Or.inr ⟨"RaceTuning", am_inN 296 (by decide +kernel) (by decide +kernel)⟩, kcX6_isWithin, knX6, by decide +kernel⟩, kzX6_isWithin⟩
theorem moX4_3 : Cond.methodLink RX4 3 objectInit ∈ am_G := am_inG 166 (by decide +kernel) (by decide +kernel)
theorem fgX4_9 : Cond.fieldLink RX4 9 ((am_cl 4).2.1 0).1 ((am_cl 4).2.1 0).2.1 ((am_cl 4).2.1 0).2.2.1 ∈ am_G := am_inG 167 (by decide +kernel) (by decide +kernel)
theorem fkX4_9 : am_lk RX4 9 4 0 := Or.inl fgX4_9
theorem fgX4_15 : Cond.fieldLink RX4 15 ((am_cl 4).2.1 1).1 ((am_cl 4).2.1 1).2.1 ((am_cl 4).2.1 1).2.2.1 ∈ am_G := am_inG 168 (by decide +kernel) (by decide +kernel)
theorem fkX4_15 : am_lk RX4 15 4 1 := Or.inl fgX4_15
theorem fgX4_18 : Cond.fieldLink RX4 18 ((am_cl 4).2.1 2).1 ((am_cl 4).2.1 2).2.1 ((am_cl 4).2.1 2).2.2.1 ∈ am_G := am_inG 169 (by decide +kernel) (by decide +kernel)
theorem fkX4_18 : am_lk RX4 18 4 2 := Or.inl fgX4_18
theorem fgX4_22 : Cond.fieldLink RX4 22 ((am_cl 4).2.1 3).1 ((am_cl 4).2.1 3).2.1 ((am_cl 4).2.1 3).2.2.1 ∈ am_G := am_inG 171 (by decide +kernel) (by decide +kernel)
theorem fkX4_22 : am_lk RX4 22 4 3 := Or.inl fgX4_22
theorem fgX4_25 : Cond.fieldLink RX4 25 ((am_cl 4).2.1 4).1 ((am_cl 4).2.1 4).2.1 ((am_cl 4).2.1 4).2.2.1 ∈ am_G := am_inG 173 (by decide +kernel) (by decide +kernel)
theorem fkX4_25 : am_lk RX4 25 4 4 := Or.inl fgX4_25
theorem fgX4_28 : Cond.fieldLink RX4 28 ((am_cl 4).2.1 5).1 ((am_cl 4).2.1 5).2.1 ((am_cl 4).2.1 5).2.2.1 ∈ am_G := am_inG 175 (by decide +kernel) (by decide +kernel)
theorem fkX4_28 : am_lk RX4 28 4 5 := Or.inl fgX4_28
theorem fgX4_31 : Cond.fieldLink RX4 31 ((am_cl 4).2.1 6).1 ((am_cl 4).2.1 6).2.1 ((am_cl 4).2.1 6).2.2.1 ∈ am_G := am_inG 177 (by decide +kernel) (by decide +kernel)
theorem fkX4_31 : am_lk RX4 31 4 6 := Or.inl fgX4_31
theorem kdX4_36 : Cond.constant RX4 36 2147483647 ∈ am_G := am_inG 587 (by decide +kernel) (by decide +kernel)
theorem mkX4_37 : am_mk RX4 37 yX4_putAllFromCut cX4_putAllFromCut 4 none 1 ∧ Cond.instanceMethod yX4_putAllFromCut ∈ am_G ∧ Cond.selects yX4_putAllFromCut.cls yX4_putAllFromCut yX4_putAllFromCut ∈ am_G := ⟨⟨Or.inl (am_inG 588 (by decide +kernel) (by decide +kernel)), kcX4_putAllFromCut, knX4, by decide +kernel⟩, kiX4_putAllFromCut, ksX4_putAllFromCut⟩
theorem mkX4_41 : am_mk RX4 41 yX4_moveBelow cX4_moveBelow 6 none 3 ∧ Cond.instanceMethod yX4_moveBelow ∈ am_G ∧ Cond.selects yX4_moveBelow.cls yX4_moveBelow yX4_moveBelow ∈ am_G := ⟨⟨Or.inl (am_inG 595 (by decide +kernel) (by decide +kernel)), kcX4_moveBelow, knX4, by decide +kernel⟩, kiX4_moveBelow, ksX4_moveBelow⟩
theorem mkX4_45 : am_mk RX4 45 yX4_keepIfLess cX4_keepIfLess 7 none 3 ∧ Cond.instanceMethod yX4_keepIfLess ∈ am_G ∧ Cond.selects yX4_keepIfLess.cls yX4_keepIfLess yX4_keepIfLess ∈ am_G := ⟨⟨Or.inl (am_inG 600 (by decide +kernel) (by decide +kernel)), kcX4_keepIfLess, knX4, by decide +kernel⟩, kiX4_keepIfLess, ksX4_keepIfLess⟩
theorem mkX4_48 : am_mk RX4 48 yX5_featureAt cX5_featureAt 3 (some .int) 2 ∧ Cond.instanceMethod yX5_featureAt ∈ am_G ∧ Cond.selects yX5_featureAt.cls yX5_featureAt yX5_featureAt ∈ am_G := ⟨⟨Or.inl (am_inG 599 (by decide +kernel) (by decide +kernel)), kcX5_featureAt, knX5, by decide +kernel⟩, kiX5_featureAt, ksX5_featureAt⟩
theorem mkX4_54 : am_mk RX4 54 yJ7_fill_53178 cJ7_fill_53178 4 none 2 ∧ Cond.static yJ7_fill_53178 ∈ am_G := ⟨⟨Or.inl (am_inG 592 (by decide +kernel) (by decide +kernel)), kcJ7_fill_53178, knJ7, by decide +kernel⟩, kzJ7_fill_53178⟩
theorem fkX4_60 : am_lk RX4 60 5 4 := Or.inr ⟨"RaceTuning", am_inN 82 (by decide +kernel) (by decide +kernel)⟩
theorem fkX4_63 : am_lk RX4 63 5 5 := Or.inr ⟨"RaceTuning", am_inN 85 (by decide +kernel) (by decide +kernel)⟩
theorem mkX4_66 : am_mk RX4 66 yX5_isLearning cX5_isLearning 2 (some .boolean) 1 ∧ Cond.instanceMethod yX5_isLearning ∈ am_G ∧ Cond.selects yX5_isLearning.cls yX5_isLearning yX5_isLearning ∈ am_G := ⟨⟨Or.inl (am_inG 593 (by decide +kernel) (by decide +kernel)), kcX5_isLearning, knX5, by decide +kernel⟩, kiX5_isLearning, ksX5_isLearning⟩
theorem mkX4_70 : am_mk RX4 70 yX5_costAt cX5_costAt 3 (some .int) 2 ∧ Cond.instanceMethod yX5_costAt ∈ am_G ∧ Cond.selects yX5_costAt.cls yX5_costAt yX5_costAt ∈ am_G := ⟨⟨Or.inl (am_inG 594 (by decide +kernel) (by decide +kernel)), kcX5_costAt, knX5, by decide +kernel⟩, kiX5_costAt, ksX5_costAt⟩
theorem mkX4_73 : am_mk RX4 73 yX4_leastOf cX4_leastOf 4 (some .int) 2 ∧ Cond.static yX4_leastOf ∈ am_G := ⟨⟨Or.inl (am_inG 604 (by decide +kernel) (by decide +kernel)), kcX4_leastOf, knX4, by decide +kernel⟩, kzX4_leastOf⟩
theorem mkX4_77 : am_mk RX4 77 yX5_isWhole cX5_isWhole 2 (some .boolean) 1 ∧ Cond.instanceMethod yX5_isWhole ∈ am_G ∧ Cond.selects yX5_isWhole.cls yX5_isWhole yX5_isWhole ∈ am_G := ⟨⟨Or.inl (am_inG 607 (by decide +kernel) (by decide +kernel)), kcX5_isWhole, knX5, by decide +kernel⟩, kiX5_isWhole, ksX5_isWhole⟩
theorem moX5_3 : Cond.methodLink RX5 3 objectInit ∈ am_G := am_inG 69 (by decide +kernel) (by decide +kernel)
theorem klX5_9 : Cond.classLink RX5 9 "[[I" ∈ am_G := am_inG 70 (by decide +kernel) (by decide +kernel)
theorem fgX5_11 : Cond.fieldLink RX5 11 ((am_cl 5).2.1 0).1 ((am_cl 5).2.1 0).2.1 ((am_cl 5).2.1 0).2.2.1 ∈ am_G := am_inG 75 (by decide +kernel) (by decide +kernel)
theorem fkX5_11 : am_lk RX5 11 5 0 := Or.inl fgX5_11
theorem fgX5_16 : Cond.fieldLink RX5 16 ((am_cl 5).2.1 1).1 ((am_cl 5).2.1 1).2.1 ((am_cl 5).2.1 1).2.2.1 ∈ am_G := am_inG 76 (by decide +kernel) (by decide +kernel)
theorem fkX5_16 : am_lk RX5 16 5 1 := Or.inl fgX5_16
theorem fgX5_20 : Cond.fieldLink RX5 20 ((am_cl 5).2.1 2).1 ((am_cl 5).2.1 2).2.1 ((am_cl 5).2.1 2).2.2.1 ∈ am_G := am_inG 77 (by decide +kernel) (by decide +kernel)
theorem fkX5_20 : am_lk RX5 20 5 2 := Or.inl fgX5_20
theorem fgX5_23 : Cond.fieldLink RX5 23 ((am_cl 5).2.1 3).1 ((am_cl 5).2.1 3).2.1 ((am_cl 5).2.1 3).2.2.1 ∈ am_G := am_inG 78 (by decide +kernel) (by decide +kernel)
theorem fkX5_23 : am_lk RX5 23 5 3 := Or.inl fgX5_23
theorem fgX5_27 : Cond.fieldLink RX5 27 ((am_cl 5).2.1 4).1 ((am_cl 5).2.1 4).2.1 ((am_cl 5).2.1 4).2.2.1 ∈ am_G := am_inG 79 (by decide +kernel) (by decide +kernel)
theorem fkX5_27 : am_lk RX5 27 5 4 := Or.inl fgX5_27
theorem fgX5_31 : Cond.fieldLink RX5 31 ((am_cl 5).2.1 5).1 ((am_cl 5).2.1 5).2.1 ((am_cl 5).2.1 5).2.2.1 ∈ am_G := am_inG 84 (by decide +kernel) (by decide +kernel)
theorem fkX5_31 : am_lk RX5 31 5 5 := Or.inl fgX5_31
theorem mkX5_34 : am_mk RX5 34 yJ7_fill_53178 cJ7_fill_53178 4 none 2 ∧ Cond.static yJ7_fill_53178 ∈ am_G := ⟨⟨Or.inl (am_inG 72 (by decide +kernel) (by decide +kernel)), kcJ7_fill_53178, knJ7, by decide +kernel⟩, kzJ7_fill_53178⟩
theorem mkX5_40 : am_mk RX5 40 yX5_hasInstance cX5_hasInstance 2 (some .boolean) 1 ∧ Cond.instanceMethod yX5_hasInstance ∈ am_G ∧ Cond.selects yX5_hasInstance.cls yX5_hasInstance yX5_hasInstance ∈ am_G := ⟨⟨Or.inl (am_inG 247 (by decide +kernel) (by decide +kernel)), kcX5_hasInstance, knX5, by decide +kernel⟩, kiX5_hasInstance, ksX5_hasInstance⟩
theorem mkX5_44 : am_mk RX5 44 yX5_hasSetting cX5_hasSetting 2 (some .boolean) 1 ∧ Cond.instanceMethod yX5_hasSetting ∈ am_G ∧ Cond.selects yX5_hasSetting.cls yX5_hasSetting yX5_hasSetting ∈ am_G := ⟨⟨Or.inl (am_inG 246 (by decide +kernel) (by decide +kernel)), kcX5_hasSetting, knX5, by decide +kernel⟩, kiX5_hasSetting, ksX5_hasSetting⟩
theorem mkX5_47 : am_mk RX5 47 yX5_isWhole cX5_isWhole 2 (some .boolean) 1 ∧ Cond.instanceMethod yX5_isWhole ∈ am_G ∧ Cond.selects yX5_isWhole.cls yX5_isWhole yX5_isWhole ∈ am_G := ⟨⟨Or.inl (am_inG 507 (by decide +kernel) (by decide +kernel)), kcX5_isWhole, knX5, by decide +kernel⟩, kiX5_isWhole, ksX5_isWhole⟩
theorem mkX5_50 : am_mk RX5 50 yX6_isWithin cX6_isWithin 3 (some .boolean) 3 ∧ Cond.static yX6_isWithin ∈ am_G := ⟨⟨Or.inr ⟨"RaceTuning", am_inN 573 (by decide +kernel) (by decide +kernel)⟩, kcX6_isWithin, knX6, by decide +kernel⟩, kzX6_isWithin⟩
theorem kdX5_56 : Cond.constant RX5 56 2147483647 ∈ am_G := am_inG 564 (by decide +kernel) (by decide +kernel)
theorem mkX5_57 : am_mk RX5 57 yX5_distance cX5_distance 3 (some .int) 2 ∧ Cond.instanceMethod yX5_distance ∈ am_G ∧ Cond.selects yX5_distance.cls yX5_distance yX5_distance ∈ am_G := ⟨⟨Or.inl (am_inG 565 (by decide +kernel) (by decide +kernel)), kcX5_distance, knX5, by decide +kernel⟩, kiX5_distance, ksX5_distance⟩
theorem mkX5_61 : am_mk RX5 61 yX5_featureAt cX5_featureAt 3 (some .int) 2 ∧ Cond.instanceMethod yX5_featureAt ∈ am_G ∧ Cond.selects yX5_featureAt.cls yX5_featureAt yX5_featureAt ∈ am_G := ⟨⟨Or.inl (am_inG 569 (by decide +kernel) (by decide +kernel)), kcX5_featureAt, knX5, by decide +kernel⟩, kiX5_featureAt, ksX5_featureAt⟩
theorem moX5_64 : Cond.methodLink RX5 64 Lib.Math.abs.name ∈ am_G := am_inG 574 (by decide +kernel) (by decide +kernel)
theorem moX6_3 : Cond.methodLink RX6 3 objectInit ∈ am_G := am_inG 61 (by decide +kernel) (by decide +kernel)
theorem klX6_9 : Cond.classLink RX6 9 RX5 ∈ am_G := am_inG 64 (by decide +kernel) (by decide +kernel)
theorem mkX6_11 : am_mk RX6 11 yX5_init cX5_init 2 none 0 ∧ yX5_init.name = "<init>" ∧ Cond.instanceMethod yX5_init ∈ am_G := ⟨⟨Or.inl (am_inG 66 (by decide +kernel) (by decide +kernel)), kcX5_init, knX5, by decide +kernel⟩, rfl, kiX5_init⟩
theorem fgX6_12 : Cond.fieldLink RX6 12 ((am_cl 6).2.1 0).1 ((am_cl 6).2.1 0).2.1 ((am_cl 6).2.1 0).2.2.1 ∈ am_G := am_inG 194 (by decide +kernel) (by decide +kernel)
theorem fkX6_12 : am_lk RX6 12 6 0 := Or.inl fgX6_12
theorem klX6_18 : Cond.classLink RX6 18 RX0 ∈ am_G := am_inG 103 (by decide +kernel) (by decide +kernel)
theorem mkX6_20 : am_mk RX6 20 yX0_init cX0_init 1 none 0 ∧ yX0_init.name = "<init>" ∧ Cond.instanceMethod yX0_init ∈ am_G := ⟨⟨Or.inr ⟨"RaceTuning", am_inN 105 (by decide +kernel) (by decide +kernel)⟩, kcX0_init, knX0, by decide +kernel⟩, rfl, kiX0_init⟩
theorem fgX6_21 : Cond.fieldLink RX6 21 ((am_cl 6).2.1 1).1 ((am_cl 6).2.1 1).2.1 ((am_cl 6).2.1 1).2.2.1 ∈ am_G := am_inG 195 (by decide +kernel) (by decide +kernel)
theorem fkX6_21 : am_lk RX6 21 6 1 := Or.inl fgX6_21
theorem klX6_25 : Cond.classLink RX6 25 RX1 ∈ am_G := am_inG 131 (by decide +kernel) (by decide +kernel)
theorem mkX6_27 : am_mk RX6 27 yX1_init cX1_init 1 none 0 ∧ yX1_init.name = "<init>" ∧ Cond.instanceMethod yX1_init ∈ am_G := ⟨⟨Or.inr ⟨"RaceTuning", am_inN 133 (by decide +kernel) (by decide +kernel)⟩, kcX1_init, knX1, by decide +kernel⟩, rfl, kiX1_init⟩
theorem fgX6_28 : Cond.fieldLink RX6 28 ((am_cl 6).2.1 2).1 ((am_cl 6).2.1 2).2.1 ((am_cl 6).2.1 2).2.2.1 ∈ am_G := am_inG 196 (by decide +kernel) (by decide +kernel)
theorem fkX6_28 : am_lk RX6 28 6 2 := Or.inl fgX6_28
theorem klX6_32 : Cond.classLink RX6 32 RX4 ∈ am_G := am_inG 161 (by decide +kernel) (by decide +kernel)
theorem mkX6_34 : am_mk RX6 34 yX4_init cX4_init 1 none 0 ∧ yX4_init.name = "<init>" ∧ Cond.instanceMethod yX4_init ∈ am_G := ⟨⟨Or.inr ⟨"RaceTuning", am_inN 163 (by decide +kernel) (by decide +kernel)⟩, kcX4_init, knX4, by decide +kernel⟩, rfl, kiX4_init⟩
theorem fgX6_35 : Cond.fieldLink RX6 35 ((am_cl 6).2.1 3).1 ((am_cl 6).2.1 3).2.1 ((am_cl 6).2.1 3).2.2.1 ∈ am_G := am_inG 197 (by decide +kernel) (by decide +kernel)
theorem fkX6_35 : am_lk RX6 35 6 3 := Or.inl fgX6_35
theorem fgX6_39 : Cond.fieldLink RX6 39 ((am_cl 6).2.1 4).1 ((am_cl 6).2.1 4).2.1 ((am_cl 6).2.1 4).2.2.1 ∈ am_G := am_inG 198 (by decide +kernel) (by decide +kernel)
theorem fkX6_39 : am_lk RX6 39 6 4 := Or.inl fgX6_39
theorem mkX6_43 : am_mk RX6 43 yX5_addSetting cX5_addSetting 1 (some .int) 0 ∧ Cond.instanceMethod yX5_addSetting ∈ am_G ∧ Cond.selects yX5_addSetting.cls yX5_addSetting yX5_addSetting ∈ am_G := ⟨⟨Or.inl (am_inG 214 (by decide +kernel) (by decide +kernel)), kcX5_addSetting, knX5, by decide +kernel⟩, kiX5_addSetting, ksX5_addSetting⟩
theorem mkX6_47 : am_mk RX6 47 yX6_isWithin cX6_isWithin 3 (some .boolean) 3 ∧ Cond.static yX6_isWithin ∈ am_G := ⟨⟨Or.inl (am_inG 222 (by decide +kernel) (by decide +kernel)), kcX6_isWithin, knX6, by decide +kernel⟩, kzX6_isWithin⟩
theorem mkX6_51 : am_mk RX6 51 yX5_addInstance cX5_addInstance 4 (some .int) 3 ∧ Cond.instanceMethod yX5_addInstance ∈ am_G ∧ Cond.selects yX5_addInstance.cls yX5_addInstance yX5_addInstance ∈ am_G := ⟨⟨Or.inl (am_inG 225 (by decide +kernel) (by decide +kernel)), kcX5_addInstance, knX5, by decide +kernel⟩, kiX5_addInstance, ksX5_addInstance⟩
theorem mkX6_55 : am_mk RX6 55 yX5_hasSetting cX5_hasSetting 2 (some .boolean) 1 ∧ Cond.instanceMethod yX5_hasSetting ∈ am_G ∧ Cond.selects yX5_hasSetting.cls yX5_hasSetting yX5_hasSetting ∈ am_G := ⟨⟨Or.inl (am_inG 233 (by decide +kernel) (by decide +kernel)), kcX5_hasSetting, knX5, by decide +kernel⟩, kiX5_hasSetting, ksX5_hasSetting⟩
theorem mkX6_59 : am_mk RX6 59 yX5_hasInstance cX5_hasInstance 2 (some .boolean) 1 ∧ Cond.instanceMethod yX5_hasInstance ∈ am_G ∧ Cond.selects yX5_hasInstance.cls yX5_hasInstance yX5_hasInstance ∈ am_G := ⟨⟨Or.inl (am_inG 237 (by decide +kernel) (by decide +kernel)), kcX5_hasInstance, knX5, by decide +kernel⟩, kiX5_hasInstance, ksX5_hasInstance⟩
theorem kdX6_62 : Cond.constant RX6 62 1000000 ∈ am_G := am_inG 241 (by decide +kernel) (by decide +kernel)
theorem mkX6_63 : am_mk RX6 63 yX5_costAt cX5_costAt 3 (some .int) 2 ∧ Cond.instanceMethod yX5_costAt ∈ am_G ∧ Cond.selects yX5_costAt.cls yX5_costAt yX5_costAt ∈ am_G := ⟨⟨Or.inl (am_inG 242 (by decide +kernel) (by decide +kernel)), kcX5_costAt, knX5, by decide +kernel⟩, kiX5_costAt, ksX5_costAt⟩
theorem kdX6_67 : Cond.constant RX6 67 2000000 ∈ am_G := am_inG 248 (by decide +kernel) (by decide +kernel)
theorem mkX6_68 : am_mk RX6 68 yX5_tell cX5_tell 4 (some .int) 3 ∧ Cond.instanceMethod yX5_tell ∈ am_G ∧ Cond.selects yX5_tell.cls yX5_tell yX5_tell ∈ am_G := ⟨⟨Or.inl (am_inG 249 (by decide +kernel) (by decide +kernel)), kcX5_tell, knX5, by decide +kernel⟩, kiX5_tell, ksX5_tell⟩
theorem klX6_72 : Cond.classLink RX6 72 RX3 ∈ am_G := am_inG 261 (by decide +kernel) (by decide +kernel)
theorem mkX6_74 : am_mk RX6 74 yX3_init cX3_init 7 none 6 ∧ yX3_init.name = "<init>" ∧ Cond.instanceMethod yX3_init ∈ am_G := ⟨⟨Or.inl (am_inG 263 (by decide +kernel) (by decide +kernel)), kcX3_init, knX3, by decide +kernel⟩, rfl, kiX3_init⟩
theorem mkX6_77 : am_mk RX6 77 yX3_areWithinBounds cX3_areWithinBounds 1 (some .boolean) 0 ∧ Cond.instanceMethod yX3_areWithinBounds ∈ am_G ∧ Cond.selects yX3_areWithinBounds.cls yX3_areWithinBounds yX3_areWithinBounds ∈ am_G := ⟨⟨Or.inl (am_inG 292 (by decide +kernel) (by decide +kernel)), kcX3_areWithinBounds, knX3, by decide +kernel⟩, kiX3_areWithinBounds, ksX3_areWithinBounds⟩
theorem fkX6_81 : am_lk RX6 81 5 4 := Or.inr ⟨"RaceTuning", am_inN 83 (by decide +kernel) (by decide +kernel)⟩
theorem klX6_85 : Cond.classLink RX6 85 RX2 ∈ am_G := am_inG 297 (by decide +kernel) (by decide +kernel)
theorem mkX6_87 : am_mk RX6 87 yX2_init cX2_init 4 none 3 ∧ yX2_init.name = "<init>" ∧ Cond.instanceMethod yX2_init ∈ am_G := ⟨⟨Or.inl (am_inG 299 (by decide +kernel) (by decide +kernel)), kcX2_init, knX2, by decide +kernel⟩, rfl, kiX2_init⟩
theorem mkX6_90 : am_mk RX6 90 yX2_begin cX2_begin 6 none 1 ∧ Cond.instanceMethod yX2_begin ∈ am_G ∧ Cond.selects yX2_begin.cls yX2_begin yX2_begin ∈ am_G := ⟨⟨Or.inl (am_inG 362 (by decide +kernel) (by decide +kernel)), kcX2_begin, knX2, by decide +kernel⟩, kiX2_begin, ksX2_begin⟩
theorem fkX6_94 : am_lk RX6 94 2 4 := Or.inr ⟨"RaceTuning", am_inN 313 (by decide +kernel) (by decide +kernel)⟩
theorem fkX6_97 : am_lk RX6 97 2 14 := Or.inr ⟨"RaceTuning", am_inN 330 (by decide +kernel) (by decide +kernel)⟩
theorem fkX6_100 : am_lk RX6 100 2 11 := Or.inr ⟨"RaceTuning", am_inN 324 (by decide +kernel) (by decide +kernel)⟩
theorem fkX6_103 : am_lk RX6 103 2 12 := Or.inr ⟨"RaceTuning", am_inN 326 (by decide +kernel) (by decide +kernel)⟩
theorem mkX6_106 : am_mk RX6 106 yX2_instanceAt cX2_instanceAt 2 (some .int) 1 ∧ Cond.instanceMethod yX2_instanceAt ∈ am_G ∧ Cond.selects yX2_instanceAt.cls yX2_instanceAt yX2_instanceAt ∈ am_G := ⟨⟨Or.inl (am_inG 375 (by decide +kernel) (by decide +kernel)), kcX2_instanceAt, knX2, by decide +kernel⟩, kiX2_instanceAt, ksX2_instanceAt⟩
theorem mkX6_110 : am_mk RX6 110 yX2_runNext cX2_runNext 2 (some .int) 0 ∧ Cond.instanceMethod yX2_runNext ∈ am_G ∧ Cond.selects yX2_runNext.cls yX2_runNext yX2_runNext ∈ am_G := ⟨⟨Or.inl (am_inG 383 (by decide +kernel) (by decide +kernel)), kcX2_runNext, knX2, by decide +kernel⟩, kiX2_runNext, ksX2_runNext⟩
theorem fkX6_113 : am_lk RX6 113 2 10 := Or.inr ⟨"RaceTuning", am_inN 322 (by decide +kernel) (by decide +kernel)⟩
theorem mkX6_116 : am_mk RX6 116 yX2_remainingAt cX2_remainingAt 4 (some .int) 1 ∧ Cond.instanceMethod yX2_remainingAt ∈ am_G ∧ Cond.selects yX2_remainingAt.cls yX2_remainingAt yX2_remainingAt ∈ am_G := ⟨⟨Or.inl (am_inG 464 (by decide +kernel) (by decide +kernel)), kcX2_remainingAt, knX2, by decide +kernel⟩, kiX2_remainingAt, ksX2_remainingAt⟩
theorem fkX6_119 : am_lk RX6 119 2 13 := Or.inr ⟨"RaceTuning", am_inN 328 (by decide +kernel) (by decide +kernel)⟩
theorem mkX6_122 : am_mk RX6 122 yX2_leader cX2_leader 1 (some .int) 0 ∧ Cond.instanceMethod yX2_leader ∈ am_G ∧ Cond.selects yX2_leader.cls yX2_leader yX2_leader ∈ am_G := ⟨⟨Or.inl (am_inG 472 (by decide +kernel) (by decide +kernel)), kcX2_leader, knX2, by decide +kernel⟩, kiX2_leader, ksX2_leader⟩
theorem mkX6_125 : am_mk RX6 125 yX2_isLeft cX2_isLeft 2 (some .boolean) 1 ∧ Cond.instanceMethod yX2_isLeft ∈ am_G ∧ Cond.selects yX2_isLeft.cls yX2_isLeft yX2_isLeft ∈ am_G := ⟨⟨Or.inl (am_inG 480 (by decide +kernel) (by decide +kernel)), kcX2_isLeft, knX2, by decide +kernel⟩, kiX2_isLeft, ksX2_isLeft⟩
theorem mkX6_128 : am_mk RX6 128 yX2_rankOf cX2_rankOf 4 (some .int) 1 ∧ Cond.instanceMethod yX2_rankOf ∈ am_G ∧ Cond.selects yX2_rankOf.cls yX2_rankOf yX2_rankOf ∈ am_G := ⟨⟨Or.inl (am_inG 481 (by decide +kernel) (by decide +kernel)), kcX2_rankOf, knX2, by decide +kernel⟩, kiX2_rankOf, ksX2_rankOf⟩
theorem mkX6_131 : am_mk RX6 131 yX2_isEntered cX2_isEntered 2 (some .boolean) 1 ∧ Cond.instanceMethod yX2_isEntered ∈ am_G ∧ Cond.selects yX2_isEntered.cls yX2_isEntered yX2_isEntered ∈ am_G := ⟨⟨Or.inl (am_inG 486 (by decide +kernel) (by decide +kernel)), kcX2_isEntered, knX2, by decide +kernel⟩, kiX2_isEntered, ksX2_isEntered⟩
theorem fkX6_134 : am_lk RX6 134 2 6 := Or.inr ⟨"RaceTuning", am_inN 316 (by decide +kernel) (by decide +kernel)⟩
theorem kdX6_138 : Cond.constantLong RX6 138 (-9223372036854775808) ∈ am_G := am_inG 491 (by decide +kernel) (by decide +kernel)
theorem mkX6_140 : am_mk RX6 140 yX2_countOdds cX2_countOdds 5 none 2 ∧ Cond.instanceMethod yX2_countOdds ∈ am_G ∧ Cond.selects yX2_countOdds.cls yX2_countOdds yX2_countOdds ∈ am_G := ⟨⟨Or.inl (am_inG 492 (by decide +kernel) (by decide +kernel)), kcX2_countOdds, knX2, by decide +kernel⟩, kiX2_countOdds, ksX2_countOdds⟩
theorem fkX6_144 : am_lk RX6 144 0 4 := Or.inr ⟨"RaceTuning", am_inN 114 (by decide +kernel) (by decide +kernel)⟩
theorem fkX6_148 : am_lk RX6 148 0 5 := Or.inr ⟨"RaceTuning", am_inN 116 (by decide +kernel) (by decide +kernel)⟩
theorem mkX6_151 : am_mk RX6 151 yX6_lowestTerms cX6_lowestTerms 9 (some .long) 3 ∧ Cond.static yX6_lowestTerms ∈ am_G := ⟨⟨Or.inl (am_inG 493 (by decide +kernel) (by decide +kernel)), kcX6_lowestTerms, knX6, by decide +kernel⟩, kzX6_lowestTerms⟩
theorem mkX6_155 : am_mk RX6 155 yX5_countWhole cX5_countWhole 3 (some .int) 0 ∧ Cond.instanceMethod yX5_countWhole ∈ am_G ∧ Cond.selects yX5_countWhole.cls yX5_countWhole yX5_countWhole ∈ am_G := ⟨⟨Or.inl (am_inG 503 (by decide +kernel) (by decide +kernel)), kcX5_countWhole, knX5, by decide +kernel⟩, kiX5_countWhole, ksX5_countWhole⟩
theorem mkX6_158 : am_mk RX6 158 yX1_find cX1_find 5 none 2 ∧ Cond.instanceMethod yX1_find ∈ am_G ∧ Cond.selects yX1_find.cls yX1_find yX1_find ∈ am_G := ⟨⟨Or.inl (am_inG 511 (by decide +kernel) (by decide +kernel)), kcX1_find, knX1, by decide +kernel⟩, kiX1_find, ksX1_find⟩
theorem fkX6_162 : am_lk RX6 162 1 6 := Or.inr ⟨"RaceTuning", am_inN 145 (by decide +kernel) (by decide +kernel)⟩
theorem mkX6_165 : am_mk RX6 165 yX1_memberAt cX1_memberAt 2 (some .int) 1 ∧ Cond.instanceMethod yX1_memberAt ∈ am_G ∧ Cond.selects yX1_memberAt.cls yX1_memberAt yX1_memberAt ∈ am_G := ⟨⟨Or.inl (am_inG 548 (by decide +kernel) (by decide +kernel)), kcX1_memberAt, knX1, by decide +kernel⟩, kiX1_memberAt, ksX1_memberAt⟩
theorem mkX6_168 : am_mk RX6 168 yX6_pickFor cX6_pickFor 2 (some .int) 1 ∧ Cond.instanceMethod yX6_pickFor ∈ am_G ∧ Cond.selects yX6_pickFor.cls yX6_pickFor yX6_pickFor ∈ am_G := ⟨⟨Or.inl (am_inG 556 (by decide +kernel) (by decide +kernel)), kcX6_pickFor, knX6, by decide +kernel⟩, kiX6_pickFor, ksX6_pickFor⟩
theorem mkX6_171 : am_mk RX6 171 yX4_find cX4_find 4 none 1 ∧ Cond.instanceMethod yX4_find ∈ am_G ∧ Cond.selects yX4_find.cls yX4_find yX4_find ∈ am_G := ⟨⟨Or.inl (am_inG 583 (by decide +kernel) (by decide +kernel)), kcX4_find, knX4, by decide +kernel⟩, kiX4_find, ksX4_find⟩
theorem fkX6_174 : am_lk RX6 174 4 2 := Or.inr ⟨"RaceTuning", am_inN 170 (by decide +kernel) (by decide +kernel)⟩
theorem fkX6_177 : am_lk RX6 177 4 3 := Or.inr ⟨"RaceTuning", am_inN 172 (by decide +kernel) (by decide +kernel)⟩
theorem fkX6_180 : am_lk RX6 180 4 4 := Or.inr ⟨"RaceTuning", am_inN 174 (by decide +kernel) (by decide +kernel)⟩
theorem fkX6_183 : am_lk RX6 183 4 5 := Or.inr ⟨"RaceTuning", am_inN 176 (by decide +kernel) (by decide +kernel)⟩
theorem fkX6_186 : am_lk RX6 186 4 6 := Or.inr ⟨"RaceTuning", am_inN 178 (by decide +kernel) (by decide +kernel)⟩
theorem mkX6_187 : am_mk RX6 187 yX6_findChoice cX6_findChoice 2 none 1 ∧ Cond.instanceMethod yX6_findChoice ∈ am_G ∧ Cond.selects yX6_findChoice.cls yX6_findChoice yX6_findChoice ∈ am_G := ⟨⟨Or.inl (am_inG 612 (by decide +kernel) (by decide +kernel)), kcX6_findChoice, knX6, by decide +kernel⟩, kiX6_findChoice, ksX6_findChoice⟩
theorem fkX6_190 : am_lk RX6 190 5 5 := Or.inr ⟨"RaceTuning", am_inN 87 (by decide +kernel) (by decide +kernel)⟩
theorem mkX6_193 : am_mk RX6 193 yX5_isLearning cX5_isLearning 2 (some .boolean) 1 ∧ Cond.instanceMethod yX5_isLearning ∈ am_G ∧ Cond.selects yX5_isLearning.cls yX5_isLearning yX5_isLearning ∈ am_G := ⟨⟨Or.inl (am_inG 616 (by decide +kernel) (by decide +kernel)), kcX5_isLearning, knX5, by decide +kernel⟩, kiX5_isLearning, ksX5_isLearning⟩
theorem mkX6_196 : am_mk RX6 196 yX6_chosenFor cX6_chosenFor 3 (some .int) 2 ∧ Cond.instanceMethod yX6_chosenFor ∈ am_G ∧ Cond.selects yX6_chosenFor.cls yX6_chosenFor yX6_chosenFor ∈ am_G := ⟨⟨Or.inl (am_inG 617 (by decide +kernel) (by decide +kernel)), kcX6_chosenFor, knX6, by decide +kernel⟩, kiX6_chosenFor, ksX6_chosenFor⟩
theorem fkX6_199 : am_lk RX6 199 2 7 := Or.inr ⟨"RaceTuning", am_inN 318 (by decide +kernel) (by decide +kernel)⟩
theorem mkX6_209 : am_mk RX6 209 yX2_sumOfFirst cX2_sumOfFirst 6 (some .long) 2 ∧ Cond.instanceMethod yX2_sumOfFirst ∈ am_G ∧ Cond.selects yX2_sumOfFirst.cls yX2_sumOfFirst yX2_sumOfFirst ∈ am_G := ⟨⟨Or.inl (am_inG 699 (by decide +kernel) (by decide +kernel)), kcX2_sumOfFirst, knX2, by decide +kernel⟩, kiX2_sumOfFirst, ksX2_sumOfFirst⟩
theorem mkX6_213 : am_mk RX6 213 yX5_nearestLearning cX5_nearestLearning 5 (some .int) 1 ∧ Cond.instanceMethod yX5_nearestLearning ∈ am_G ∧ Cond.selects yX5_nearestLearning.cls yX5_nearestLearning yX5_nearestLearning ∈ am_G := ⟨⟨Or.inl (am_inG 560 (by decide +kernel) (by decide +kernel)), kcX5_nearestLearning, knX5, by decide +kernel⟩, kiX5_nearestLearning, ksX5_nearestLearning⟩
theorem mkX6_216 : am_mk RX6 216 yX5_bestOn cX5_bestOn 5 (some .int) 1 ∧ Cond.instanceMethod yX5_bestOn ∈ am_G ∧ Cond.selects yX5_bestOn.cls yX5_bestOn yX5_bestOn ∈ am_G := ⟨⟨Or.inl (am_inG 575 (by decide +kernel) (by decide +kernel)), kcX5_bestOn, knX5, by decide +kernel⟩, kiX5_bestOn, ksX5_bestOn⟩
theorem mkX6_219 : am_mk RX6 219 yX4_settingFor cX4_settingFor 3 (some .int) 2 ∧ Cond.instanceMethod yX4_settingFor ∈ am_G ∧ Cond.selects yX4_settingFor.cls yX4_settingFor yX4_settingFor ∈ am_G := ⟨⟨Or.inl (am_inG 621 (by decide +kernel) (by decide +kernel)), kcX4_settingFor, knX4, by decide +kernel⟩, kiX4_settingFor, ksX4_settingFor⟩
theorem mkX6_223 : am_mk RX6 223 yX6_greatestDivisor cX6_greatestDivisor 11 (some .long) 2 ∧ Cond.static yX6_greatestDivisor ∈ am_G := ⟨⟨Or.inl (am_inG 496 (by decide +kernel) (by decide +kernel)), kcX6_greatestDivisor, knX6, by decide +kernel⟩, kzX6_greatestDivisor⟩
theorem moX7_1 : Cond.methodLink RX7 1 objectInit ∈ am_G := am_inG 708 (by decide +kernel) (by decide +kernel)
theorem fgX7_7 : Cond.fieldLink RX7 7 ((am_cl 7).2.1 3).1 ((am_cl 7).2.1 3).2.1 ((am_cl 7).2.1 3).2.2.1 ∈ am_G := am_inG 712 (by decide +kernel) (by decide +kernel)
theorem fkX7_7 : am_lk RX7 7 7 3 := Or.inl fgX7_7
theorem fgX7_13 : Cond.fieldLink RX7 13 ((am_cl 7).2.1 4).1 ((am_cl 7).2.1 4).2.1 ((am_cl 7).2.1 4).2.2.1 ∈ am_G := am_inG 713 (by decide +kernel) (by decide +kernel)
theorem fkX7_13 : am_lk RX7 13 7 4 := Or.inl fgX7_13
theorem fgX7_17 : Cond.fieldLink RX7 17 ((am_cl 7).2.1 5).1 ((am_cl 7).2.1 5).2.1 ((am_cl 7).2.1 5).2.2.1 ∈ am_G := am_inG 714 (by decide +kernel) (by decide +kernel)
theorem fkX7_17 : am_lk RX7 17 7 5 := Or.inl fgX7_17
theorem fgX7_20 : Cond.fieldLink RX7 20 ((am_cl 7).2.1 6).1 ((am_cl 7).2.1 6).2.1 ((am_cl 7).2.1 6).2.2.1 ∈ am_G := am_inG 715 (by decide +kernel) (by decide +kernel)
theorem fkX7_20 : am_lk RX7 20 7 6 := Or.inl fgX7_20
theorem fgX7_24 : Cond.fieldLink RX7 24 ((am_cl 7).2.1 14).1 ((am_cl 7).2.1 14).2.1 ((am_cl 7).2.1 14).2.2.1 ∈ am_G := am_inG 723 (by decide +kernel) (by decide +kernel)
theorem fkX7_24 : am_lk RX7 24 7 14 := Or.inl fgX7_24
theorem fgX7_27 : Cond.fieldLink RX7 27 ((am_cl 7).2.1 19).1 ((am_cl 7).2.1 19).2.1 ((am_cl 7).2.1 19).2.2.1 ∈ am_G := am_inG 728 (by decide +kernel) (by decide +kernel)
theorem fkX7_27 : am_lk RX7 27 7 19 := Or.inl fgX7_27
theorem fgX7_30 : Cond.fieldLink RX7 30 ((am_cl 7).2.1 20).1 ((am_cl 7).2.1 20).2.1 ((am_cl 7).2.1 20).2.2.1 ∈ am_G := am_inG 729 (by decide +kernel) (by decide +kernel)
theorem fkX7_30 : am_lk RX7 30 7 20 := Or.inl fgX7_30
theorem fgX7_33 : Cond.fieldLink RX7 33 ((am_cl 7).2.1 23).1 ((am_cl 7).2.1 23).2.1 ((am_cl 7).2.1 23).2.2.1 ∈ am_G := am_inG 732 (by decide +kernel) (by decide +kernel)
theorem fkX7_33 : am_lk RX7 33 7 23 := Or.inl fgX7_33
theorem fgX7_36 : Cond.fieldLink RX7 36 ((am_cl 7).2.1 24).1 ((am_cl 7).2.1 24).2.1 ((am_cl 7).2.1 24).2.2.1 ∈ am_G := am_inG 733 (by decide +kernel) (by decide +kernel)
theorem fkX7_36 : am_lk RX7 36 7 24 := Or.inl fgX7_36
theorem fgX7_39 : Cond.fieldLink RX7 39 ((am_cl 7).2.1 25).1 ((am_cl 7).2.1 25).2.1 ((am_cl 7).2.1 25).2.2.1 ∈ am_G := am_inG 734 (by decide +kernel) (by decide +kernel)
theorem fkX7_39 : am_lk RX7 39 7 25 := Or.inl fgX7_39
theorem fgX7_43 : Cond.fieldLink RX7 43 ((am_cl 7).2.1 0).1 ((am_cl 7).2.1 0).2.1 ((am_cl 7).2.1 0).2.2.1 ∈ am_G := am_inG 709 (by decide +kernel) (by decide +kernel)
theorem fkX7_43 : am_lk RX7 43 7 0 := Or.inl fgX7_43
theorem fgX7_46 : Cond.fieldLink RX7 46 ((am_cl 7).2.1 1).1 ((am_cl 7).2.1 1).2.1 ((am_cl 7).2.1 1).2.2.1 ∈ am_G := am_inG 710 (by decide +kernel) (by decide +kernel)
theorem fkX7_46 : am_lk RX7 46 7 1 := Or.inl fgX7_46
theorem mkX7_49 : am_mk RX7 49 yX7_in cX7_in 3 (some .boolean) 3 ∧ Cond.static yX7_in ∈ am_G := ⟨⟨Or.inl (am_inG 824 (by decide +kernel) (by decide +kernel)), kcX7_in, knX7, by decide +kernel⟩, kzX7_in⟩
theorem fgX7_53 : Cond.fieldLink RX7 53 ((am_cl 7).2.1 2).1 ((am_cl 7).2.1 2).2.1 ((am_cl 7).2.1 2).2.2.1 ∈ am_G := am_inG 711 (by decide +kernel) (by decide +kernel)
theorem fkX7_53 : am_lk RX7 53 7 2 := Or.inl fgX7_53
theorem mkX7_56 : am_mk RX7 56 yX7_isSetting cX7_isSetting 2 (some .boolean) 1 ∧ Cond.instanceMethod yX7_isSetting ∈ am_G ∧ Cond.selects yX7_isSetting.cls yX7_isSetting yX7_isSetting ∈ am_G := ⟨⟨Or.inl (am_inG 831 (by decide +kernel) (by decide +kernel)), kcX7_isSetting, knX7, by decide +kernel⟩, kiX7_isSetting, ksX7_isSetting⟩
theorem mkX7_60 : am_mk RX7 60 yX7_isInstance cX7_isInstance 2 (some .boolean) 1 ∧ Cond.instanceMethod yX7_isInstance ∈ am_G ∧ Cond.selects yX7_isInstance.cls yX7_isInstance yX7_isInstance ∈ am_G := ⟨⟨Or.inl (am_inG 835 (by decide +kernel) (by decide +kernel)), kcX7_isInstance, knX7, by decide +kernel⟩, kiX7_isInstance, ksX7_isInstance⟩
theorem kdX7_63 : Cond.constant RX7 63 1000000 ∈ am_G := am_inG 839 (by decide +kernel) (by decide +kernel)
theorem kdX7_64 : Cond.constant RX7 64 2000001 ∈ am_G := am_inG 840 (by decide +kernel) (by decide +kernel)
theorem mkX7_65 : am_mk RX7 65 yX7_costAt cX7_costAt 3 (some .int) 2 ∧ Cond.instanceMethod yX7_costAt ∈ am_G ∧ Cond.selects yX7_costAt.cls yX7_costAt yX7_costAt ∈ am_G := ⟨⟨Or.inl (am_inG 845 (by decide +kernel) (by decide +kernel)), kcX7_costAt, knX7, by decide +kernel⟩, kiX7_costAt, ksX7_costAt⟩
theorem fgX7_69 : Cond.fieldLink RX7 69 ((am_cl 7).2.1 12).1 ((am_cl 7).2.1 12).2.1 ((am_cl 7).2.1 12).2.2.1 ∈ am_G := am_inG 721 (by decide +kernel) (by decide +kernel)
theorem fkX7_69 : am_lk RX7 69 7 12 := Or.inl fgX7_69
theorem mkX7_72 : am_mk RX7 72 yX7_leftMany cX7_leftMany 3 (some .int) 0 ∧ Cond.instanceMethod yX7_leftMany ∈ am_G ∧ Cond.selects yX7_leftMany.cls yX7_leftMany yX7_leftMany ∈ am_G := ⟨⟨Or.inl (am_inG 858 (by decide +kernel) (by decide +kernel)), kcX7_leftMany, knX7, by decide +kernel⟩, kiX7_leftMany, ksX7_leftMany⟩
theorem fgX7_76 : Cond.fieldLink RX7 76 ((am_cl 7).2.1 10).1 ((am_cl 7).2.1 10).2.1 ((am_cl 7).2.1 10).2.2.1 ∈ am_G := am_inG 719 (by decide +kernel) (by decide +kernel)
theorem fkX7_76 : am_lk RX7 76 7 10 := Or.inl fgX7_76
theorem fgX7_79 : Cond.fieldLink RX7 79 ((am_cl 7).2.1 15).1 ((am_cl 7).2.1 15).2.1 ((am_cl 7).2.1 15).2.2.1 ∈ am_G := am_inG 724 (by decide +kernel) (by decide +kernel)
theorem fkX7_79 : am_lk RX7 79 7 15 := Or.inl fgX7_79
theorem fgX7_82 : Cond.fieldLink RX7 82 ((am_cl 7).2.1 13).1 ((am_cl 7).2.1 13).2.1 ((am_cl 7).2.1 13).2.2.1 ∈ am_G := am_inG 722 (by decide +kernel) (by decide +kernel)
theorem fkX7_82 : am_lk RX7 82 7 13 := Or.inl fgX7_82
theorem fgX7_85 : Cond.fieldLink RX7 85 ((am_cl 7).2.1 11).1 ((am_cl 7).2.1 11).2.1 ((am_cl 7).2.1 11).2.2.1 ∈ am_G := am_inG 720 (by decide +kernel) (by decide +kernel)
theorem fkX7_85 : am_lk RX7 85 7 11 := Or.inl fgX7_85
theorem fgX7_88 : Cond.fieldLink RX7 88 ((am_cl 7).2.1 16).1 ((am_cl 7).2.1 16).2.1 ((am_cl 7).2.1 16).2.2.1 ∈ am_G := am_inG 725 (by decide +kernel) (by decide +kernel)
theorem fkX7_88 : am_lk RX7 88 7 16 := Or.inl fgX7_88
theorem fgX7_91 : Cond.fieldLink RX7 91 ((am_cl 7).2.1 17).1 ((am_cl 7).2.1 17).2.1 ((am_cl 7).2.1 17).2.2.1 ∈ am_G := am_inG 726 (by decide +kernel) (by decide +kernel)
theorem fkX7_91 : am_lk RX7 91 7 17 := Or.inl fgX7_91
theorem fgX7_94 : Cond.fieldLink RX7 94 ((am_cl 7).2.1 18).1 ((am_cl 7).2.1 18).2.1 ((am_cl 7).2.1 18).2.2.1 ∈ am_G := am_inG 727 (by decide +kernel) (by decide +kernel)
theorem fkX7_94 : am_lk RX7 94 7 18 := Or.inl fgX7_94
theorem fgX7_97 : Cond.fieldLink RX7 97 ((am_cl 7).2.1 7).1 ((am_cl 7).2.1 7).2.1 ((am_cl 7).2.1 7).2.2.1 ∈ am_G := am_inG 716 (by decide +kernel) (by decide +kernel)
theorem fkX7_97 : am_lk RX7 97 7 7 := Or.inl fgX7_97
theorem fgX7_100 : Cond.fieldLink RX7 100 ((am_cl 7).2.1 8).1 ((am_cl 7).2.1 8).2.1 ((am_cl 7).2.1 8).2.2.1 ∈ am_G := am_inG 717 (by decide +kernel) (by decide +kernel)
theorem fkX7_100 : am_lk RX7 100 7 8 := Or.inl fgX7_100
theorem fgX7_103 : Cond.fieldLink RX7 103 ((am_cl 7).2.1 9).1 ((am_cl 7).2.1 9).2.1 ((am_cl 7).2.1 9).2.2.1 ∈ am_G := am_inG 718 (by decide +kernel) (by decide +kernel)
theorem fkX7_103 : am_lk RX7 103 7 9 := Or.inl fgX7_103
theorem kdX7_106 : Cond.constant RX7 106 1103515245 ∈ am_G := am_inG 853 (by decide +kernel) (by decide +kernel)
theorem mkX7_107 : am_mk RX7 107 yX7_look cX7_look 2 none 0 ∧ Cond.instanceMethod yX7_look ∈ am_G ∧ Cond.selects yX7_look.cls yX7_look yX7_look ∈ am_G := ⟨⟨Or.inl (am_inG 854 (by decide +kernel) (by decide +kernel)), kcX7_look, knX7, by decide +kernel⟩, kiX7_look, ksX7_look⟩
theorem mkX7_110 : am_mk RX7 110 yX7_isOn cX7_isOn 1 (some .boolean) 0 ∧ Cond.instanceMethod yX7_isOn ∈ am_G ∧ Cond.selects yX7_isOn.cls yX7_isOn yX7_isOn ∈ am_G := ⟨⟨Or.inl (am_inG 866 (by decide +kernel) (by decide +kernel)), kcX7_isOn, knX7, by decide +kernel⟩, kiX7_isOn, ksX7_isOn⟩
theorem mkX7_114 : am_mk RX7 114 yX7_drop cX7_drop 6 none 0 ∧ Cond.instanceMethod yX7_drop ∈ am_G ∧ Cond.selects yX7_drop.cls yX7_drop yX7_drop ∈ am_G := ⟨⟨Or.inl (am_inG 874 (by decide +kernel) (by decide +kernel)), kcX7_drop, knX7, by decide +kernel⟩, kiX7_drop, ksX7_drop⟩
theorem mkX7_117 : am_mk RX7 117 yX7_rankOf cX7_rankOf 7 (some .int) 1 ∧ Cond.instanceMethod yX7_rankOf ∈ am_G ∧ Cond.selects yX7_rankOf.cls yX7_rankOf yX7_rankOf ∈ am_G := ⟨⟨Or.inl (am_inG 882 (by decide +kernel) (by decide +kernel)), kcX7_rankOf, knX7, by decide +kernel⟩, kiX7_rankOf, ksX7_rankOf⟩
theorem mkX7_121 : am_mk RX7 121 yX7_leader cX7_leader 3 (some .int) 0 ∧ Cond.instanceMethod yX7_leader ∈ am_G ∧ Cond.selects yX7_leader.cls yX7_leader yX7_leader ∈ am_G := ⟨⟨Or.inl (am_inG 878 (by decide +kernel) (by decide +kernel)), kcX7_leader, knX7, by decide +kernel⟩, kiX7_leader, ksX7_leader⟩
theorem mkX7_124 : am_mk RX7 124 yX7_findOdds cX7_findOdds 11 none 2 ∧ Cond.instanceMethod yX7_findOdds ∈ am_G ∧ Cond.selects yX7_findOdds.cls yX7_findOdds yX7_findOdds ∈ am_G := ⟨⟨Or.inl (am_inG 886 (by decide +kernel) (by decide +kernel)), kcX7_findOdds, knX7, by decide +kernel⟩, kiX7_findOdds, ksX7_findOdds⟩
theorem fgX7_128 : Cond.fieldLink RX7 128 ((am_cl 7).2.1 21).1 ((am_cl 7).2.1 21).2.1 ((am_cl 7).2.1 21).2.2.1 ∈ am_G := am_inG 730 (by decide +kernel) (by decide +kernel)
theorem fkX7_128 : am_lk RX7 128 7 21 := Or.inl fgX7_128
theorem fgX7_132 : Cond.fieldLink RX7 132 ((am_cl 7).2.1 22).1 ((am_cl 7).2.1 22).2.1 ((am_cl 7).2.1 22).2.2.1 ∈ am_G := am_inG 731 (by decide +kernel) (by decide +kernel)
theorem fkX7_132 : am_lk RX7 132 7 22 := Or.inl fgX7_132
theorem mkX7_135 : am_mk RX7 135 yX7_ranOf cX7_ranOf 2 (some .int) 1 ∧ Cond.instanceMethod yX7_ranOf ∈ am_G ∧ Cond.selects yX7_ranOf.cls yX7_ranOf yX7_ranOf ∈ am_G := ⟨⟨Or.inl (am_inG 890 (by decide +kernel) (by decide +kernel)), kcX7_ranOf, knX7, by decide +kernel⟩, kiX7_ranOf, ksX7_ranOf⟩
theorem kdX7_138 : Cond.constantLong RX7 138 2 ∈ am_G := am_inG 894 (by decide +kernel) (by decide +kernel)
theorem kdX7_140 : Cond.constantLong RX7 140 (-9223372036854775808) ∈ am_G := am_inG 915 (by decide +kernel) (by decide +kernel)
theorem mkX7_142 : am_mk RX7 142 yX7_isWhole cX7_isWhole 3 (some .boolean) 1 ∧ Cond.instanceMethod yX7_isWhole ∈ am_G ∧ Cond.selects yX7_isWhole.cls yX7_isWhole yX7_isWhole ∈ am_G := ⟨⟨Or.inl (am_inG 924 (by decide +kernel) (by decide +kernel)), kcX7_isWhole, knX7, by decide +kernel⟩, kiX7_isWhole, ksX7_isWhole⟩
theorem mkX7_145 : am_mk RX7 145 yX7_wholes cX7_wholes 3 (some .int) 0 ∧ Cond.instanceMethod yX7_wholes ∈ am_G ∧ Cond.selects yX7_wholes.cls yX7_wholes yX7_wholes ∈ am_G := ⟨⟨Or.inl (am_inG 920 (by decide +kernel) (by decide +kernel)), kcX7_wholes, knX7, by decide +kernel⟩, kiX7_wholes, ksX7_wholes⟩
theorem fgX7_148 : Cond.fieldLink RX7 148 ((am_cl 7).2.1 26).1 ((am_cl 7).2.1 26).2.1 ((am_cl 7).2.1 26).2.2.1 ∈ am_G := am_inG 735 (by decide +kernel) (by decide +kernel)
theorem fkX7_148 : am_lk RX7 148 7 26 := Or.inl fgX7_148
theorem fgX7_151 : Cond.fieldLink RX7 151 ((am_cl 7).2.1 27).1 ((am_cl 7).2.1 27).2.1 ((am_cl 7).2.1 27).2.2.1 ∈ am_G := am_inG 736 (by decide +kernel) (by decide +kernel)
theorem fkX7_151 : am_lk RX7 151 7 27 := Or.inl fgX7_151
theorem mkX7_154 : am_mk RX7 154 yX7_many cX7_many 3 (some .int) 1 ∧ Cond.static yX7_many ∈ am_G := ⟨⟨Or.inl (am_inG 928 (by decide +kernel) (by decide +kernel)), kcX7_many, knX7, by decide +kernel⟩, kzX7_many⟩
theorem mkX7_157 : am_mk RX7 157 yX7_leastOf cX7_leastOf 5 (some .int) 2 ∧ Cond.instanceMethod yX7_leastOf ∈ am_G ∧ Cond.selects yX7_leastOf.cls yX7_leastOf yX7_leastOf ∈ am_G := ⟨⟨Or.inl (am_inG 935 (by decide +kernel) (by decide +kernel)), kcX7_leastOf, knX7, by decide +kernel⟩, kiX7_leastOf, ksX7_leastOf⟩
theorem mkX7_160 : am_mk RX7 160 yX7_isAhead cX7_isAhead 3 (some .boolean) 2 ∧ Cond.static yX7_isAhead ∈ am_G := ⟨⟨Or.inl (am_inG 939 (by decide +kernel) (by decide +kernel)), kcX7_isAhead, knX7, by decide +kernel⟩, kzX7_isAhead⟩
theorem mkX7_164 : am_mk RX7 164 yX7_findSet cX7_findSet 6 none 1 ∧ Cond.instanceMethod yX7_findSet ∈ am_G ∧ Cond.selects yX7_findSet.cls yX7_findSet yX7_findSet ∈ am_G := ⟨⟨Or.inl (am_inG 931 (by decide +kernel) (by decide +kernel)), kcX7_findSet, knX7, by decide +kernel⟩, kiX7_findSet, ksX7_findSet⟩
theorem mkX7_168 : am_mk RX7 168 yX7_farOf cX7_farOf 5 (some .int) 2 ∧ Cond.instanceMethod yX7_farOf ∈ am_G ∧ Cond.selects yX7_farOf.cls yX7_farOf yX7_farOf ∈ am_G := ⟨⟨Or.inl (am_inG 950 (by decide +kernel) (by decide +kernel)), kcX7_farOf, knX7, by decide +kernel⟩, kiX7_farOf, ksX7_farOf⟩
theorem mkX7_171 : am_mk RX7 171 yX7_pickOf cX7_pickOf 5 (some .int) 1 ∧ Cond.instanceMethod yX7_pickOf ∈ am_G ∧ Cond.selects yX7_pickOf.cls yX7_pickOf yX7_pickOf ∈ am_G := ⟨⟨Or.inl (am_inG 946 (by decide +kernel) (by decide +kernel)), kcX7_pickOf, knX7, by decide +kernel⟩, kiX7_pickOf, ksX7_pickOf⟩
theorem fgX7_174 : Cond.fieldLink RX7 174 ((am_cl 7).2.1 33).1 ((am_cl 7).2.1 33).2.1 ((am_cl 7).2.1 33).2.2.1 ∈ am_G := am_inG 742 (by decide +kernel) (by decide +kernel)
theorem fkX7_174 : am_lk RX7 174 7 33 := Or.inl fgX7_174
theorem fgX7_177 : Cond.fieldLink RX7 177 ((am_cl 7).2.1 32).1 ((am_cl 7).2.1 32).2.1 ((am_cl 7).2.1 32).2.2.1 ∈ am_G := am_inG 741 (by decide +kernel) (by decide +kernel)
theorem fkX7_177 : am_lk RX7 177 7 32 := Or.inl fgX7_177
theorem mkX7_180 : am_mk RX7 180 yX7_sideBest cX7_sideBest 8 (some .int) 3 ∧ Cond.instanceMethod yX7_sideBest ∈ am_G ∧ Cond.selects yX7_sideBest.cls yX7_sideBest yX7_sideBest ∈ am_G := ⟨⟨Or.inl (am_inG 962 (by decide +kernel) (by decide +kernel)), kcX7_sideBest, knX7, by decide +kernel⟩, kiX7_sideBest, ksX7_sideBest⟩
theorem fgX7_184 : Cond.fieldLink RX7 184 ((am_cl 7).2.1 28).1 ((am_cl 7).2.1 28).2.1 ((am_cl 7).2.1 28).2.2.1 ∈ am_G := am_inG 737 (by decide +kernel) (by decide +kernel)
theorem fkX7_184 : am_lk RX7 184 7 28 := Or.inl fgX7_184
theorem fgX7_187 : Cond.fieldLink RX7 187 ((am_cl 7).2.1 29).1 ((am_cl 7).2.1 29).2.1 ((am_cl 7).2.1 29).2.2.1 ∈ am_G := am_inG 738 (by decide +kernel) (by decide +kernel)
theorem fkX7_187 : am_lk RX7 187 7 29 := Or.inl fgX7_187
theorem fgX7_190 : Cond.fieldLink RX7 190 ((am_cl 7).2.1 30).1 ((am_cl 7).2.1 30).2.1 ((am_cl 7).2.1 30).2.2.1 ∈ am_G := am_inG 739 (by decide +kernel) (by decide +kernel)
theorem fkX7_190 : am_lk RX7 190 7 30 := Or.inl fgX7_190
theorem fgX7_193 : Cond.fieldLink RX7 193 ((am_cl 7).2.1 31).1 ((am_cl 7).2.1 31).2.1 ((am_cl 7).2.1 31).2.2.1 ∈ am_G := am_inG 740 (by decide +kernel) (by decide +kernel)
theorem fkX7_193 : am_lk RX7 193 7 31 := Or.inl fgX7_193
theorem mkX7_196 : am_mk RX7 196 yX7_findStump cX7_findStump 6 none 0 ∧ Cond.instanceMethod yX7_findStump ∈ am_G ∧ Cond.selects yX7_findStump.cls yX7_findStump yX7_findStump ∈ am_G := ⟨⟨Or.inl (am_inG 958 (by decide +kernel) (by decide +kernel)), kcX7_findStump, knX7, by decide +kernel⟩, kiX7_findStump, ksX7_findStump⟩
theorem mkX7_199 : am_mk RX7 199 yX7_runsOf cX7_runsOf 2 (some .int) 1 ∧ Cond.instanceMethod yX7_runsOf ∈ am_G ∧ Cond.selects yX7_runsOf.cls yX7_runsOf yX7_runsOf ∈ am_G := ⟨⟨Or.inl (am_inG 974 (by decide +kernel) (by decide +kernel)), kcX7_runsOf, knX7, by decide +kernel⟩, kiX7_runsOf, ksX7_runsOf⟩
theorem mkL_7 : am_mk RL 7 yX6_mean cX6_mean 4 (some .long) 3 ∧ Cond.instanceMethod yX6_mean ∈ am_G ∧ Cond.selects yX6_mean.cls yX6_mean yX6_mean ∈ am_G := ⟨⟨Or.inl (am_inG 629 (by decide +kernel) (by decide +kernel)), kcX6_mean, knX6, by decide +kernel⟩, kiX6_mean, ksX6_mean⟩
theorem klL_8 : Cond.classLink RL 8 RX6 ∈ am_G := am_inG 56 (by decide +kernel) (by decide +kernel)
theorem mkL_15 : am_mk RL 15 yX6_init cX6_init 1 none 0 ∧ yX6_init.name = "<init>" ∧ Cond.instanceMethod yX6_init ∈ am_G := ⟨⟨Or.inl (am_inG 58 (by decide +kernel) (by decide +kernel)), kcX6_init, knX6, by decide +kernel⟩, rfl, kiX6_init⟩
theorem klL_16 : Cond.classLink RL 16 RX7 ∈ am_G := am_inG 703 (by decide +kernel) (by decide +kernel)
theorem mkL_18 : am_mk RL 18 yX7_init cX7_init 1 none 0 ∧ yX7_init.name = "<init>" ∧ Cond.instanceMethod yX7_init ∈ am_G := ⟨⟨Or.inl (am_inG 705 (by decide +kernel) (by decide +kernel)), kcX7_init, knX7, by decide +kernel⟩, rfl, kiX7_init⟩
theorem mkL_19 : am_mk RL 19 yX6_setting cX6_setting 1 (some .int) 0 ∧ Cond.instanceMethod yX6_setting ∈ am_G ∧ Cond.selects yX6_setting.cls yX6_setting yX6_setting ∈ am_G := ⟨⟨Or.inl (am_inG 210 (by decide +kernel) (by decide +kernel)), kcX6_setting, knX6, by decide +kernel⟩, kiX6_setting, ksX6_setting⟩
theorem mkL_23 : am_mk RL 23 yX7_setting cX7_setting 1 (some .int) 0 ∧ Cond.instanceMethod yX7_setting ∈ am_G ∧ Cond.selects yX7_setting.cls yX7_setting yX7_setting ∈ am_G := ⟨⟨Or.inl (am_inG 816 (by decide +kernel) (by decide +kernel)), kcX7_setting, knX7, by decide +kernel⟩, kiX7_setting, ksX7_setting⟩
theorem mkL_24 : am_mk RL 24 yX6_instance cX6_instance 4 (some .int) 3 ∧ Cond.instanceMethod yX6_instance ∈ am_G ∧ Cond.selects yX6_instance.cls yX6_instance yX6_instance ∈ am_G := ⟨⟨Or.inl (am_inG 218 (by decide +kernel) (by decide +kernel)), kcX6_instance, knX6, by decide +kernel⟩, kiX6_instance, ksX6_instance⟩
theorem mkL_28 : am_mk RL 28 yX7_instance cX7_instance 4 (some .int) 3 ∧ Cond.instanceMethod yX7_instance ∈ am_G ∧ Cond.selects yX7_instance.cls yX7_instance yX7_instance ∈ am_G := ⟨⟨Or.inl (am_inG 820 (by decide +kernel) (by decide +kernel)), kcX7_instance, knX7, by decide +kernel⟩, kiX7_instance, ksX7_instance⟩
theorem mkL_29 : am_mk RL 29 yX6_cost cX6_cost 4 (some .int) 3 ∧ Cond.instanceMethod yX6_cost ∈ am_G ∧ Cond.selects yX6_cost.cls yX6_cost yX6_cost ∈ am_G := ⟨⟨Or.inl (am_inG 229 (by decide +kernel) (by decide +kernel)), kcX6_cost, knX6, by decide +kernel⟩, kiX6_cost, ksX6_cost⟩
theorem mkL_33 : am_mk RL 33 yX7_cost cX7_cost 6 (some .int) 3 ∧ Cond.instanceMethod yX7_cost ∈ am_G ∧ Cond.selects yX7_cost.cls yX7_cost yX7_cost ∈ am_G := ⟨⟨Or.inl (am_inG 827 (by decide +kernel) (by decide +kernel)), kcX7_cost, knX7, by decide +kernel⟩, kiX7_cost, ksX7_cost⟩
theorem mkL_34 : am_mk RL 34 yX6_costOf cX6_costOf 4 (some .int) 2 ∧ Cond.instanceMethod yX6_costOf ∈ am_G ∧ Cond.selects yX6_costOf.cls yX6_costOf yX6_costOf ∈ am_G := ⟨⟨Or.inl (am_inG 253 (by decide +kernel) (by decide +kernel)), kcX6_costOf, knX6, by decide +kernel⟩, kiX6_costOf, ksX6_costOf⟩
theorem mkL_38 : am_mk RL 38 yX7_costOf cX7_costOf 3 (some .int) 2 ∧ Cond.instanceMethod yX7_costOf ∈ am_G ∧ Cond.selects yX7_costOf.cls yX7_costOf yX7_costOf ∈ am_G := ⟨⟨Or.inl (am_inG 841 (by decide +kernel) (by decide +kernel)), kcX7_costOf, knX7, by decide +kernel⟩, kiX7_costOf, ksX7_costOf⟩
theorem mkL_39 : am_mk RL 39 yX6_race cX6_race 10 (some .int) 7 ∧ Cond.instanceMethod yX6_race ∈ am_G ∧ Cond.selects yX6_race.cls yX6_race yX6_race ∈ am_G := ⟨⟨Or.inl (am_inG 257 (by decide +kernel) (by decide +kernel)), kcX6_race, knX6, by decide +kernel⟩, kiX6_race, ksX6_race⟩
theorem mkL_43 : am_mk RL 43 yX7_race cX7_race 12 (some .int) 7 ∧ Cond.instanceMethod yX7_race ∈ am_G ∧ Cond.selects yX7_race.cls yX7_race yX7_race ∈ am_G := ⟨⟨Or.inl (am_inG 849 (by decide +kernel) (by decide +kernel)), kcX7_race, knX7, by decide +kernel⟩, kiX7_race, ksX7_race⟩
theorem mkL_44 : am_mk RL 44 yX6_wants cX6_wants 2 (some .int) 1 ∧ Cond.instanceMethod yX6_wants ∈ am_G ∧ Cond.selects yX6_wants.cls yX6_wants yX6_wants ∈ am_G := ⟨⟨Or.inl (am_inG 371 (by decide +kernel) (by decide +kernel)), kcX6_wants, knX6, by decide +kernel⟩, kiX6_wants, ksX6_wants⟩
theorem mkL_48 : am_mk RL 48 yX7_wants cX7_wants 2 (some .int) 1 ∧ Cond.instanceMethod yX7_wants ∈ am_G ∧ Cond.selects yX7_wants.cls yX7_wants yX7_wants ∈ am_G := ⟨⟨Or.inl (am_inG 862 (by decide +kernel) (by decide +kernel)), kcX7_wants, knX7, by decide +kernel⟩, kiX7_wants, ksX7_wants⟩
theorem mkL_49 : am_mk RL 49 yX6_run cX6_run 1 (some .int) 0 ∧ Cond.instanceMethod yX6_run ∈ am_G ∧ Cond.selects yX6_run.cls yX6_run yX6_run ∈ am_G := ⟨⟨Or.inl (am_inG 379 (by decide +kernel) (by decide +kernel)), kcX6_run, knX6, by decide +kernel⟩, kiX6_run, ksX6_run⟩
theorem mkL_52 : am_mk RL 52 yX7_run cX7_run 1 (some .int) 0 ∧ Cond.instanceMethod yX7_run ∈ am_G ∧ Cond.selects yX7_run.cls yX7_run yX7_run ∈ am_G := ⟨⟨Or.inl (am_inG 870 (by decide +kernel) (by decide +kernel)), kcX7_run, knX7, by decide +kernel⟩, kiX7_run, ksX7_run⟩
theorem mkL_53 : am_mk RL 53 yX6_left cX6_left 2 (some .int) 1 ∧ Cond.instanceMethod yX6_left ∈ am_G ∧ Cond.selects yX6_left.cls yX6_left yX6_left ∈ am_G := ⟨⟨Or.inl (am_inG 460 (by decide +kernel) (by decide +kernel)), kcX6_left, knX6, by decide +kernel⟩, kiX6_left, ksX6_left⟩
theorem mkL_56 : am_mk RL 56 yX7_left cX7_left 4 (some .int) 1 ∧ Cond.instanceMethod yX7_left ∈ am_G ∧ Cond.selects yX7_left.cls yX7_left yX7_left ∈ am_G := ⟨⟨Or.inl (am_inG 895 (by decide +kernel) (by decide +kernel)), kcX7_left, knX7, by decide +kernel⟩, kiX7_left, ksX7_left⟩
theorem mkL_57 : am_mk RL 57 yX6_raceOf cX6_raceOf 2 (some .int) 1 ∧ Cond.instanceMethod yX6_raceOf ∈ am_G ∧ Cond.selects yX6_raceOf.cls yX6_raceOf yX6_raceOf ∈ am_G := ⟨⟨Or.inl (am_inG 468 (by decide +kernel) (by decide +kernel)), kcX6_raceOf, knX6, by decide +kernel⟩, kiX6_raceOf, ksX6_raceOf⟩
theorem mkL_60 : am_mk RL 60 yX7_raceOf cX7_raceOf 2 (some .int) 1 ∧ Cond.instanceMethod yX7_raceOf ∈ am_G ∧ Cond.selects yX7_raceOf.cls yX7_raceOf yX7_raceOf ∈ am_G := ⟨⟨Or.inl (am_inG 899 (by decide +kernel) (by decide +kernel)), kcX7_raceOf, knX7, by decide +kernel⟩, kiX7_raceOf, ksX7_raceOf⟩
theorem mkL_61 : am_mk RL 61 yX6_rank cX6_rank 2 (some .int) 1 ∧ Cond.instanceMethod yX6_rank ∈ am_G ∧ Cond.selects yX6_rank.cls yX6_rank yX6_rank ∈ am_G := ⟨⟨Or.inl (am_inG 476 (by decide +kernel) (by decide +kernel)), kcX6_rank, knX6, by decide +kernel⟩, kiX6_rank, ksX6_rank⟩
theorem mkL_64 : am_mk RL 64 yX7_rank cX7_rank 2 (some .int) 1 ∧ Cond.instanceMethod yX7_rank ∈ am_G ∧ Cond.selects yX7_rank.cls yX7_rank yX7_rank ∈ am_G := ⟨⟨Or.inl (am_inG 903 (by decide +kernel) (by decide +kernel)), kcX7_rank, knX7, by decide +kernel⟩, kiX7_rank, ksX7_rank⟩
theorem mkL_65 : am_mk RL 65 yX6_dropped cX6_dropped 2 (some .int) 1 ∧ Cond.instanceMethod yX6_dropped ∈ am_G ∧ Cond.selects yX6_dropped.cls yX6_dropped yX6_dropped ∈ am_G := ⟨⟨Or.inl (am_inG 482 (by decide +kernel) (by decide +kernel)), kcX6_dropped, knX6, by decide +kernel⟩, kiX6_dropped, ksX6_dropped⟩
theorem mkL_68 : am_mk RL 68 yX7_dropped cX7_dropped 2 (some .int) 1 ∧ Cond.instanceMethod yX7_dropped ∈ am_G ∧ Cond.selects yX7_dropped.cls yX7_dropped yX7_dropped ∈ am_G := ⟨⟨Or.inl (am_inG 907 (by decide +kernel) (by decide +kernel)), kcX7_dropped, knX7, by decide +kernel⟩, kiX7_dropped, ksX7_dropped⟩
theorem mkL_69 : am_mk RL 69 yX6_odds cX6_odds 4 (some .long) 3 ∧ Cond.instanceMethod yX6_odds ∈ am_G ∧ Cond.selects yX6_odds.cls yX6_odds yX6_odds ∈ am_G := ⟨⟨Or.inl (am_inG 487 (by decide +kernel) (by decide +kernel)), kcX6_odds, knX6, by decide +kernel⟩, kiX6_odds, ksX6_odds⟩
theorem mkL_72 : am_mk RL 72 yX7_odds cX7_odds 4 (some .long) 3 ∧ Cond.instanceMethod yX7_odds ∈ am_G ∧ Cond.selects yX7_odds.cls yX7_odds yX7_odds ∈ am_G := ⟨⟨Or.inl (am_inG 911 (by decide +kernel) (by decide +kernel)), kcX7_odds, knX7, by decide +kernel⟩, kiX7_odds, ksX7_odds⟩
theorem mkL_73 : am_mk RL 73 yX6_portfolio cX6_portfolio 3 (some .int) 2 ∧ Cond.instanceMethod yX6_portfolio ∈ am_G ∧ Cond.selects yX6_portfolio.cls yX6_portfolio yX6_portfolio ∈ am_G := ⟨⟨Or.inl (am_inG 499 (by decide +kernel) (by decide +kernel)), kcX6_portfolio, knX6, by decide +kernel⟩, kiX6_portfolio, ksX6_portfolio⟩
theorem mkL_76 : am_mk RL 76 yX7_portfolio cX7_portfolio 5 (some .int) 2 ∧ Cond.instanceMethod yX7_portfolio ∈ am_G ∧ Cond.selects yX7_portfolio.cls yX7_portfolio yX7_portfolio ∈ am_G := ⟨⟨Or.inl (am_inG 916 (by decide +kernel) (by decide +kernel)), kcX7_portfolio, knX7, by decide +kernel⟩, kiX7_portfolio, ksX7_portfolio⟩
theorem mkL_77 : am_mk RL 77 yX6_pick cX6_pick 3 (some .int) 1 ∧ Cond.instanceMethod yX6_pick ∈ am_G ∧ Cond.selects yX6_pick.cls yX6_pick yX6_pick ∈ am_G := ⟨⟨Or.inl (am_inG 552 (by decide +kernel) (by decide +kernel)), kcX6_pick, knX6, by decide +kernel⟩, kiX6_pick, ksX6_pick⟩
theorem mkL_80 : am_mk RL 80 yX7_pick cX7_pick 2 (some .int) 1 ∧ Cond.instanceMethod yX7_pick ∈ am_G ∧ Cond.selects yX7_pick.cls yX7_pick yX7_pick ∈ am_G := ⟨⟨Or.inl (am_inG 942 (by decide +kernel) (by decide +kernel)), kcX7_pick, knX7, by decide +kernel⟩, kiX7_pick, ksX7_pick⟩
theorem mkL_81 : am_mk RL 81 yX6_stump cX6_stump 2 (some .int) 1 ∧ Cond.instanceMethod yX6_stump ∈ am_G ∧ Cond.selects yX6_stump.cls yX6_stump yX6_stump ∈ am_G := ⟨⟨Or.inl (am_inG 579 (by decide +kernel) (by decide +kernel)), kcX6_stump, knX6, by decide +kernel⟩, kiX6_stump, ksX6_stump⟩
theorem mkL_84 : am_mk RL 84 yX7_stump cX7_stump 2 (some .int) 1 ∧ Cond.instanceMethod yX7_stump ∈ am_G ∧ Cond.selects yX7_stump.cls yX7_stump yX7_stump ∈ am_G := ⟨⟨Or.inl (am_inG 954 (by decide +kernel) (by decide +kernel)), kcX7_stump, knX7, by decide +kernel⟩, kiX7_stump, ksX7_stump⟩
theorem mkL_85 : am_mk RL 85 yX6_heldOut cX6_heldOut 5 (some .int) 1 ∧ Cond.instanceMethod yX6_heldOut ∈ am_G ∧ Cond.selects yX6_heldOut.cls yX6_heldOut yX6_heldOut ∈ am_G := ⟨⟨Or.inl (am_inG 608 (by decide +kernel) (by decide +kernel)), kcX6_heldOut, knX6, by decide +kernel⟩, kiX6_heldOut, ksX6_heldOut⟩
theorem mkL_88 : am_mk RL 88 yX7_heldOut cX7_heldOut 6 (some .int) 1 ∧ Cond.instanceMethod yX7_heldOut ∈ am_G ∧ Cond.selects yX7_heldOut.cls yX7_heldOut yX7_heldOut ∈ am_G := ⟨⟨Or.inl (am_inG 966 (by decide +kernel) (by decide +kernel)), kcX7_heldOut, knX7, by decide +kernel⟩, kiX7_heldOut, ksX7_heldOut⟩
theorem moL_89 : Cond.methodLink RL 89 yL_mean ∈ am_G := am_inG 625 (by decide +kernel) (by decide +kernel)
theorem mkL_94 : am_mk RL 94 yX7_mean cX7_mean 8 (some .long) 3 ∧ Cond.instanceMethod yX7_mean ∈ am_G ∧ Cond.selects yX7_mean.cls yX7_mean yX7_mean ∈ am_G := ⟨⟨Or.inl (am_inG 970 (by decide +kernel) (by decide +kernel)), kcX7_mean, knX7, by decide +kernel⟩, kiX7_mean, ksX7_mean⟩
theorem mkL_95 : am_mk RL 95 yX7_thrown cX7_thrown 1 (some .int) 0 ∧ Cond.instanceMethod yX7_thrown ∈ am_G ∧ Cond.selects yX7_thrown.cls yX7_thrown yX7_thrown ∈ am_G := ⟨⟨Or.inl (am_inG 812 (by decide +kernel) (by decide +kernel)), kcX7_thrown, knX7, by decide +kernel⟩, kiX7_thrown, ksX7_thrown⟩
end
section
/-! where each cell of the system lies, and what of it never changes -/
def bs_shp : Nat → Nat × Nat := fun n => [(12, 0), (6, 0), (5, 0), (11, 12), (8, 24), (8, 24), (8, 24), (8, 24), (8, 24), (8, 24), (8, 24), (8, 24), (8, 24), (8, 24), (8, 24), (8, 24), (8, 12), (11, 2), (8, 24), (8, 24), (10, 24), (0, 0), (8, 24), (10, 24), (9, 601), (1, 0), (8, 12), (8, 12), (8, 12), (11, 13), (8, 24), (8, 24), (8, 24), (8, 24), (8, 24), (8, 24), (8, 24), (8, 24), (8, 24), (8, 24), (8, 24), (8, 24), (8, 24), (4, 0), (8, 12), (8, 12), (7, 0), (8, 48), (10, 24), (8, 288), (8, 24), (8, 12), (8, 12), (8, 24), (10, 24), (9, 1300), (9, 1)].getD n (12, 0)
def bs_ref : List (Nat × Nat × Nat) := [(2, 0, 3), (2, 1, 16), (2, 2, 17), (2, 3, 20), (21, 0, 22), (21, 1, 23), (21, 2, 24), (25, 0, 26), (25, 1, 27), (25, 2, 28), (25, 3, 29), (43, 0, 44), (43, 1, 45), (46, 3, 47), (46, 4, 48), (46, 5, 49), (46, 14, 50), (46, 19, 51), (46, 20, 52), (46, 23, 53), (46, 24, 54), (46, 25, 55), (1, 0, 2), (1, 1, 21), (1, 2, 25), (1, 3, 43)]
def Bs (μ : am_M) : Prop := (∀ n, 0 < n → n < 57 → mm_S μ n = bs_shp n) ∧ (∀ r ∈ bs_ref, mm_R μ r.1 r.2.1 = some r.2.2) ∧ (∀ j, j < 12 → mm_R μ 3 j = some (4 + j)) ∧ (∀ j, j < 2 → mm_R μ 17 j = some (18 + j)) ∧ (∀ j, j < 13 → mm_R μ 29 j = some (30 + j)) ∧ 57 ≤ mm_Z μ
theorem so6 {μ : am_M} (hb : Bs μ) : (mm_S μ 1).1 = 6 := by rw [hb.1 1 (by decide) (by decide)]; rfl
theorem so5 {μ : am_M} (hb : Bs μ) : (mm_S μ 2).1 = 5 := by rw [hb.1 2 (by decide) (by decide)]; rfl
theorem so0 {μ : am_M} (hb : Bs μ) : (mm_S μ 21).1 = 0 := by rw [hb.1 21 (by decide) (by decide)]; rfl
theorem so1 {μ : am_M} (hb : Bs μ) : (mm_S μ 25).1 = 1 := by rw [hb.1 25 (by decide) (by decide)]; rfl
theorem so4 {μ : am_M} (hb : Bs μ) : (mm_S μ 43).1 = 4 := by rw [hb.1 43 (by decide) (by decide)]; rfl
theorem so7 {μ : am_M} (hb : Bs μ) : (mm_S μ 46).1 = 7 := by rw [hb.1 46 (by decide) (by decide)]; rfl
theorem sa5_0 {μ : am_M} (hb : Bs μ) : mm_S μ 3 = (11, 12) := by rw [hb.1 3 (by decide) (by decide)]; rfl
theorem sg5_0 {μ : am_M} (hb : Bs μ) {j : Nat} (h : j < 12) : mm_S μ (4 + j) = (8, 24) := by rw [hb.1 (4 + j) (by omega) (by omega)]; exact (co_dec (N := 12) (P := fun j => bs_shp (4 + j) = (8, 24)) (by decide) h)
theorem rg5_0 {μ : am_M} (hb : Bs μ) {j : Nat} (h : j < 12) : mm_R μ 3 j = some (4 + j) := hb.2.2.1 j h
theorem rf5_0 {μ : am_M} (hb : Bs μ) : mm_R μ 2 0 = some 3 := hb.2.1 (2, 0, 3) (by decide)
theorem sa5_1 {μ : am_M} (hb : Bs μ) : mm_S μ 16 = (8, 12) := by rw [hb.1 16 (by decide) (by decide)]; rfl
theorem rf5_1 {μ : am_M} (hb : Bs μ) : mm_R μ 2 1 = some 16 := hb.2.1 (2, 1, 16) (by decide)
theorem sa5_2 {μ : am_M} (hb : Bs μ) : mm_S μ 17 = (11, 2) := by rw [hb.1 17 (by decide) (by decide)]; rfl
theorem sg5_2 {μ : am_M} (hb : Bs μ) {j : Nat} (h : j < 2) : mm_S μ (18 + j) = (8, 24) := by rw [hb.1 (18 + j) (by omega) (by omega)]; exact (co_dec (N := 2) (P := fun j => bs_shp (18 + j) = (8, 24)) (by decide) h)
theorem rg5_2 {μ : am_M} (hb : Bs μ) {j : Nat} (h : j < 2) : mm_R μ 17 j = some (18 + j) := hb.2.2.2.1 j h
theorem rf5_2 {μ : am_M} (hb : Bs μ) : mm_R μ 2 2 = some 17 := hb.2.1 (2, 2, 17) (by decide)
theorem sa5_3 {μ : am_M} (hb : Bs μ) : mm_S μ 20 = (10, 24) := by rw [hb.1 20 (by decide) (by decide)]; rfl
theorem rf5_3 {μ : am_M} (hb : Bs μ) : mm_R μ 2 3 = some 20 := hb.2.1 (2, 3, 20) (by decide)
theorem sa0_0 {μ : am_M} (hb : Bs μ) : mm_S μ 22 = (8, 24) := by rw [hb.1 22 (by decide) (by decide)]; rfl
theorem rf0_0 {μ : am_M} (hb : Bs μ) : mm_R μ 21 0 = some 22 := hb.2.1 (21, 0, 22) (by decide)
theorem sa0_1 {μ : am_M} (hb : Bs μ) : mm_S μ 23 = (10, 24) := by rw [hb.1 23 (by decide) (by decide)]; rfl
theorem rf0_1 {μ : am_M} (hb : Bs μ) : mm_R μ 21 1 = some 23 := hb.2.1 (21, 1, 23) (by decide)
theorem sa0_2 {μ : am_M} (hb : Bs μ) : mm_S μ 24 = (9, 601) := by rw [hb.1 24 (by decide) (by decide)]; rfl
theorem rf0_2 {μ : am_M} (hb : Bs μ) : mm_R μ 21 2 = some 24 := hb.2.1 (21, 2, 24) (by decide)
theorem sa1_0 {μ : am_M} (hb : Bs μ) : mm_S μ 26 = (8, 12) := by rw [hb.1 26 (by decide) (by decide)]; rfl
theorem rf1_0 {μ : am_M} (hb : Bs μ) : mm_R μ 25 0 = some 26 := hb.2.1 (25, 0, 26) (by decide)
theorem sa1_1 {μ : am_M} (hb : Bs μ) : mm_S μ 27 = (8, 12) := by rw [hb.1 27 (by decide) (by decide)]; rfl
theorem rf1_1 {μ : am_M} (hb : Bs μ) : mm_R μ 25 1 = some 27 := hb.2.1 (25, 1, 27) (by decide)
theorem sa1_2 {μ : am_M} (hb : Bs μ) : mm_S μ 28 = (8, 12) := by rw [hb.1 28 (by decide) (by decide)]; rfl
theorem rf1_2 {μ : am_M} (hb : Bs μ) : mm_R μ 25 2 = some 28 := hb.2.1 (25, 2, 28) (by decide)
theorem sa1_3 {μ : am_M} (hb : Bs μ) : mm_S μ 29 = (11, 13) := by rw [hb.1 29 (by decide) (by decide)]; rfl
theorem sg1_3 {μ : am_M} (hb : Bs μ) {j : Nat} (h : j < 13) : mm_S μ (30 + j) = (8, 24) := by rw [hb.1 (30 + j) (by omega) (by omega)]; exact (co_dec (N := 13) (P := fun j => bs_shp (30 + j) = (8, 24)) (by decide) h)
theorem rg1_3 {μ : am_M} (hb : Bs μ) {j : Nat} (h : j < 13) : mm_R μ 29 j = some (30 + j) := hb.2.2.2.2.1 j h
theorem rf1_3 {μ : am_M} (hb : Bs μ) : mm_R μ 25 3 = some 29 := hb.2.1 (25, 3, 29) (by decide)
theorem sa4_0 {μ : am_M} (hb : Bs μ) : mm_S μ 44 = (8, 12) := by rw [hb.1 44 (by decide) (by decide)]; rfl
theorem rf4_0 {μ : am_M} (hb : Bs μ) : mm_R μ 43 0 = some 44 := hb.2.1 (43, 0, 44) (by decide)
theorem sa4_1 {μ : am_M} (hb : Bs μ) : mm_S μ 45 = (8, 12) := by rw [hb.1 45 (by decide) (by decide)]; rfl
theorem rf4_1 {μ : am_M} (hb : Bs μ) : mm_R μ 43 1 = some 45 := hb.2.1 (43, 1, 45) (by decide)
theorem sa7_3 {μ : am_M} (hb : Bs μ) : mm_S μ 47 = (8, 48) := by rw [hb.1 47 (by decide) (by decide)]; rfl
theorem rf7_3 {μ : am_M} (hb : Bs μ) : mm_R μ 46 3 = some 47 := hb.2.1 (46, 3, 47) (by decide)
theorem sa7_4 {μ : am_M} (hb : Bs μ) : mm_S μ 48 = (10, 24) := by rw [hb.1 48 (by decide) (by decide)]; rfl
theorem rf7_4 {μ : am_M} (hb : Bs μ) : mm_R μ 46 4 = some 48 := hb.2.1 (46, 4, 48) (by decide)
theorem sa7_5 {μ : am_M} (hb : Bs μ) : mm_S μ 49 = (8, 288) := by rw [hb.1 49 (by decide) (by decide)]; rfl
theorem rf7_5 {μ : am_M} (hb : Bs μ) : mm_R μ 46 5 = some 49 := hb.2.1 (46, 5, 49) (by decide)
theorem sa7_14 {μ : am_M} (hb : Bs μ) : mm_S μ 50 = (8, 24) := by rw [hb.1 50 (by decide) (by decide)]; rfl
theorem rf7_14 {μ : am_M} (hb : Bs μ) : mm_R μ 46 14 = some 50 := hb.2.1 (46, 14, 50) (by decide)
theorem sa7_19 {μ : am_M} (hb : Bs μ) : mm_S μ 51 = (8, 12) := by rw [hb.1 51 (by decide) (by decide)]; rfl
theorem rf7_19 {μ : am_M} (hb : Bs μ) : mm_R μ 46 19 = some 51 := hb.2.1 (46, 19, 51) (by decide)
theorem sa7_20 {μ : am_M} (hb : Bs μ) : mm_S μ 52 = (8, 12) := by rw [hb.1 52 (by decide) (by decide)]; rfl
theorem rf7_20 {μ : am_M} (hb : Bs μ) : mm_R μ 46 20 = some 52 := hb.2.1 (46, 20, 52) (by decide)
theorem sa7_23 {μ : am_M} (hb : Bs μ) : mm_S μ 53 = (8, 24) := by rw [hb.1 53 (by decide) (by decide)]; rfl
theorem rf7_23 {μ : am_M} (hb : Bs μ) : mm_R μ 46 23 = some 53 := hb.2.1 (46, 23, 53) (by decide)
theorem sa7_24 {μ : am_M} (hb : Bs μ) : mm_S μ 54 = (10, 24) := by rw [hb.1 54 (by decide) (by decide)]; rfl
theorem rf7_24 {μ : am_M} (hb : Bs μ) : mm_R μ 46 24 = some 54 := hb.2.1 (46, 24, 54) (by decide)
theorem sa7_25 {μ : am_M} (hb : Bs μ) : mm_S μ 55 = (9, 1300) := by rw [hb.1 55 (by decide) (by decide)]; rfl
theorem rf7_25 {μ : am_M} (hb : Bs μ) : mm_R μ 46 25 = some 55 := hb.2.1 (46, 25, 55) (by decide)
theorem rf6_0 {μ : am_M} (hb : Bs μ) : mm_R μ 1 0 = some 2 := hb.2.1 (1, 0, 2) (by decide)
theorem rf6_1 {μ : am_M} (hb : Bs μ) : mm_R μ 1 1 = some 21 := hb.2.1 (1, 1, 21) (by decide)
theorem rf6_2 {μ : am_M} (hb : Bs μ) : mm_R μ 1 2 = some 25 := hb.2.1 (1, 2, 25) (by decide)
theorem rf6_3 {μ : am_M} (hb : Bs μ) : mm_R μ 1 3 = some 43 := hb.2.1 (1, 3, 43) (by decide)
theorem Bs.z {μ : am_M} (hb : Bs μ) : 57 ≤ mm_Z μ := hb.2.2.2.2.2
theorem sa56 {μ : am_M} (hb : Bs μ) : mm_S μ 56 = (9, 1) := by rw [hb.1 56 (by decide) (by decide)]; rfl
/-- what never changes of a race that began at q: L learning instances -/
def Rc (μ : am_M) (q L : Nat) : Prop := 57 ≤ q ∧ mm_S μ q = (3, 0) ∧ mm_S μ (q + 1) = (2, 0) ∧ mm_S μ (q + 2) = (11, 12) ∧ (∀ j, j < 12 → mm_S μ (q + 3 + j) = (8, 24)) ∧ mm_S μ (q + 15) = (8, 12) ∧ mm_S μ (q + 16) = (8, 12) ∧ mm_S μ (q + 17) = (8, 12) ∧ mm_S μ (q + 18) = (8, 12) ∧ mm_S μ (q + 19) = (8, L) ∧ L ≤ 24 ∧
  mm_R μ (q + 1) 0 = some 2 ∧ mm_R μ (q + 1) 1 = some 21 ∧ mm_R μ (q + 1) 2 = some q ∧ mm_R μ (q + 1) 3 = some (q + 19) ∧ mm_R μ (q + 1) 5 = some (q + 2) ∧ mm_R μ (q + 1) 6 = some (q + 15) ∧ mm_R μ (q + 1) 7 = some (q + 16) ∧ mm_R μ (q + 1) 8 = some (q + 17) ∧ mm_R μ (q + 1) 9 = some (q + 18) ∧ (∀ j, j < 12 → mm_R μ (q + 2) j = some (q + 3 + j))
section RCX
variable {μ : am_M} {q L : Nat}
theorem so3 (hr : Rc μ q L) : (mm_S μ q).1 = 3 := by rw [hr.2.1]
theorem so2 (hr : Rc μ q L) : (mm_S μ (q + 1)).1 = 2 := by rw [hr.2.2.1]
theorem sa2_5 (hr : Rc μ q L) : mm_S μ (q + 2) = (11, 12) := hr.2.2.2.1
theorem sg2_5 (hr : Rc μ q L) {j : Nat} (h : j < 12) : mm_S μ (q + 3 + j) = (8, 24) := hr.2.2.2.2.1 j h
theorem sa2_6 (hr : Rc μ q L) : mm_S μ (q + 15) = (8, 12) := hr.2.2.2.2.2.1
theorem sa2_7 (hr : Rc μ q L) : mm_S μ (q + 16) = (8, 12) := hr.2.2.2.2.2.2.1
theorem sa2_8 (hr : Rc μ q L) : mm_S μ (q + 17) = (8, 12) := hr.2.2.2.2.2.2.2.1
theorem sa2_9 (hr : Rc μ q L) : mm_S μ (q + 18) = (8, 12) := hr.2.2.2.2.2.2.2.2.1
theorem sa2_3 (hr : Rc μ q L) : mm_S μ (q + 19) = (8, L) := hr.2.2.2.2.2.2.2.2.2.1
theorem Rc.l (hr : Rc μ q L) : L ≤ 24 := hr.2.2.2.2.2.2.2.2.2.2.1
theorem Rc.qq (hr : Rc μ q L) : 57 ≤ q := hr.1
theorem rf2_0 (hr : Rc μ q L) : mm_R μ (q + 1) 0 = some 2 := hr.2.2.2.2.2.2.2.2.2.2.2.1
theorem rf2_1 (hr : Rc μ q L) : mm_R μ (q + 1) 1 = some 21 := hr.2.2.2.2.2.2.2.2.2.2.2.2.1
theorem rf2_2 (hr : Rc μ q L) : mm_R μ (q + 1) 2 = some q := hr.2.2.2.2.2.2.2.2.2.2.2.2.2.1
theorem rf2_3 (hr : Rc μ q L) : mm_R μ (q + 1) 3 = some (q + 19) := hr.2.2.2.2.2.2.2.2.2.2.2.2.2.2.1
theorem rf2_5 (hr : Rc μ q L) : mm_R μ (q + 1) 5 = some (q + 2) := hr.2.2.2.2.2.2.2.2.2.2.2.2.2.2.2.1
theorem rf2_6 (hr : Rc μ q L) : mm_R μ (q + 1) 6 = some (q + 15) := hr.2.2.2.2.2.2.2.2.2.2.2.2.2.2.2.2.1
theorem rf2_7 (hr : Rc μ q L) : mm_R μ (q + 1) 7 = some (q + 16) := hr.2.2.2.2.2.2.2.2.2.2.2.2.2.2.2.2.2.1
theorem rf2_8 (hr : Rc μ q L) : mm_R μ (q + 1) 8 = some (q + 17) := hr.2.2.2.2.2.2.2.2.2.2.2.2.2.2.2.2.2.2.1
theorem rf2_9 (hr : Rc μ q L) : mm_R μ (q + 1) 9 = some (q + 18) := hr.2.2.2.2.2.2.2.2.2.2.2.2.2.2.2.2.2.2.2.1
theorem rg2_5 (hr : Rc μ q L) {j : Nat} (h : j < 12) : mm_R μ (q + 2) j = some (q + 3 + j) := hr.2.2.2.2.2.2.2.2.2.2.2.2.2.2.2.2.2.2.2.2 j h
end RCX
/-- the same cells, the same references -/
def Fr (μ μ' : am_M) : Prop := mm_S μ' = mm_S μ ∧ mm_R μ' = mm_R μ ∧ mm_Z μ' = mm_Z μ
theorem Fr.rf (μ : am_M) : Fr μ μ := ⟨rfl, rfl, rfl⟩
theorem Fr.tr {μ μ' μ'' : am_M} (h : Fr μ μ') (h2 : Fr μ' μ'') : Fr μ μ'' := ⟨h2.1.trans h.1, h2.2.1.trans h.2.1, h2.2.2.trans h.2.2⟩
theorem Bs.fr {μ μ' : am_M} (hb : Bs μ) (h : Fr μ μ') : Bs μ' := by
  unfold Bs at *
  rw [h.1, h.2.1, h.2.2]
  exact hb
theorem Rc.fr {μ μ' : am_M} {q L : Nat} (hb : Rc μ q L) (h : Fr μ μ') : Rc μ' q L := by
  unfold Rc at *
  rw [h.1, h.2.1]
  exact hb
/-- a truth as the machine has it -/
def bz (P : Prop) [Decidable P] : Int32 := if P then 1 else 0
theorem bz_0 {P : Prop} [Decidable P] : bz P = 0 ↔ ¬ P := by
  unfold bz
  by_cases h : P
  · rw [if_pos h]; exact ⟨fun q => absurd q (by decide), fun q => absurd h q⟩
  · rw [if_neg h]; exact ⟨fun _ => h, fun _ => rfl⟩
theorem bz_1 {P : Prop} [Decidable P] : bz P = 1 ↔ P := by
  unfold bz
  by_cases h : P
  · rw [if_pos h]; exact ⟨fun _ => h, fun _ => rfl⟩
  · rw [if_neg h]; exact ⟨fun q => absurd q (by decide), fun q => absurd q h⟩
theorem bz_t {P : Prop} [Decidable P] (h : P) : (1 : Int32) = bz P := (bz_1.mpr h).symm
theorem bz_f {P : Prop} [Decidable P] (h : ¬ P) : (0 : Int32) = bz P := (bz_0.mpr h).symm
theorem bz_01 {P : Prop} [Decidable P] : bz P = 0 ∨ bz P = 1 := by by_cases h : P; exact Or.inr (bz_1.mpr h); exact Or.inl (bz_0.mpr h)
theorem nI_inc (n : Nat) : nI n + Int32.ofInt 1 = nI (n + 1) := nI_1 n
theorem nI_dec {n : Nat} (h : 0 < n) : nI n + Int32.ofInt (-1) = nI (n - 1) := by
  obtain ⟨k, rfl⟩ : ∃ k, n = k + 1 := ⟨n - 1, by omega⟩
  rw [Nat.add_sub_cancel]
  exact pk_m1 k
/-- an int that lies in a range of naturals -/
theorem nI_rg {x : Int32} {n : Nat} (h0 : ¬ x < 0) (h1 : x < nI n) (hn : n < 2 ^ 31) : ∃ j, j < n ∧ x = nI j := by
  obtain ⟨j, hj, rfl⟩ := nI_of h0
  exact ⟨j, (nI_ltI hj hn).mp h1, rfl⟩
end
section
theorem nI_le0 {n : Nat} (h : n < 2 ^ 31) : nI n ≤ 0 ↔ n = 0 := by
  rw [show (0 : Int32) = nI 0 from rfl, nI_leI h (by decide)]
  omega
theorem nI_lt0 {n : Nat} (h : n < 2 ^ 31) : nI n < 0 ↔ False := ⟨fun q => nI_pos h q, False.elim⟩
theorem nI_0le {n : Nat} (h : n < 2 ^ 31) : 0 ≤ nI n ↔ True := ⟨fun _ => trivial, fun _ => nI_pos' h⟩
theorem nI_pred1 {n : Nat} (h : 0 < n) : nI n - 1 = nI (n - 1) := by
  obtain ⟨k, rfl⟩ : ∃ k, n = k + 1 := ⟨n - 1, by omega⟩
  rw [Nat.add_sub_cancel]
  exact nI_pred k
/-- the table: S settings, N instances -/
def Tb (μ : am_M) (S N : Nat) : Prop := mm_I μ 2 4 = nI S ∧ mm_I μ 2 5 = nI N ∧ S ≤ 12 ∧ N ≤ 24
theorem Tb.s {μ : am_M} {S N : Nat} (h : Tb μ S N) : S ≤ 12 := h.2.2.1
theorem Tb.n {μ : am_M} {S N : Nat} (h : Tb μ S N) : N ≤ 24 := h.2.2.2
def in0 (x : Int32) (n : Nat) : Prop := 0 ≤ x ∧ x < nI n
theorem in0_of {x : Int32} {n : Nat} (h : in0 x n) (hn : n < 2 ^ 31) : ∃ j, j < n ∧ x = nI j := nI_rg (Int32.not_lt.mpr h.1) h.2 hn
theorem in0_nI {j n : Nat} (hj : j < 2 ^ 31) (hn : n < 2 ^ 31) : in0 (nI j) n ↔ j < n := by
  unfold in0
  rw [nI_ltI hj hn]
  exact ⟨fun h => h.2, fun h => ⟨nI_pos' hj, h⟩⟩
abbrev bI (x : Int32) (n : Nat) : Int32 := bz (0 ≤ x ∧ x < nI n)
set_option maxRecDepth 100000 in
set_option maxHeartbeats 4000000 in
theorem ct_X6_isWithin {E : am_E} {μ : am_M} (hb : Bs μ) (x lo hi : Int32) : am_Ct E yX6_isWithin cX6_isWithin 3 (some .boolean) rmX6_isWithin [.int x, .int lo, .int hi] μ (fun v μ' => v = some (.int (bz (lo ≤ x ∧ x ≤ hi))) ∧ μ = μ') := by
  refine am_Ct.of (ls := [some (.int x), some (.int lo), some (.int hi)]) (by decide) (Nat.le_of_ble_eq_true rfl) rfl (fun C fx hnm => ?_)
  refine am_iload_n fx dX6_isWithin_0 rfl ?_
  refine am_iload_n fx dX6_isWithin_1 rfl ?_
  refine am_icmp_lt fx 14 dX6_isWithin_2 (by decide) (fun c2 => ?_) (fun c2 => ?_)
  · try simp (disch := omega) only [bz_0, Classical.not_not, Int32.not_le, Int32.not_lt, Nat.not_le, Nat.not_lt, nI_leI, nI_ltI, nI_eq, nI_le0, nI_lt0] at c2
    refine am_iconst (v := 0) fx dX6_isWithin_14 (by decide) ?_
    exact am_zret fx dX6_isWithin_15 (by first | exact Or.inl rfl | exact Or.inr rfl | exact bz_01) ⟨congrArg (fun z => some (Value.int z)) (by first | exact bz_t ⟨c2, c7⟩ | exact bz_f (fun h => absurd h.1 (Int32.not_le.mpr c2)) | exact bz_f (fun h => absurd h.2 (Int32.not_le.mpr c7))), rfl⟩
  · try simp (disch := omega) only [bz_0, Classical.not_not, Int32.not_le, Int32.not_lt, Nat.not_le, Nat.not_lt, nI_leI, nI_ltI, nI_eq, nI_le0, nI_lt0] at c2
    refine am_iload_n fx dX6_isWithin_5 rfl ?_
    refine am_iload_n fx dX6_isWithin_6 rfl ?_
    refine am_icmp_gt fx 14 dX6_isWithin_7 (by decide) (fun c7 => ?_) (fun c7 => ?_)
    · try simp (disch := omega) only [bz_0, Classical.not_not, Int32.not_le, Int32.not_lt, Nat.not_le, Nat.not_lt, nI_leI, nI_ltI, nI_eq, nI_le0, nI_lt0] at c7
      refine am_iconst (v := 0) fx dX6_isWithin_14 (by decide) ?_
      exact am_zret fx dX6_isWithin_15 (by first | exact Or.inl rfl | exact Or.inr rfl | exact bz_01) ⟨congrArg (fun z => some (Value.int z)) (by first | exact bz_t ⟨c2, c7⟩ | exact bz_f (fun h => absurd h.1 (Int32.not_le.mpr c2)) | exact bz_f (fun h => absurd h.2 (Int32.not_le.mpr c7))), rfl⟩
    · try simp (disch := omega) only [bz_0, Classical.not_not, Int32.not_le, Int32.not_lt, Nat.not_le, Nat.not_lt, nI_leI, nI_ltI, nI_eq, nI_le0, nI_lt0] at c7
      refine am_iconst (v := 1) fx dX6_isWithin_10 (by decide) ?_
      refine am_goto fx 15 dX6_isWithin_11 (by decide) ?_
      exact am_zret fx dX6_isWithin_15 (by first | exact Or.inl rfl | exact Or.inr rfl | exact bz_01) ⟨congrArg (fun z => some (Value.int z)) (by first | exact bz_t ⟨c2, c7⟩ | exact bz_f (fun h => absurd h.1 (Int32.not_le.mpr c2)) | exact bz_f (fun h => absurd h.2 (Int32.not_le.mpr c7))), rfl⟩
set_option maxRecDepth 100000 in
set_option maxHeartbeats 4000000 in
theorem ct_X5_hasSetting {E : am_E} {μ : am_M} (hb : Bs μ) {S N : Nat} (ht : Tb μ S N) (x : Int32) : am_Ct E yX5_hasSetting cX5_hasSetting 2 (some .boolean) rmX5_hasSetting [.ref 2, .int x] μ (fun v μ' => v = some (.int (bz (0 ≤ x ∧ x < nI S))) ∧ μ = μ') := by
  refine am_Ct.of (ls := [some (.ref 2), some (.int x)]) (by decide) (Nat.le_of_ble_eq_true rfl) rfl (fun C fx hnm => ?_)
  refine am_iload_n fx dX5_hasSetting_0 rfl ?_
  refine am_if_lt fx 16 dX5_hasSetting_1 (by decide) (fun c1 => ?_) (fun c1 => ?_)
  · try simp (disch := omega) only [bz_0, Classical.not_not, Int32.not_le, Int32.not_lt, Nat.not_le, Nat.not_lt, nI_leI, nI_ltI, nI_eq, nI_le0, nI_lt0] at c1
    refine am_iconst (v := 0) fx dX5_hasSetting_16 (by decide) ?_
    exact am_zret fx dX5_hasSetting_17 (by first | exact Or.inl rfl | exact Or.inr rfl | exact bz_01) ⟨congrArg (fun z => some (Value.int z)) (by first | exact bz_t ⟨c1, c9⟩ | exact bz_f (fun h => absurd h.1 (Int32.not_le.mpr c1)) | exact bz_f (fun h => absurd h.2 (Int32.not_lt.mpr c9))), rfl⟩
  · try simp (disch := omega) only [bz_0, Classical.not_not, Int32.not_le, Int32.not_lt, Nat.not_le, Nat.not_lt, nI_leI, nI_ltI, nI_eq, nI_le0, nI_lt0] at c1
    refine am_iload_n fx dX5_hasSetting_4 rfl ?_
    refine am_aload_n fx dX5_hasSetting_5 rfl ?_
    refine am_getI fx dX5_hasSetting_6 fkX5_27 (by decide) (by decide) rfl (so5 hb) ht.1 ?_
    refine am_icmp_ge fx 16 dX5_hasSetting_9 (by decide) (fun c9 => ?_) (fun c9 => ?_)
    · try simp (disch := omega) only [bz_0, Classical.not_not, Int32.not_le, Int32.not_lt, Nat.not_le, Nat.not_lt, nI_leI, nI_ltI, nI_eq, nI_le0, nI_lt0] at c9
      refine am_iconst (v := 0) fx dX5_hasSetting_16 (by decide) ?_
      exact am_zret fx dX5_hasSetting_17 (by first | exact Or.inl rfl | exact Or.inr rfl | exact bz_01) ⟨congrArg (fun z => some (Value.int z)) (by first | exact bz_t ⟨c1, c9⟩ | exact bz_f (fun h => absurd h.1 (Int32.not_le.mpr c1)) | exact bz_f (fun h => absurd h.2 (Int32.not_lt.mpr c9))), rfl⟩
    · try simp (disch := omega) only [bz_0, Classical.not_not, Int32.not_le, Int32.not_lt, Nat.not_le, Nat.not_lt, nI_leI, nI_ltI, nI_eq, nI_le0, nI_lt0] at c9
      refine am_iconst (v := 1) fx dX5_hasSetting_12 (by decide) ?_
      refine am_goto fx 17 dX5_hasSetting_13 (by decide) ?_
      exact am_zret fx dX5_hasSetting_17 (by first | exact Or.inl rfl | exact Or.inr rfl | exact bz_01) ⟨congrArg (fun z => some (Value.int z)) (by first | exact bz_t ⟨c1, c9⟩ | exact bz_f (fun h => absurd h.1 (Int32.not_le.mpr c1)) | exact bz_f (fun h => absurd h.2 (Int32.not_lt.mpr c9))), rfl⟩
set_option maxRecDepth 100000 in
set_option maxHeartbeats 4000000 in
theorem ct_X5_hasInstance {E : am_E} {μ : am_M} (hb : Bs μ) {S N : Nat} (ht : Tb μ S N) (x : Int32) : am_Ct E yX5_hasInstance cX5_hasInstance 2 (some .boolean) rmX5_hasInstance [.ref 2, .int x] μ (fun v μ' => v = some (.int (bz (0 ≤ x ∧ x < nI N))) ∧ μ = μ') := by
  refine am_Ct.of (ls := [some (.ref 2), some (.int x)]) (by decide) (Nat.le_of_ble_eq_true rfl) rfl (fun C fx hnm => ?_)
  refine am_iload_n fx dX5_hasInstance_0 rfl ?_
  refine am_if_lt fx 16 dX5_hasInstance_1 (by decide) (fun c1 => ?_) (fun c1 => ?_)
  · try simp (disch := omega) only [bz_0, Classical.not_not, Int32.not_le, Int32.not_lt, Nat.not_le, Nat.not_lt, nI_leI, nI_ltI, nI_eq, nI_le0, nI_lt0] at c1
    refine am_iconst (v := 0) fx dX5_hasInstance_16 (by decide) ?_
    exact am_zret fx dX5_hasInstance_17 (by first | exact Or.inl rfl | exact Or.inr rfl | exact bz_01) ⟨congrArg (fun z => some (Value.int z)) (by first | exact bz_t ⟨c1, c9⟩ | exact bz_f (fun h => absurd h.1 (Int32.not_le.mpr c1)) | exact bz_f (fun h => absurd h.2 (Int32.not_lt.mpr c9))), rfl⟩
  · try simp (disch := omega) only [bz_0, Classical.not_not, Int32.not_le, Int32.not_lt, Nat.not_le, Nat.not_lt, nI_leI, nI_ltI, nI_eq, nI_le0, nI_lt0] at c1
    refine am_iload_n fx dX5_hasInstance_4 rfl ?_
    refine am_aload_n fx dX5_hasInstance_5 rfl ?_
    refine am_getI fx dX5_hasInstance_6 fkX5_31 (by decide) (by decide) rfl (so5 hb) ht.2.1 ?_
    refine am_icmp_ge fx 16 dX5_hasInstance_9 (by decide) (fun c9 => ?_) (fun c9 => ?_)
    · try simp (disch := omega) only [bz_0, Classical.not_not, Int32.not_le, Int32.not_lt, Nat.not_le, Nat.not_lt, nI_leI, nI_ltI, nI_eq, nI_le0, nI_lt0] at c9
      refine am_iconst (v := 0) fx dX5_hasInstance_16 (by decide) ?_
      exact am_zret fx dX5_hasInstance_17 (by first | exact Or.inl rfl | exact Or.inr rfl | exact bz_01) ⟨congrArg (fun z => some (Value.int z)) (by first | exact bz_t ⟨c1, c9⟩ | exact bz_f (fun h => absurd h.1 (Int32.not_le.mpr c1)) | exact bz_f (fun h => absurd h.2 (Int32.not_lt.mpr c9))), rfl⟩
    · try simp (disch := omega) only [bz_0, Classical.not_not, Int32.not_le, Int32.not_lt, Nat.not_le, Nat.not_lt, nI_leI, nI_ltI, nI_eq, nI_le0, nI_lt0] at c9
      refine am_iconst (v := 1) fx dX5_hasInstance_12 (by decide) ?_
      refine am_goto fx 17 dX5_hasInstance_13 (by decide) ?_
      exact am_zret fx dX5_hasInstance_17 (by first | exact Or.inl rfl | exact Or.inr rfl | exact bz_01) ⟨congrArg (fun z => some (Value.int z)) (by first | exact bz_t ⟨c1, c9⟩ | exact bz_f (fun h => absurd h.1 (Int32.not_le.mpr c1)) | exact bz_f (fun h => absurd h.2 (Int32.not_lt.mpr c9))), rfl⟩
def co (μ : am_M) (S N : Nat) (s i : Int32) : Int32 := if (0 ≤ s ∧ s < nI S) ∧ (0 ≤ i ∧ i < nI N) then mm_I μ (4 + s.toNatClampNeg) i.toNatClampNeg else -1
theorem co_in {μ : am_M} {S N s i : Nat} (hs : s < S) (hi : i < N) (hS : S ≤ 12) (hN : N ≤ 24) : co μ S N (nI s) (nI i) = mm_I μ (4 + s) i := by
  unfold co
  rw [if_pos ⟨⟨nI_pos' (by omega), nI_lt hs (by omega)⟩, ⟨nI_pos' (by omega), nI_lt hi (by omega)⟩⟩, nI_clamp (by omega), nI_clamp (by omega)]
theorem nI_rg2 {x : Int32} {n : Nat} (h : 0 ≤ x ∧ x < nI n) (hn : n < 2 ^ 31) : ∃ j, j < n ∧ x = nI j := nI_rg (Int32.not_lt.mpr h.1) h.2 hn
set_option maxRecDepth 100000 in
set_option maxHeartbeats 4000000 in
theorem ct_X5_isLearning {E : am_E} {μ : am_M} (hb : Bs μ) {S N : Nat} (ht : Tb μ S N) (i : Nat) (hi : i < N) : am_Ct E yX5_isLearning cX5_isLearning 2 (some .boolean) rmX5_isLearning [.ref 2, .int (nI i)] μ (fun v μ' => v = some (.int (bz (¬ mm_I μ 20 i = 0))) ∧ μ = μ') := by
  refine am_Ct.of (ls := [some (.ref 2), some (.int (nI i))]) (by decide) (Nat.le_of_ble_eq_true rfl) rfl (fun C fx hnm => ?_)
  have hN := ht.n
  refine am_aload_n fx dX5_isLearning_0 rfl ?_
  refine am_iload_n fx dX5_isLearning_1 rfl ?_
  refine am_callV fx dX5_isLearning_2 mkX5_40 (ct_X5_hasInstance hb ht _) (so5 hb) ⟨by decide, rfl⟩ rfl (Nat.le_of_ble_eq_true rfl) ⟨by decide, by decide⟩ ⟨Nat.le_of_ble_eq_true rfl, Nat.le_of_ble_eq_true rfl⟩ rfl ?_
  rintro _ _ ⟨rfl, rfl⟩
  refine am_if_eq fx 21 dX5_isLearning_5 (by decide) (fun c5 => ?_) (fun c5 => ?_)
  · try simp (disch := omega) only [bz_0, Classical.not_not, Int32.not_le, Int32.not_lt, Nat.not_le, Nat.not_lt, nI_leI, nI_ltI, nI_eq, nI_le0, nI_lt0] at c5
    exact absurd ⟨nI_pos' (by omega), hi⟩ c5
  · try simp (disch := omega) only [bz_0, Classical.not_not, Int32.not_le, Int32.not_lt, Nat.not_le, Nat.not_lt, nI_leI, nI_ltI, nI_eq, nI_le0, nI_lt0] at c5
    refine am_aload_n fx dX5_isLearning_8 rfl ?_
    refine am_getR fx dX5_isLearning_9 fkX5_23 (by decide) (by decide) rfl (so5 hb) (rf5_3 hb) ?_
    refine am_iload_n fx dX5_isLearning_12 rfl ?_
    refine am_zald  fx dX5_isLearning_13 (sa5_3 hb) rfl (by omega) (by decide) rfl ?_
    refine am_if_eq fx 21 dX5_isLearning_14 (by decide) (fun c14 => ?_) (fun c14 => ?_)
    · try simp (disch := omega) only [bz_0, Classical.not_not, Int32.not_le, Int32.not_lt, Nat.not_le, Nat.not_lt, nI_leI, nI_ltI, nI_eq, nI_le0, nI_lt0] at c14
      refine am_iconst (v := 0) fx dX5_isLearning_21 (by decide) ?_
      exact am_zret fx dX5_isLearning_22 (by first | exact Or.inl rfl | exact Or.inr rfl | exact bz_01) ⟨congrArg (fun z => some (Value.int z)) (by first | exact bz_t c14 | exact bz_f (fun h => h c14)), rfl⟩
    · try simp (disch := omega) only [bz_0, Classical.not_not, Int32.not_le, Int32.not_lt, Nat.not_le, Nat.not_lt, nI_leI, nI_ltI, nI_eq, nI_le0, nI_lt0] at c14
      refine am_iconst (v := 1) fx dX5_isLearning_17 (by decide) ?_
      refine am_goto fx 22 dX5_isLearning_18 (by decide) ?_
      exact am_zret fx dX5_isLearning_22 (by first | exact Or.inl rfl | exact Or.inr rfl | exact bz_01) ⟨congrArg (fun z => some (Value.int z)) (by first | exact bz_t c14 | exact bz_f (fun h => h c14)), rfl⟩
set_option maxRecDepth 100000 in
set_option maxHeartbeats 4000000 in
theorem ct_X5_costAt {E : am_E} {μ : am_M} (hb : Bs μ) {S N : Nat} (ht : Tb μ S N) (s i : Int32) : am_Ct E yX5_costAt cX5_costAt 3 (some .int) rmX5_costAt [.ref 2, .int s, .int i] μ (fun v μ' => v = some (.int (co μ S N s i)) ∧ μ = μ') := by
  refine am_Ct.of (ls := [some (.ref 2), some (.int s), some (.int i)]) (by decide) (Nat.le_of_ble_eq_true rfl) rfl (fun C fx hnm => ?_)
  have hS := ht.s
  have hN := ht.n
  refine am_aload_n fx dX5_costAt_0 rfl ?_
  refine am_iload_n fx dX5_costAt_1 rfl ?_
  refine am_callV fx dX5_costAt_2 mkX5_44 (ct_X5_hasSetting hb ht _) (so5 hb) ⟨by decide, rfl⟩ rfl (Nat.le_of_ble_eq_true rfl) ⟨by decide, by decide⟩ ⟨Nat.le_of_ble_eq_true rfl, Nat.le_of_ble_eq_true rfl⟩ rfl ?_
  rintro _ _ ⟨rfl, rfl⟩
  refine am_if_eq fx 27 dX5_costAt_5 (by decide) (fun c5 => ?_) (fun c5 => ?_)
  · try simp (disch := omega) only [bz_0, Classical.not_not, Int32.not_le, Int32.not_lt, Nat.not_le, Nat.not_lt, nI_leI, nI_ltI, nI_eq, nI_le0, nI_lt0] at c5
    refine am_iconst (v := (-1)) fx dX5_costAt_27 (by decide) ?_
    exact am_iret fx dX5_costAt_28 ⟨congrArg (fun z => some (Value.int z)) (by first | exact (co_in hs hi hS hN).symm | exact (if_neg (fun h => c5 h.1)).symm | exact (if_neg (fun h => c13 h.2)).symm), rfl⟩
  · try simp (disch := omega) only [bz_0, Classical.not_not, Int32.not_le, Int32.not_lt, Nat.not_le, Nat.not_lt, nI_leI, nI_ltI, nI_eq, nI_le0, nI_lt0] at c5
    refine am_aload_n fx dX5_costAt_8 rfl ?_
    refine am_iload_n fx dX5_costAt_9 rfl ?_
    refine am_callV fx dX5_costAt_10 mkX5_40 (ct_X5_hasInstance hb ht _) (so5 hb) ⟨by decide, rfl⟩ rfl (Nat.le_of_ble_eq_true rfl) ⟨by decide, by decide⟩ ⟨Nat.le_of_ble_eq_true rfl, Nat.le_of_ble_eq_true rfl⟩ rfl ?_
    rintro _ _ ⟨rfl, rfl⟩
    refine am_if_eq fx 27 dX5_costAt_13 (by decide) (fun c13 => ?_) (fun c13 => ?_)
    · try simp (disch := omega) only [bz_0, Classical.not_not, Int32.not_le, Int32.not_lt, Nat.not_le, Nat.not_lt, nI_leI, nI_ltI, nI_eq, nI_le0, nI_lt0] at c13
      refine am_iconst (v := (-1)) fx dX5_costAt_27 (by decide) ?_
      exact am_iret fx dX5_costAt_28 ⟨congrArg (fun z => some (Value.int z)) (by first | exact (co_in hs hi hS hN).symm | exact (if_neg (fun h => c5 h.1)).symm | exact (if_neg (fun h => c13 h.2)).symm), rfl⟩
    · try simp (disch := omega) only [bz_0, Classical.not_not, Int32.not_le, Int32.not_lt, Nat.not_le, Nat.not_lt, nI_leI, nI_ltI, nI_eq, nI_le0, nI_lt0] at c13
      obtain ⟨s, hs, rfl⟩ := nI_rg2 c5 (by omega)
      obtain ⟨i, hi, rfl⟩ := nI_rg2 c13 (by omega)
      refine am_aload_n fx dX5_costAt_16 rfl ?_
      refine am_getR fx dX5_costAt_17 fkX5_11 (by decide) (by decide) rfl (so5 hb) (rf5_0 hb) ?_
      refine am_iload_n fx dX5_costAt_20 rfl ?_
      refine am_aald  fx dX5_costAt_21 (sa5_0 hb) rfl (by omega) (by decide) (rg5_0 hb (by omega)) ?_
      refine am_iload_n fx dX5_costAt_22 rfl ?_
      refine am_iald  fx dX5_costAt_23 (sg5_0 hb (by omega)) rfl (by omega) (by decide) rfl ?_
      refine am_goto fx 28 dX5_costAt_24 (by decide) ?_
      exact am_iret fx dX5_costAt_28 ⟨congrArg (fun z => some (Value.int z)) (by first | exact (co_in hs hi hS hN).symm | exact (if_neg (fun h => c5 h.1)).symm | exact (if_neg (fun h => c13 h.2)).symm), rfl⟩
set_option maxRecDepth 100000 in
set_option maxHeartbeats 4000000 in
theorem ct_X5_addSetting {E : am_E} {μ : am_M} (hb : Bs μ) {S N : Nat} (ht : Tb μ S N) : am_Ct E yX5_addSetting cX5_addSetting 1 (some .int) rmX5_addSetting [.ref 2] μ (fun v μ' => (S = 12 ∧ v = some (.int (-4)) ∧ μ' = μ) ∨ (S < 12 ∧ v = some (.int (nI S)) ∧ μ' = mm_sI μ 2 4 (nI (S + 1)))) := by
  refine am_Ct.of (ls := [some (.ref 2)]) (by decide) (Nat.le_of_ble_eq_true rfl) rfl (fun C fx hnm => ?_)
  have hS := ht.s
  refine am_aload_n fx dX5_addSetting_0 rfl ?_
  refine am_getI fx dX5_addSetting_1 fkX5_27 (by decide) (by decide) rfl (so5 hb) ht.1 ?_
  refine am_bipush (v := (nI 12)) fx dX5_addSetting_4 (by decide) ?_
  refine am_icmp_lt fx 12 dX5_addSetting_6 (by decide) (fun c6 => ?_) (fun c6 => ?_)
  · try simp (disch := omega) only [bz_0, Classical.not_not, Int32.not_le, Int32.not_lt, Nat.not_le, Nat.not_lt, nI_leI, nI_ltI, nI_eq, nI_le0, nI_lt0] at c6
    refine am_aload_n fx dX5_addSetting_12 rfl ?_
    refine am_dup_ref fx dX5_addSetting_13 ?_
    refine am_getI fx dX5_addSetting_14 fkX5_27 (by decide) (by decide) rfl (so5 hb) ht.1 ?_
    refine am_iconst (v := 1) fx dX5_addSetting_17 (by decide) ?_
    refine am_iadd fx dX5_addSetting_18 ?_
    refine am_topi (nI_1 S) ?_
    refine am_putI fx dX5_addSetting_19 fkX5_27 (by decide) (by decide) rfl rfl (so5 hb) ?_
    refine am_aload_n fx dX5_addSetting_22 rfl ?_
    refine am_getI fx dX5_addSetting_23 fkX5_27 (by decide) (by decide) rfl (so5 hb) (mI_same μ 2 4 _) ?_
    refine am_iconst (v := 1) fx dX5_addSetting_26 (by decide) ?_
    refine am_isub fx dX5_addSetting_27 ?_
    refine am_topi (nI_pred S) ?_
    exact am_iret fx dX5_addSetting_28 (Or.inr ⟨c6, rfl, rfl⟩)
  · try simp (disch := omega) only [bz_0, Classical.not_not, Int32.not_le, Int32.not_lt, Nat.not_le, Nat.not_lt, nI_leI, nI_ltI, nI_eq, nI_le0, nI_lt0] at c6
    refine am_bipush (v := (-4)) fx dX5_addSetting_9 (by decide) ?_
    exact am_iret fx dX5_addSetting_11 (Or.inl ⟨by omega, rfl, rfl⟩)
set_option maxRecDepth 100000 in
set_option maxHeartbeats 4000000 in
theorem ct_X5_addInstance {E : am_E} {μ : am_M} (hb : Bs μ) {S N : Nat} (ht : Tb μ S N) (f g l : Int32) (hl : l = 0 ∨ l = 1) : am_Ct E yX5_addInstance cX5_addInstance 4 (some .int) rmX5_addInstance [.ref 2, .int f, .int g, .int l] μ (fun v μ' => (N = 24 ∧ v = some (.int (-4)) ∧ μ' = μ) ∨ (N < 24 ∧ v = some (.int (nI N)) ∧ μ' = mm_sI (mm_sI (mm_sI (mm_sI μ 18 N f) 19 N g) 20 N l) 2 5 (nI (N + 1)))) := by
  refine am_Ct.of (ls := [some (.ref 2), some (.int f), some (.int g), some (.int l)]) (by decide) (Nat.le_of_ble_eq_true rfl) rfl (fun C fx hnm => ?_)
  have hN := ht.n
  refine am_aload_n fx dX5_addInstance_0 rfl ?_
  refine am_getI fx dX5_addInstance_1 fkX5_31 (by decide) (by decide) rfl (so5 hb) ht.2.1 ?_
  refine am_bipush (v := (nI 24)) fx dX5_addInstance_4 (by decide) ?_
  refine am_icmp_lt fx 12 dX5_addInstance_6 (by decide) (fun c6 => ?_) (fun c6 => ?_)
  · try simp (disch := omega) only [bz_0, Classical.not_not, Int32.not_le, Int32.not_lt, Nat.not_le, Nat.not_lt, nI_leI, nI_ltI, nI_eq, nI_le0, nI_lt0] at c6
    refine am_aload_n fx dX5_addInstance_12 rfl ?_
    refine am_getR fx dX5_addInstance_13 fkX5_20 (by decide) (by decide) rfl (so5 hb) (rf5_2 hb) ?_
    refine am_iconst (v := 0) fx dX5_addInstance_16 (by decide) ?_
    refine am_aald (j := 0) fx dX5_addInstance_17 (sa5_2 hb) rfl (by omega) (by decide) (rg5_2 hb (by omega)) ?_
    refine am_aload_n fx dX5_addInstance_18 rfl ?_
    refine am_getI fx dX5_addInstance_19 fkX5_31 (by decide) (by decide) rfl (so5 hb) ht.2.1 ?_
    refine am_iload_n fx dX5_addInstance_22 rfl ?_
    refine am_iast  fx dX5_addInstance_23 (sg5_2 hb (j := 0) (by omega)) rfl (by omega) (by decide) ?_
    refine am_aload_n fx dX5_addInstance_24 rfl ?_
    refine am_getR fx dX5_addInstance_25 fkX5_20 (by decide) (by decide) rfl (so5 hb) (rf5_2 hb) ?_
    refine am_iconst (v := 1) fx dX5_addInstance_28 (by decide) ?_
    refine am_aald (j := 1) fx dX5_addInstance_29 (sa5_2 hb) rfl (by omega) (by decide) (rg5_2 hb (by omega)) ?_
    refine am_aload_n fx dX5_addInstance_30 rfl ?_
    refine am_getI fx dX5_addInstance_31 fkX5_31 (by decide) (by decide) rfl (so5 hb) ht.2.1 ?_
    refine am_iload_n fx dX5_addInstance_34 rfl ?_
    refine am_iast  fx dX5_addInstance_35 (sg5_2 hb (j := 1) (by omega)) rfl (by omega) (by decide) ?_
    refine am_aload_n fx dX5_addInstance_36 rfl ?_
    refine am_getR fx dX5_addInstance_37 fkX5_23 (by decide) (by decide) rfl (so5 hb) (rf5_3 hb) ?_
    refine am_aload_n fx dX5_addInstance_40 rfl ?_
    refine am_getI fx dX5_addInstance_41 fkX5_31 (by decide) (by decide) rfl (so5 hb) ht.2.1 ?_
    refine am_iload_n fx dX5_addInstance_44 rfl ?_
    refine am_zast  fx dX5_addInstance_45 (sa5_3 hb) rfl (by omega) (by decide) hl ?_
    refine am_aload_n fx dX5_addInstance_46 rfl ?_
    refine am_dup_ref fx dX5_addInstance_47 ?_
    refine am_getI fx dX5_addInstance_48 fkX5_31 (by decide) (by decide) rfl (so5 hb) ht.2.1 ?_
    refine am_iconst (v := 1) fx dX5_addInstance_51 (by decide) ?_
    refine am_iadd fx dX5_addInstance_52 ?_
    refine am_topi (nI_1 N) ?_
    refine am_putI fx dX5_addInstance_53 fkX5_31 (by decide) (by decide) rfl rfl (so5 hb) ?_
    refine am_aload_n fx dX5_addInstance_56 rfl ?_
    refine am_getI fx dX5_addInstance_57 fkX5_31 (by decide) (by decide) rfl (so5 hb) (mI_same _ 2 5 _) ?_
    refine am_iconst (v := 1) fx dX5_addInstance_60 (by decide) ?_
    refine am_isub fx dX5_addInstance_61 ?_
    refine am_topi (nI_pred N) ?_
    exact am_iret fx dX5_addInstance_62 (Or.inr ⟨c6, rfl, rfl⟩)
  · try simp (disch := omega) only [bz_0, Classical.not_not, Int32.not_le, Int32.not_lt, Nat.not_le, Nat.not_lt, nI_leI, nI_ltI, nI_eq, nI_le0, nI_lt0] at c6
    refine am_bipush (v := (-4)) fx dX5_addInstance_9 (by decide) ?_
    exact am_iret fx dX5_addInstance_11 (Or.inl ⟨by omega, rfl, rfl⟩)
set_option maxRecDepth 100000 in
set_option maxHeartbeats 4000000 in
theorem ct_X5_tell {E : am_E} {μ : am_M} (hb : Bs μ) {S N : Nat} (ht : Tb μ S N) (s i : Nat) (hs : s < S) (hi : i < N) (x : Int32) : am_Ct E yX5_tell cX5_tell 4 (some .int) rmX5_tell [.ref 2, .int (nI s), .int (nI i), .int x] μ (fun v μ' => v = some (.int (mm_I μ 16 s + 1)) ∧ μ' = mm_sI (mm_sI μ (4 + s) i x) 16 s (mm_I μ 16 s + 1)) := by
  refine am_Ct.of (ls := [some (.ref 2), some (.int (nI s)), some (.int (nI i)), some (.int x)]) (by decide) (Nat.le_of_ble_eq_true rfl) rfl (fun C fx hnm => ?_)
  have hS := ht.s
  have hN := ht.n
  refine am_aload_n fx dX5_tell_0 rfl ?_
  refine am_iload_n fx dX5_tell_1 rfl ?_
  refine am_callV fx dX5_tell_2 mkX5_44 (ct_X5_hasSetting hb ht _) (so5 hb) ⟨by decide, rfl⟩ rfl (Nat.le_of_ble_eq_true rfl) ⟨by decide, by decide⟩ ⟨Nat.le_of_ble_eq_true rfl, Nat.le_of_ble_eq_true rfl⟩ rfl ?_
  rintro _ _ ⟨rfl, rfl⟩
  refine am_if_eq fx 16 dX5_tell_5 (by decide) (fun c5 => ?_) (fun c5 => ?_)
  · try simp (disch := omega) only [bz_0, Classical.not_not, Int32.not_le, Int32.not_lt, Nat.not_le, Nat.not_lt, nI_leI, nI_ltI, nI_eq, nI_le0, nI_lt0] at c5
    exact absurd ⟨nI_pos' (by omega), hs⟩ c5
  · try simp (disch := omega) only [bz_0, Classical.not_not, Int32.not_le, Int32.not_lt, Nat.not_le, Nat.not_lt, nI_leI, nI_ltI, nI_eq, nI_le0, nI_lt0] at c5
    refine am_aload_n fx dX5_tell_8 rfl ?_
    refine am_iload_n fx dX5_tell_9 rfl ?_
    refine am_callV fx dX5_tell_10 mkX5_40 (ct_X5_hasInstance hb ht _) (so5 hb) ⟨by decide, rfl⟩ rfl (Nat.le_of_ble_eq_true rfl) ⟨by decide, by decide⟩ ⟨Nat.le_of_ble_eq_true rfl, Nat.le_of_ble_eq_true rfl⟩ rfl ?_
    rintro _ _ ⟨rfl, rfl⟩
    refine am_if_ne fx 18 dX5_tell_13 (by decide) (fun c13 => ?_) (fun c13 => ?_)
    · try simp (disch := omega) only [bz_0, Classical.not_not, Int32.not_le, Int32.not_lt, Nat.not_le, Nat.not_lt, nI_leI, nI_ltI, nI_eq, nI_le0, nI_lt0] at c13
      refine am_aload_n fx dX5_tell_18 rfl ?_
      refine am_getR fx dX5_tell_19 fkX5_11 (by decide) (by decide) rfl (so5 hb) (rf5_0 hb) ?_
      refine am_iload_n fx dX5_tell_22 rfl ?_
      refine am_aald  fx dX5_tell_23 (sa5_0 hb) rfl (by omega) (by decide) (rg5_0 hb (by omega)) ?_
      refine am_iload_n fx dX5_tell_24 rfl ?_
      refine am_iload_n fx dX5_tell_25 rfl ?_
      refine am_iast  fx dX5_tell_26 (sg5_0 hb (by omega)) rfl (by omega) (by decide) ?_
      refine am_aload_n fx dX5_tell_27 rfl ?_
      refine am_getR fx dX5_tell_28 fkX5_16 (by decide) (by decide) rfl (so5 hb) (rf5_1 hb) ?_
      refine am_iload_n fx dX5_tell_31 rfl ?_
      refine am_dup2 fx dX5_tell_32 ?_
      refine am_iald  fx dX5_tell_33 (sa5_1 hb) rfl (by omega) (by decide) (mI_ne (Or.inl (by omega))) ?_
      refine am_iconst (v := 1) fx dX5_tell_34 (by decide) ?_
      refine am_iadd fx dX5_tell_35 ?_
      refine am_iast  fx dX5_tell_36 (sa5_1 hb) rfl (by omega) (by decide) ?_
      refine am_aload_n fx dX5_tell_37 rfl ?_
      refine am_getR fx dX5_tell_38 fkX5_16 (by decide) (by decide) rfl (so5 hb) (rf5_1 hb) ?_
      refine am_iload_n fx dX5_tell_41 rfl ?_
      refine am_iald  fx dX5_tell_42 (sa5_1 hb) rfl (by omega) (by decide) (mI_same _ 16 s _) ?_
      exact am_iret fx dX5_tell_43 ⟨rfl, rfl⟩
    · try simp (disch := omega) only [bz_0, Classical.not_not, Int32.not_le, Int32.not_lt, Nat.not_le, Nat.not_lt, nI_leI, nI_ltI, nI_eq, nI_le0, nI_lt0] at c13
      exact absurd ⟨nI_pos' (by omega), hi⟩ c13
set_option maxRecDepth 100000 in
set_option maxHeartbeats 4000000 in
theorem ct_X5_isWhole {E : am_E} {μ : am_M} (hb : Bs μ) {S N : Nat} (ht : Tb μ S N) (s : Nat) (hs : s < S) : am_Ct E yX5_isWhole cX5_isWhole 2 (some .boolean) rmX5_isWhole [.ref 2, .int (nI s)] μ (fun v μ' => v = some (.int (bz (mm_I μ 16 s = nI N))) ∧ μ = μ') := by
  refine am_Ct.of (ls := [some (.ref 2), some (.int (nI s))]) (by decide) (Nat.le_of_ble_eq_true rfl) rfl (fun C fx hnm => ?_)
  have hS := ht.s
  have hN := ht.n
  refine am_aload_n fx dX5_isWhole_0 rfl ?_
  refine am_iload_n fx dX5_isWhole_1 rfl ?_
  refine am_callV fx dX5_isWhole_2 mkX5_44 (ct_X5_hasSetting hb ht _) (so5 hb) ⟨by decide, rfl⟩ rfl (Nat.le_of_ble_eq_true rfl) ⟨by decide, by decide⟩ ⟨Nat.le_of_ble_eq_true rfl, Nat.le_of_ble_eq_true rfl⟩ rfl ?_
  rintro _ _ ⟨rfl, rfl⟩
  refine am_if_eq fx 25 dX5_isWhole_5 (by decide) (fun c5 => ?_) (fun c5 => ?_)
  · try simp (disch := omega) only [bz_0, Classical.not_not, Int32.not_le, Int32.not_lt, Nat.not_le, Nat.not_lt, nI_leI, nI_ltI, nI_eq, nI_le0, nI_lt0] at c5
    exact absurd ⟨nI_pos' (by omega), hs⟩ c5
  · try simp (disch := omega) only [bz_0, Classical.not_not, Int32.not_le, Int32.not_lt, Nat.not_le, Nat.not_lt, nI_leI, nI_ltI, nI_eq, nI_le0, nI_lt0] at c5
    refine am_aload_n fx dX5_isWhole_8 rfl ?_
    refine am_getR fx dX5_isWhole_9 fkX5_16 (by decide) (by decide) rfl (so5 hb) (rf5_1 hb) ?_
    refine am_iload_n fx dX5_isWhole_12 rfl ?_
    refine am_iald  fx dX5_isWhole_13 (sa5_1 hb) rfl (by omega) (by decide) rfl ?_
    refine am_aload_n fx dX5_isWhole_14 rfl ?_
    refine am_getI fx dX5_isWhole_15 fkX5_31 (by decide) (by decide) rfl (so5 hb) ht.2.1 ?_
    refine am_icmp_ne fx 25 dX5_isWhole_18 (by decide) (fun c18 => ?_) (fun c18 => ?_)
    · try simp (disch := omega) only [bz_0, Classical.not_not, Int32.not_le, Int32.not_lt, Nat.not_le, Nat.not_lt, nI_leI, nI_ltI, nI_eq, nI_le0, nI_lt0] at c18
      refine am_iconst (v := 0) fx dX5_isWhole_25 (by decide) ?_
      exact am_zret fx dX5_isWhole_26 (by first | exact Or.inl rfl | exact Or.inr rfl | exact bz_01) ⟨congrArg (fun z => some (Value.int z)) (by first | exact bz_t c18 | exact bz_f c18), rfl⟩
    · try simp (disch := omega) only [bz_0, Classical.not_not, Int32.not_le, Int32.not_lt, Nat.not_le, Nat.not_lt, nI_leI, nI_ltI, nI_eq, nI_le0, nI_lt0] at c18
      refine am_iconst (v := 1) fx dX5_isWhole_21 (by decide) ?_
      refine am_goto fx 26 dX5_isWhole_22 (by decide) ?_
      exact am_zret fx dX5_isWhole_26 (by first | exact Or.inl rfl | exact Or.inr rfl | exact bz_01) ⟨congrArg (fun z => some (Value.int z)) (by first | exact bz_t c18 | exact bz_f c18), rfl⟩
def cw (μ : am_M) (N : Nat) : Nat → Nat
  | 0 => 0
  | k + 1 => cw μ N k + (if mm_I μ 16 k = nI N then 1 else 0)
theorem cw_le (μ : am_M) (N : Nat) : ∀ k, cw μ N k ≤ k
  | 0 => Nat.le_refl _
  | k + 1 => by
    have := cw_le μ N k
    simp only [cw]
    split <;> omega
set_option maxRecDepth 100000 in
set_option maxHeartbeats 4000000 in
theorem ct_X5_countWhole {E : am_E} {μ : am_M} (hb : Bs μ) {S N : Nat} (ht : Tb μ S N) : am_Ct E yX5_countWhole cX5_countWhole 3 (some .int) rmX5_countWhole [.ref 2] μ (fun v μ' => v = some (.int (nI (cw μ N S))) ∧ μ = μ') := by
  refine am_Ct.of (ls := [some (.ref 2), none, none]) (by decide) (Nat.le_of_ble_eq_true rfl) rfl (fun C fx hnm => ?_)
  have hS := ht.s
  have hN := ht.n
  refine am_iconst (v := 0) fx dX5_countWhole_0 (by decide) ?_
  refine am_istore_n fx dX5_countWhole_1 (by decide) rfl ?_
  refine am_iconst (v := 0) fx dX5_countWhole_2 (by decide) ?_
  refine am_istore_n fx dX5_countWhole_3 (by decide) rfl ?_
  have lp4 : ∀ (mz : Nat) (r : Nat) (x : Int32), S - r = mz → r ≤ S → x = nI (cw μ N r) → am_W E C (am_MQ E C (fun v μ' => v = some (.int (nI (cw μ N S))) ∧ μ = μ') (rmX5_countWhole).cells (rmX5_countWhole).slots) μ 0 0 4 [some (.ref 2), some (.int x), some (.int (nI r))] [] := by
    intro mz
    induction mz using Nat.strongRecOn with
    | ind mz ih =>
      intro r x hn hr hx
      refine am_iload_n fx dX5_countWhole_4 rfl ?_
      refine am_aload_n fx dX5_countWhole_5 rfl ?_
      refine am_getI fx dX5_countWhole_6 fkX5_27 (by decide) (by decide) rfl (so5 hb) ht.1 ?_
      refine am_icmp_ge fx 29 dX5_countWhole_9 (by decide) (fun c9 => ?_) (fun c9 => ?_)
      · try simp (disch := omega) only [bz_0, Classical.not_not, Int32.not_le, Int32.not_lt, Nat.not_le, Nat.not_lt, nI_leI, nI_ltI, nI_eq, nI_le0, nI_lt0] at c9
        refine am_iload_n fx dX5_countWhole_29 rfl ?_
        exact am_iret fx dX5_countWhole_30 ⟨by rw [hx, show r = S by omega], rfl⟩
      · try simp (disch := omega) only [bz_0, Classical.not_not, Int32.not_le, Int32.not_lt, Nat.not_le, Nat.not_lt, nI_leI, nI_ltI, nI_eq, nI_le0, nI_lt0] at c9
        refine am_aload_n fx dX5_countWhole_12 rfl ?_
        refine am_iload_n fx dX5_countWhole_13 rfl ?_
        refine am_callV fx dX5_countWhole_14 mkX5_47 (ct_X5_isWhole hb ht _ (by assumption)) (so5 hb) ⟨by decide, rfl⟩ rfl (Nat.le_of_ble_eq_true rfl) ⟨by decide, by decide⟩ ⟨Nat.le_of_ble_eq_true rfl, Nat.le_of_ble_eq_true rfl⟩ rfl ?_
        rintro _ _ ⟨rfl, rfl⟩
        refine am_if_eq fx 23 dX5_countWhole_17 (by decide) (fun c17 => ?_) (fun c17 => ?_)
        · try simp (disch := omega) only [bz_0, Classical.not_not, Int32.not_le, Int32.not_lt, Nat.not_le, Nat.not_lt, nI_leI, nI_ltI, nI_eq, nI_le0, nI_lt0] at c17
          first | refine am_iinc fx dX5_countWhole_23 rfl (nI_inc _) (by decide) rfl ?_ | refine am_iinc fx dX5_countWhole_23 rfl rfl (by decide) rfl ?_
          refine am_goto fx 4 dX5_countWhole_26 (by decide) ?_
          exact ih (S - (r + 1)) (by omega) (r + 1) _ rfl (by omega) (by first | (rw [hx, cw, if_pos c17]; exact nI_inc _) | (rw [hx, cw, if_neg c17]; rfl))
        · try simp (disch := omega) only [bz_0, Classical.not_not, Int32.not_le, Int32.not_lt, Nat.not_le, Nat.not_lt, nI_leI, nI_ltI, nI_eq, nI_le0, nI_lt0] at c17
          first | refine am_iinc fx dX5_countWhole_20 rfl (nI_inc _) (by decide) rfl ?_ | refine am_iinc fx dX5_countWhole_20 rfl rfl (by decide) rfl ?_
          first | refine am_iinc fx dX5_countWhole_23 rfl (nI_inc _) (by decide) rfl ?_ | refine am_iinc fx dX5_countWhole_23 rfl rfl (by decide) rfl ?_
          refine am_goto fx 4 dX5_countWhole_26 (by decide) ?_
          exact ih (S - (r + 1)) (by omega) (r + 1) _ rfl (by omega) (by first | (rw [hx, cw, if_pos c17]; exact nI_inc _) | (rw [hx, cw, if_neg c17]; rfl))
  exact lp4 _ 0 _ rfl (by omega) rfl
set_option maxRecDepth 100000 in
set_option maxHeartbeats 4000000 in
theorem ct_X5_featureAt {E : am_E} {μ : am_M} (hb : Bs μ) {S N : Nat} (ht : Tb μ S N) (f i : Nat) (hf : f < 2) (hi : i < N) : am_Ct E yX5_featureAt cX5_featureAt 3 (some .int) rmX5_featureAt [.ref 2, .int (nI f), .int (nI i)] μ (fun v μ' => v = some (.int (mm_I μ (18 + f) i)) ∧ μ = μ') := by
  refine am_Ct.of (ls := [some (.ref 2), some (.int (nI f)), some (.int (nI i))]) (by decide) (Nat.le_of_ble_eq_true rfl) rfl (fun C fx hnm => ?_)
  have hS := ht.s
  have hN := ht.n
  refine am_iload_n fx dX5_featureAt_0 rfl ?_
  refine am_iconst (v := 0) fx dX5_featureAt_1 (by decide) ?_
  refine am_iconst (v := 1) fx dX5_featureAt_2 (by decide) ?_
  refine am_callS fx dX5_featureAt_3 mkX5_50 (ct_X6_isWithin hb _ _ _) rfl (Nat.le_of_ble_eq_true rfl) ⟨by decide, by decide⟩ ⟨Nat.le_of_ble_eq_true rfl, Nat.le_of_ble_eq_true rfl⟩ rfl ?_
  rintro _ _ ⟨rfl, rfl⟩
  refine am_if_eq fx 28 dX5_featureAt_6 (by decide) (fun c6 => ?_) (fun c6 => ?_)
  · try simp (disch := omega) only [bz_0, Classical.not_not, Int32.not_le, Int32.not_lt, Nat.not_le, Nat.not_lt, nI_leI, nI_ltI, nI_eq, nI_le0, nI_lt0] at c6
    exact absurd ⟨nI_pos' (by omega), nI_le (b := 1) (by omega) (by omega)⟩ c6
  · try simp (disch := omega) only [bz_0, Classical.not_not, Int32.not_le, Int32.not_lt, Nat.not_le, Nat.not_lt, nI_leI, nI_ltI, nI_eq, nI_le0, nI_lt0] at c6
    refine am_aload_n fx dX5_featureAt_9 rfl ?_
    refine am_iload_n fx dX5_featureAt_10 rfl ?_
    refine am_callV fx dX5_featureAt_11 mkX5_40 (ct_X5_hasInstance hb ht _) (so5 hb) ⟨by decide, rfl⟩ rfl (Nat.le_of_ble_eq_true rfl) ⟨by decide, by decide⟩ ⟨Nat.le_of_ble_eq_true rfl, Nat.le_of_ble_eq_true rfl⟩ rfl ?_
    rintro _ _ ⟨rfl, rfl⟩
    refine am_if_eq fx 28 dX5_featureAt_14 (by decide) (fun c14 => ?_) (fun c14 => ?_)
    · try simp (disch := omega) only [bz_0, Classical.not_not, Int32.not_le, Int32.not_lt, Nat.not_le, Nat.not_lt, nI_leI, nI_ltI, nI_eq, nI_le0, nI_lt0] at c14
      exact absurd ⟨nI_pos' (by omega), hi⟩ c14
    · try simp (disch := omega) only [bz_0, Classical.not_not, Int32.not_le, Int32.not_lt, Nat.not_le, Nat.not_lt, nI_leI, nI_ltI, nI_eq, nI_le0, nI_lt0] at c14
      refine am_aload_n fx dX5_featureAt_17 rfl ?_
      refine am_getR fx dX5_featureAt_18 fkX5_20 (by decide) (by decide) rfl (so5 hb) (rf5_2 hb) ?_
      refine am_iload_n fx dX5_featureAt_21 rfl ?_
      refine am_aald  fx dX5_featureAt_22 (sa5_2 hb) rfl (by omega) (by decide) (rg5_2 hb (by omega)) ?_
      refine am_iload_n fx dX5_featureAt_23 rfl ?_
      refine am_iald  fx dX5_featureAt_24 (sg5_2 hb (by omega)) rfl (by omega) (by decide) rfl ?_
      refine am_goto fx 29 dX5_featureAt_25 (by decide) ?_
      exact am_iret fx dX5_featureAt_29 ⟨rfl, rfl⟩
def ab (x : Int32) : Int32 := if 0 ≤ x then x else 0 - x
def di (μ : am_M) (i j : Nat) : Int32 := ab (mm_I μ 18 i - mm_I μ 18 j) + ab (mm_I μ 19 i - mm_I μ 19 j)
set_option maxRecDepth 100000 in
set_option maxHeartbeats 4000000 in
theorem ct_X5_distance {E : am_E} {μ : am_M} (hb : Bs μ) {S N : Nat} (ht : Tb μ S N) (i j : Nat) (hi : i < N) (hj : j < N) : am_Ct E yX5_distance cX5_distance 3 (some .int) rmX5_distance [.ref 2, .int (nI i), .int (nI j)] μ (fun v μ' => v = some (.int (di μ i j)) ∧ μ = μ') := by
  refine am_Ct.of (ls := [some (.ref 2), some (.int (nI i)), some (.int (nI j))]) (by decide) (Nat.le_of_ble_eq_true rfl) rfl (fun C fx hnm => ?_)
  have hS := ht.s
  have hN := ht.n
  refine am_aload_n fx dX5_distance_0 rfl ?_
  refine am_iconst (v := 0) fx dX5_distance_1 (by decide) ?_
  refine am_iload_n fx dX5_distance_2 rfl ?_
  refine am_callV fx dX5_distance_3 mkX5_61 (ct_X5_featureAt hb ht 0 i (by omega) hi) (so5 hb) ⟨by decide, rfl⟩ rfl (Nat.le_of_ble_eq_true rfl) ⟨by decide, by decide⟩ ⟨Nat.le_of_ble_eq_true rfl, Nat.le_of_ble_eq_true rfl⟩ rfl ?_
  rintro _ _ ⟨rfl, rfl⟩
  refine am_aload_n fx dX5_distance_6 rfl ?_
  refine am_iconst (v := 0) fx dX5_distance_7 (by decide) ?_
  refine am_iload_n fx dX5_distance_8 rfl ?_
  refine am_callV fx dX5_distance_9 mkX5_61 (ct_X5_featureAt hb ht 0 j (by omega) hj) (so5 hb) ⟨by decide, rfl⟩ rfl (Nat.le_of_ble_eq_true rfl) ⟨by decide, by decide⟩ ⟨Nat.le_of_ble_eq_true rfl, Nat.le_of_ble_eq_true rfl⟩ rfl ?_
  rintro _ _ ⟨rfl, rfl⟩
  refine am_isub fx dX5_distance_12 ?_
  refine am_mabs fx dX5_distance_13 moX5_64 kw_sabs knJ9 kw_cabs ⟨by decide, Nat.le_of_ble_eq_true rfl, Nat.le_of_ble_eq_true rfl, Nat.le_of_ble_eq_true rfl⟩ rfl ?_
  refine am_aload_n fx dX5_distance_16 rfl ?_
  refine am_iconst (v := 1) fx dX5_distance_17 (by decide) ?_
  refine am_iload_n fx dX5_distance_18 rfl ?_
  refine am_callV fx dX5_distance_19 mkX5_61 (ct_X5_featureAt hb ht 1 i (by omega) hi) (so5 hb) ⟨by decide, rfl⟩ rfl (Nat.le_of_ble_eq_true rfl) ⟨by decide, by decide⟩ ⟨Nat.le_of_ble_eq_true rfl, Nat.le_of_ble_eq_true rfl⟩ rfl ?_
  rintro _ _ ⟨rfl, rfl⟩
  refine am_aload_n fx dX5_distance_22 rfl ?_
  refine am_iconst (v := 1) fx dX5_distance_23 (by decide) ?_
  refine am_iload_n fx dX5_distance_24 rfl ?_
  refine am_callV fx dX5_distance_25 mkX5_61 (ct_X5_featureAt hb ht 1 j (by omega) hj) (so5 hb) ⟨by decide, rfl⟩ rfl (Nat.le_of_ble_eq_true rfl) ⟨by decide, by decide⟩ ⟨Nat.le_of_ble_eq_true rfl, Nat.le_of_ble_eq_true rfl⟩ rfl ?_
  rintro _ _ ⟨rfl, rfl⟩
  refine am_isub fx dX5_distance_28 ?_
  refine am_mabs fx dX5_distance_29 moX5_64 kw_sabs knJ9 kw_cabs ⟨by decide, Nat.le_of_ble_eq_true rfl, Nat.le_of_ble_eq_true rfl, Nat.le_of_ble_eq_true rfl⟩ rfl ?_
  refine am_iadd fx dX5_distance_32 ?_
  exact am_iret fx dX5_distance_33 ⟨rfl, rfl⟩
end
section
/-! a whole array anew -/
def mm_fI (μ : am_M) (a : Nat) (g : Nat → Int32) : am_M := (μ.1, fun a' k' => if a' = a then g k' else μ.2.1 a' k', μ.2.2.1, μ.2.2.2.1, μ.2.2.2.2)
def mm_fL (μ : am_M) (a : Nat) (g : Nat → Int64) : am_M := (μ.1, μ.2.1, fun a' k' => if a' = a then g k' else μ.2.2.1 a' k', μ.2.2.2.1, μ.2.2.2.2)
theorem mI_fI (μ : am_M) (a : Nat) (g : Nat → Int32) (a' k' : Nat) : mm_I (mm_fI μ a g) a' k' = if a' = a then g k' else mm_I μ a' k' := rfl
theorem mL_fL (μ : am_M) (a : Nat) (g : Nat → Int64) (a' k' : Nat) : mm_L (mm_fL μ a g) a' k' = if a' = a then g k' else mm_L μ a' k' := rfl
theorem mI_fL (μ : am_M) (a : Nat) (g : Nat → Int64) : mm_I (mm_fL μ a g) = mm_I μ := rfl
theorem mL_fI (μ : am_M) (a : Nat) (g : Nat → Int32) : mm_L (mm_fI μ a g) = mm_L μ := rfl
theorem mI_fIs (μ : am_M) (a : Nat) (g : Nat → Int32) (k : Nat) : mm_I (mm_fI μ a g) a k = g k := by rw [mI_fI, if_pos rfl]
theorem mI_fIn {μ : am_M} {a a' : Nat} {g : Nat → Int32} {k : Nat} (h : a' ≠ a) : mm_I (mm_fI μ a g) a' k = mm_I μ a' k := by rw [mI_fI, if_neg h]
theorem mL_fLs (μ : am_M) (a : Nat) (g : Nat → Int64) (k : Nat) : mm_L (mm_fL μ a g) a k = g k := by rw [mL_fL, if_pos rfl]
theorem mL_fLn {μ : am_M} {a a' : Nat} {g : Nat → Int64} {k : Nat} (h : a' ≠ a) : mm_L (mm_fL μ a g) a' k = mm_L μ a' k := by rw [mL_fL, if_neg h]
theorem am_ext {μ ν : am_M} (hS : mm_S μ = mm_S ν) (hI : ∀ a k, mm_I μ a k = mm_I ν a k) (hL : ∀ a k, mm_L μ a k = mm_L ν a k) (hR : mm_R μ = mm_R ν) (hZ : mm_Z μ = mm_Z ν) : μ = ν := by
  obtain ⟨a, b, c, d, e⟩ := μ
  obtain ⟨a', b', c', d', e'⟩ := ν
  have h1 : a = a' := hS
  have h2 : b = b' := funext fun x => funext fun y => hI x y
  have h3 : c = c' := funext fun x => funext fun y => hL x y
  have h4 : d = d' := hR
  have h5 : e = e' := hZ
  subst h1; subst h2; subst h3; subst h4; subst h5
  rfl
theorem fI_self (μ : am_M) (a : Nat) : mm_fI μ a (mm_I μ a) = μ := am_ext rfl (fun a' k => by rw [mI_fI]; split <;> simp_all) (fun _ _ => rfl) rfl rfl
theorem fL_self (μ : am_M) (a : Nat) : mm_fL μ a (mm_L μ a) = μ := am_ext rfl (fun _ _ => rfl) (fun a' k => by rw [mL_fL]; split <;> simp_all) rfl rfl
theorem sI_fI (μ : am_M) (a k : Nat) (g : Nat → Int32) (v : Int32) : mm_sI (mm_fI μ a g) a k v = mm_fI μ a (upd g k v) := am_ext rfl (fun a' k' => by rw [mI_sI, mI_fI, mI_fI]; by_cases h : a' = a <;> by_cases h2 : k' = k <;> simp [h, h2, upd]) (fun _ _ => rfl) rfl rfl
theorem sI_up (μ : am_M) (a k : Nat) (v : Int32) : mm_sI μ a k v = mm_fI μ a (upd (mm_I μ a) k v) := am_ext rfl (fun a' k' => by rw [mI_sI, mI_fI]; by_cases h : a' = a <;> by_cases h2 : k' = k <;> simp [h, h2, upd]) (fun _ _ => rfl) rfl rfl
theorem sL_fL (μ : am_M) (a k : Nat) (g : Nat → Int64) (v : Int64) : mm_sL (mm_fL μ a g) a k v = mm_fL μ a (vp_updL g k v) := am_ext rfl (fun _ _ => rfl) (fun a' k' => by rw [mL_sL, mL_fL, mL_fL]; by_cases h : a' = a <;> by_cases h2 : k' = k <;> simp [h, h2, vp_updL]) rfl rfl
theorem fI_fI (μ : am_M) (a : Nat) (g h : Nat → Int32) : mm_fI (mm_fI μ a g) a h = mm_fI μ a h := am_ext rfl (fun a' k' => by rw [mI_fI, mI_fI, mI_fI]; by_cases h : a' = a <;> simp [h]) (fun _ _ => rfl) rfl rfl
theorem Fr.fI (μ : am_M) (a : Nat) (g : Nat → Int32) : Fr μ (mm_fI μ a g) := ⟨rfl, rfl, rfl⟩
theorem Fr.sI (μ : am_M) (a k : Nat) (v : Int32) : Fr μ (mm_sI μ a k v) := ⟨rfl, rfl, rfl⟩
theorem Fr.fL (μ : am_M) (a : Nat) (g : Nat → Int64) : Fr μ (mm_fL μ a g) := ⟨rfl, rfl, rfl⟩
theorem Fr.sL (μ : am_M) (a k : Nat) (v : Int64) : Fr μ (mm_sL μ a k v) := ⟨rfl, rfl, rfl⟩
/-- the first r places hold x -/
def flI (x : Int32) (g : Nat → Int32) (r : Nat) : Nat → Int32 := fun k => if k < r then x else g k
def flL (x : Int64) (g : Nat → Int64) (r : Nat) : Nat → Int64 := fun k => if k < r then x else g k
theorem flI_s (x : Int32) (g : Nat → Int32) (r : Nat) : upd (flI x g r) r x = flI x g (r + 1) := by
  funext k
  simp only [upd, flI]
  by_cases h : k = r
  · simp [h]
  · by_cases h2 : k < r
    · simp [h, h2, Nat.lt_succ_of_lt h2]
    · rw [if_neg h, if_neg h2, if_neg (by omega)]
theorem flL_s (x : Int64) (g : Nat → Int64) (r : Nat) : vp_updL (flL x g r) r x = flL x g (r + 1) := by
  funext k
  simp only [vp_updL, flL]
  by_cases h : k = r
  · simp [h]
  · by_cases h2 : k < r
    · simp [h, h2, Nat.lt_succ_of_lt h2]
    · rw [if_neg h, if_neg h2, if_neg (by omega)]
theorem flI_0 (x : Int32) (g : Nat → Int32) : flI x g 0 = g := by funext k; simp [flI]
theorem flL_0 (x : Int64) (g : Nat → Int64) : flL x g 0 = g := by funext k; simp [flL]
set_option maxRecDepth 100000 in
set_option maxHeartbeats 4000000 in
theorem ct_J7_fill_53178 {E : am_E} {μ : am_M} {a N : Nat} (hs : mm_S μ a = (8, N)) (hN : N < 65536) (x : Int32) : am_Ct E yJ7_fill_53178 cJ7_fill_53178 4 none rmJ7_fill_53178 [.ref a, .int x] μ (fun v μ' => v = none ∧ μ' = mm_fI μ a (flI x (mm_I μ a) N)) := by
  refine am_Ct.of (ls := [some (.ref a), some (.int x), none, none]) (by decide) (Nat.le_of_ble_eq_true rfl) rfl (fun C fx hnm => ?_)
  refine am_iconst (v := 0) fx dJ7_fill_53178_0 (by decide) ?_
  refine am_istore_n fx dJ7_fill_53178_1 (by decide) rfl ?_
  refine am_aload_n fx dJ7_fill_53178_2 rfl ?_
  refine am_alen fx dJ7_fill_53178_3 hs (by decide) rfl ?_
  refine am_istore_n fx dJ7_fill_53178_4 (by decide) rfl ?_
  have lp5 : ∀ (mz : Nat) (r : Nat), N - r = mz → r ≤ N → am_W E C (am_MQ E C (fun v μ' => v = none ∧ μ' = mm_fI μ a (flI x (mm_I μ a) N)) (rmJ7_fill_53178).cells (rmJ7_fill_53178).slots) (mm_fI μ a (flI x (mm_I μ a) r)) 0 0 5 [some (.ref a), some (.int x), some (.int (nI r)), some (.int (nI N))] [] := by
    intro mz
    induction mz using Nat.strongRecOn with
    | ind mz ih =>
      intro r hn hr
      refine am_iload_n fx dJ7_fill_53178_5 rfl ?_
      refine am_iload_n fx dJ7_fill_53178_6 rfl ?_
      refine am_icmp_ge fx 20 dJ7_fill_53178_7 (by decide) (fun c7 => ?_) (fun c7 => ?_)
      · try simp (disch := omega) only [bz_0, Classical.not_not, Int32.not_le, Int32.not_lt, Nat.not_le, Nat.not_lt, nI_leI, nI_ltI, nI_eq, nI_le0, nI_lt0] at c7
        exact am_vret fx dJ7_fill_53178_20 ⟨rfl, by rw [show r = N by omega]⟩
      · try simp (disch := omega) only [bz_0, Classical.not_not, Int32.not_le, Int32.not_lt, Nat.not_le, Nat.not_lt, nI_leI, nI_ltI, nI_eq, nI_le0, nI_lt0] at c7
        refine am_aload_n fx dJ7_fill_53178_10 rfl ?_
        refine am_iload_n fx dJ7_fill_53178_11 rfl ?_
        refine am_iload_n fx dJ7_fill_53178_12 rfl ?_
        refine am_iast  fx dJ7_fill_53178_13 hs rfl (by omega) (by omega) ?_
        first | refine am_iinc fx dJ7_fill_53178_14 rfl (nI_inc _) (by decide) rfl ?_ | refine am_iinc fx dJ7_fill_53178_14 rfl rfl (by decide) rfl ?_
        refine am_goto fx 5 dJ7_fill_53178_17 (by decide) ?_
        exact am_mem (by rw [sI_fI, flI_s]) (ih (N - (r + 1)) (by omega) (r + 1) rfl (by omega))
  refine am_mem (show μ = mm_fI μ a (flI x (mm_I μ a) 0) by rw [flI_0, fI_self]) ?_
  exact lp5 _ 0 rfl (by omega)
set_option maxRecDepth 100000 in
set_option maxHeartbeats 4000000 in
theorem ct_J7_fill_d0a16 {E : am_E} {μ : am_M} {a N : Nat} (hs : mm_S μ a = (9, N)) (hN : N < 65536) (x : Int64) : am_Ct E yJ7_fill_d0a16 cJ7_fill_d0a16 5 none rmJ7_fill_d0a16 [.ref a, .long x] μ (fun v μ' => v = none ∧ μ' = mm_fL μ a (flL x (mm_L μ a) N)) := by
  refine am_Ct.of (ls := [some (.ref a), some (.long x), none, none, none]) (by decide) (Nat.le_of_ble_eq_true rfl) rfl (fun C fx hnm => ?_)
  refine am_iconst (v := 0) fx dJ7_fill_d0a16_0 (by decide) ?_
  refine am_istore_n fx dJ7_fill_d0a16_1 (by decide) rfl ?_
  refine am_aload_n fx dJ7_fill_d0a16_2 rfl ?_
  refine am_alen fx dJ7_fill_d0a16_3 hs (by decide) rfl ?_
  refine am_istore fx dJ7_fill_d0a16_4 (by decide) rfl ?_
  have lp6 : ∀ (mz : Nat) (r : Nat), N - r = mz → r ≤ N → am_W E C (am_MQ E C (fun v μ' => v = none ∧ μ' = mm_fL μ a (flL x (mm_L μ a) N)) (rmJ7_fill_d0a16).cells (rmJ7_fill_d0a16).slots) (mm_fL μ a (flL x (mm_L μ a) r)) 0 0 6 [some (.ref a), some (.long x), none, some (.int (nI r)), some (.int (nI N))] [] := by
    intro mz
    induction mz using Nat.strongRecOn with
    | ind mz ih =>
      intro r hn hr
      refine am_iload_n fx dJ7_fill_d0a16_6 rfl ?_
      refine am_iload fx dJ7_fill_d0a16_7 rfl ?_
      refine am_icmp_ge fx 22 dJ7_fill_d0a16_9 (by decide) (fun c9 => ?_) (fun c9 => ?_)
      · try simp (disch := omega) only [bz_0, Classical.not_not, Int32.not_le, Int32.not_lt, Nat.not_le, Nat.not_lt, nI_leI, nI_ltI, nI_eq, nI_le0, nI_lt0] at c9
        exact am_vret fx dJ7_fill_d0a16_22 ⟨rfl, by rw [show r = N by omega]⟩
      · try simp (disch := omega) only [bz_0, Classical.not_not, Int32.not_le, Int32.not_lt, Nat.not_le, Nat.not_lt, nI_leI, nI_ltI, nI_eq, nI_le0, nI_lt0] at c9
        refine am_aload_n fx dJ7_fill_d0a16_12 rfl ?_
        refine am_iload_n fx dJ7_fill_d0a16_13 rfl ?_
        refine am_lload_n fx dJ7_fill_d0a16_14 rfl ?_
        refine am_last  fx dJ7_fill_d0a16_15 hs rfl (by omega) (by omega) ?_
        first | refine am_iinc fx dJ7_fill_d0a16_16 rfl (nI_inc _) (by decide) rfl ?_ | refine am_iinc fx dJ7_fill_d0a16_16 rfl rfl (by decide) rfl ?_
        refine am_goto fx 6 dJ7_fill_d0a16_19 (by decide) ?_
        exact am_mem (by rw [sL_fL, flL_s]) (ih (N - (r + 1)) (by omega) (r + 1) rfl (by omega))
  refine am_mem (show μ = mm_fL μ a (flL x (mm_L μ a) 0) by rw [flL_0, fL_self]) ?_
  exact lp6 _ 0 rfl (by omega)
/-- the first of those with p that has the least c, among the first k -/
def am1 (p : Nat → Bool) (c : Nat → Int32) : Nat → Option Nat
  | 0 => none
  | k + 1 => match am1 p c k with
    | none => if p k = true then some k else none
    | some b => if p k = true ∧ c k < c b then some k else some b
def enO (d : Int32) : Option Nat → Int32
  | none => d
  | some k => nI k
def lsO (c : Nat → Int32) : Option Nat → Int32
  | none => 2147483647
  | some b => c b
theorem am1_t {p : Nat → Bool} {c : Nat → Int32} {k : Nat} (hp : p k = true) (h : c k < lsO c (am1 p c k)) : am1 p c (k + 1) = some k := by
  simp only [am1]
  cases hb : am1 p c k with
  | none => simp [hp]
  | some b => rw [hb] at h; simp only [lsO] at h; simp [hp, h]
theorem am1_n {p : Nat → Bool} {c : Nat → Int32} {k : Nat} (hp : ¬ p k = true) : am1 p c (k + 1) = am1 p c k := by
  simp only [am1]
  cases hb : am1 p c k with
  | none => simp [hp]
  | some b => simp [hp]
theorem am1_f {p : Nat → Bool} {c : Nat → Int32} {k : Nat} (hc : c k < 2147483647) (h : lsO c (am1 p c k) ≤ c k) : am1 p c (k + 1) = am1 p c k := by
  simp only [am1]
  cases hb : am1 p c k with
  | none => rw [hb] at h; exact absurd hc (Int32.not_lt.mpr h)
  | some b =>
    rw [hb] at h
    simp only [lsO] at h
    show (if p k = true ∧ c k < c b then some k else some b) = some b
    rw [if_neg (fun q => absurd q.2 (Int32.not_lt.mpr h))]
theorem am1_lt {p : Nat → Bool} {c : Nat → Int32} : ∀ {k b : Nat}, am1 p c k = some b → b < k ∧ p b = true
  | 0, b, h => by cases h
  | k + 1, b, h => by
    simp only [am1] at h
    cases hb : am1 p c k with
    | none =>
      rw [hb] at h
      simp only at h
      split at h
      · cases h; rename_i q; exact ⟨Nat.lt_succ_self _, q⟩
      · cases h
    | some b' =>
      rw [hb] at h
      simp only at h
      split at h
      · cases h; rename_i q; exact ⟨Nat.lt_succ_self _, q.1⟩
      · cases h; have := am1_lt hb; exact ⟨by omega, this.2⟩
theorem am1_congr {p p' : Nat → Bool} {c c' : Nat → Int32} : ∀ {k : Nat}, (∀ j, j < k → p j = p' j ∧ (p j = true → c j = c' j)) → am1 p c k = am1 p' c' k
  | 0, _ => rfl
  | k + 1, h => by
    have ih := am1_congr (k := k) (fun j hj => h j (by omega))
    obtain ⟨h1, h2⟩ := h k (Nat.lt_succ_self k)
    simp only [am1]
    rw [← ih]
    cases hb : am1 p c k with
    | none => simp only [h1]
    | some b =>
      have hbl := am1_lt hb
      have hcb := (h b (by omega)).2 hbl.2
      simp only [← h1, ← hcb]
      by_cases hp : p k = true
      · rw [h2 hp]
      · simp [hp]
set_option maxRecDepth 100000 in
set_option maxHeartbeats 4000000 in
theorem ct_X5_bestOn {E : am_E} {μ : am_M} (hb : Bs μ) {S N : Nat} (ht : Tb μ S N) (i : Nat) (hi : i < N) (hc : ∀ s, s < S → mm_I μ (4 + s) i < 2147483647) : am_Ct E yX5_bestOn cX5_bestOn 5 (some .int) rmX5_bestOn [.ref 2, .int (nI i)] μ (fun v μ' => v = some (.int (enO (-1) (am1 (fun s => decide (mm_I μ 16 s = nI N)) (fun s => mm_I μ (4 + s) i) S))) ∧ μ = μ') := by
  refine am_Ct.of (ls := [some (.ref 2), some (.int (nI i)), none, none, none]) (by decide) (Nat.le_of_ble_eq_true rfl) rfl (fun C fx hnm => ?_)
  have hS := ht.s
  have hN := ht.n
  refine am_iconst (v := (-1)) fx dX5_bestOn_0 (by decide) ?_
  refine am_istore_n fx dX5_bestOn_1 (by decide) rfl ?_
  refine am_ldc fx dX5_bestOn_2 kdX5_56 ?_
  refine am_istore_n fx dX5_bestOn_4 (by decide) rfl ?_
  refine am_iconst (v := 0) fx dX5_bestOn_5 (by decide) ?_
  refine am_istore fx dX5_bestOn_6 (by decide) rfl ?_
  have lp8 : ∀ (mz : Nat) (r : Nat) (x y : Int32), S - r = mz → r ≤ S → x = enO (-1) (am1 (fun s => decide (mm_I μ 16 s = nI N)) (fun s => mm_I μ (4 + s) i) r) → y = lsO (fun s => mm_I μ (4 + s) i) (am1 (fun s => decide (mm_I μ 16 s = nI N)) (fun s => mm_I μ (4 + s) i) r) → am_W E C (am_MQ E C (fun v μ' => v = some (.int (enO (-1) (am1 (fun s => decide (mm_I μ 16 s = nI N)) (fun s => mm_I μ (4 + s) i) S))) ∧ μ = μ') (rmX5_bestOn).cells (rmX5_bestOn).slots) μ 0 0 8 [some (.ref 2), some (.int (nI i)), some (.int x), some (.int y), some (.int (nI r))] [] := by
    intro mz
    induction mz using Nat.strongRecOn with
    | ind mz ih =>
      intro r x y hn hr hx hy
      refine am_iload fx dX5_bestOn_8 rfl ?_
      refine am_aload_n fx dX5_bestOn_10 rfl ?_
      refine am_getI fx dX5_bestOn_11 fkX5_27 (by decide) (by decide) rfl (so5 hb) ht.1 ?_
      refine am_icmp_ge fx 66 dX5_bestOn_14 (by decide) (fun c14 => ?_) (fun c14 => ?_)
      · try simp (disch := omega) only [bz_0, Classical.not_not, Int32.not_le, Int32.not_lt, Nat.not_le, Nat.not_lt, nI_leI, nI_ltI, nI_eq, nI_le0, nI_lt0] at c14
        refine am_iload_n fx dX5_bestOn_66 rfl ?_
        exact am_iret fx dX5_bestOn_67 ⟨by rw [hx, show r = S by omega], rfl⟩
      · try simp (disch := omega) only [bz_0, Classical.not_not, Int32.not_le, Int32.not_lt, Nat.not_le, Nat.not_lt, nI_leI, nI_ltI, nI_eq, nI_le0, nI_lt0] at c14
        refine am_aload_n fx dX5_bestOn_17 rfl ?_
        refine am_iload_n fx dX5_bestOn_18 rfl ?_
        refine am_callV fx dX5_bestOn_19 mkX5_40 (ct_X5_hasInstance hb ht _) (so5 hb) ⟨by decide, rfl⟩ rfl (Nat.le_of_ble_eq_true rfl) ⟨by decide, by decide⟩ ⟨Nat.le_of_ble_eq_true rfl, Nat.le_of_ble_eq_true rfl⟩ rfl ?_
        rintro _ _ ⟨rfl, rfl⟩
        refine am_if_eq fx 66 dX5_bestOn_22 (by decide) (fun c22 => ?_) (fun c22 => ?_)
        · try simp (disch := omega) only [bz_0, Classical.not_not, Int32.not_le, Int32.not_lt, Nat.not_le, Nat.not_lt, nI_leI, nI_ltI, nI_eq, nI_le0, nI_lt0] at c22
          exact absurd ⟨nI_pos' (by omega), hi⟩ c22
        · try simp (disch := omega) only [bz_0, Classical.not_not, Int32.not_le, Int32.not_lt, Nat.not_le, Nat.not_lt, nI_leI, nI_ltI, nI_eq, nI_le0, nI_lt0] at c22
          refine am_aload_n fx dX5_bestOn_25 rfl ?_
          refine am_iload fx dX5_bestOn_26 rfl ?_
          refine am_callV fx dX5_bestOn_28 mkX5_47 (ct_X5_isWhole hb ht _ (by assumption)) (so5 hb) ⟨by decide, rfl⟩ rfl (Nat.le_of_ble_eq_true rfl) ⟨by decide, by decide⟩ ⟨Nat.le_of_ble_eq_true rfl, Nat.le_of_ble_eq_true rfl⟩ rfl ?_
          rintro _ _ ⟨rfl, rfl⟩
          refine am_if_eq fx 60 dX5_bestOn_31 (by decide) (fun c31 => ?_) (fun c31 => ?_)
          · try simp (disch := omega) only [bz_0, Classical.not_not, Int32.not_le, Int32.not_lt, Nat.not_le, Nat.not_lt, nI_leI, nI_ltI, nI_eq, nI_le0, nI_lt0] at c31
            first | refine am_iinc fx dX5_bestOn_60 rfl (nI_inc _) (by decide) rfl ?_ | refine am_iinc fx dX5_bestOn_60 rfl rfl (by decide) rfl ?_
            refine am_goto fx 8 dX5_bestOn_63 (by decide) ?_
            exact ih (S - (r + 1)) (by omega) (r + 1) _ _ rfl (by omega) (by rw [am1_n (p := (fun s => decide (mm_I μ 16 s = nI N))) (c := (fun s => mm_I μ (4 + s) i)) (by simpa using c31)]; exact hx) (by rw [am1_n (p := (fun s => decide (mm_I μ 16 s = nI N))) (c := (fun s => mm_I μ (4 + s) i)) (by simpa using c31)]; exact hy)
          · try simp (disch := omega) only [bz_0, Classical.not_not, Int32.not_le, Int32.not_lt, Nat.not_le, Nat.not_lt, nI_leI, nI_ltI, nI_eq, nI_le0, nI_lt0] at c31
            refine am_aload_n fx dX5_bestOn_34 rfl ?_
            refine am_getR fx dX5_bestOn_35 fkX5_11 (by decide) (by decide) rfl (so5 hb) (rf5_0 hb) ?_
            refine am_iload fx dX5_bestOn_38 rfl ?_
            refine am_aald  fx dX5_bestOn_40 (sa5_0 hb) rfl (by omega) (by decide) (rg5_0 hb (by omega)) ?_
            refine am_iload_n fx dX5_bestOn_41 rfl ?_
            refine am_iald  fx dX5_bestOn_42 (sg5_0 hb (by omega)) rfl (by omega) (by decide) rfl ?_
            refine am_iload_n fx dX5_bestOn_43 rfl ?_
            refine am_icmp_ge fx 60 dX5_bestOn_44 (by decide) (fun c44 => ?_) (fun c44 => ?_)
            · try simp (disch := omega) only [bz_0, Classical.not_not, Int32.not_le, Int32.not_lt, Nat.not_le, Nat.not_lt, nI_leI, nI_ltI, nI_eq, nI_le0, nI_lt0] at c44
              first | refine am_iinc fx dX5_bestOn_60 rfl (nI_inc _) (by decide) rfl ?_ | refine am_iinc fx dX5_bestOn_60 rfl rfl (by decide) rfl ?_
              refine am_goto fx 8 dX5_bestOn_63 (by decide) ?_
              exact ih (S - (r + 1)) (by omega) (r + 1) _ _ rfl (by omega) (by rw [am1_f (p := (fun s => decide (mm_I μ 16 s = nI N))) (c := (fun s => mm_I μ (4 + s) i)) (hc r (by omega)) (by rw [← hy]; exact c44)]; exact hx) (by rw [am1_f (p := (fun s => decide (mm_I μ 16 s = nI N))) (c := (fun s => mm_I μ (4 + s) i)) (hc r (by omega)) (by rw [← hy]; exact c44)]; exact hy)
            · try simp (disch := omega) only [bz_0, Classical.not_not, Int32.not_le, Int32.not_lt, Nat.not_le, Nat.not_lt, nI_leI, nI_ltI, nI_eq, nI_le0, nI_lt0] at c44
              refine am_iload fx dX5_bestOn_47 rfl ?_
              refine am_istore_n fx dX5_bestOn_49 (by decide) rfl ?_
              refine am_aload_n fx dX5_bestOn_50 rfl ?_
              refine am_getR fx dX5_bestOn_51 fkX5_11 (by decide) (by decide) rfl (so5 hb) (rf5_0 hb) ?_
              refine am_iload fx dX5_bestOn_54 rfl ?_
              refine am_aald  fx dX5_bestOn_56 (sa5_0 hb) rfl (by omega) (by decide) (rg5_0 hb (by omega)) ?_
              refine am_iload_n fx dX5_bestOn_57 rfl ?_
              refine am_iald  fx dX5_bestOn_58 (sg5_0 hb (by omega)) rfl (by omega) (by decide) rfl ?_
              refine am_istore_n fx dX5_bestOn_59 (by decide) rfl ?_
              first | refine am_iinc fx dX5_bestOn_60 rfl (nI_inc _) (by decide) rfl ?_ | refine am_iinc fx dX5_bestOn_60 rfl rfl (by decide) rfl ?_
              refine am_goto fx 8 dX5_bestOn_63 (by decide) ?_
              exact ih (S - (r + 1)) (by omega) (r + 1) _ _ rfl (by omega) (by rw [am1_t (p := (fun s => decide (mm_I μ 16 s = nI N))) (c := (fun s => mm_I μ (4 + s) i)) (by simpa using c31) (by rw [← hy]; exact c44)]; rfl) (by rw [am1_t (p := (fun s => decide (mm_I μ 16 s = nI N))) (c := (fun s => mm_I μ (4 + s) i)) (by simpa using c31) (by rw [← hy]; exact c44)]; rfl)
  exact lp8 _ 0 _ _ rfl (by omega) rfl rfl

set_option maxRecDepth 100000 in
set_option maxHeartbeats 4000000 in
theorem ct_X5_nearestLearning {E : am_E} {μ : am_M} (hb : Bs μ) {S N : Nat} (ht : Tb μ S N) (i : Nat) (hi : i < N) (hc : ∀ j, j < N → di μ j i < 2147483647) : am_Ct E yX5_nearestLearning cX5_nearestLearning 5 (some .int) rmX5_nearestLearning [.ref 2, .int (nI i)] μ (fun v μ' => v = some (.int (enO (-1) (am1 (fun j => decide (j ≠ i) && decide (¬ mm_I μ 20 j = 0)) (fun j => di μ j i) N))) ∧ μ = μ') := by
  refine am_Ct.of (ls := [some (.ref 2), some (.int (nI i)), none, none, none]) (by decide) (Nat.le_of_ble_eq_true rfl) rfl (fun C fx hnm => ?_)
  have hS := ht.s
  have hN := ht.n
  refine am_iconst (v := (-1)) fx dX5_nearestLearning_0 (by decide) ?_
  refine am_istore_n fx dX5_nearestLearning_1 (by decide) rfl ?_
  refine am_ldc fx dX5_nearestLearning_2 kdX5_56 ?_
  refine am_istore_n fx dX5_nearestLearning_4 (by decide) rfl ?_
  refine am_iconst (v := 0) fx dX5_nearestLearning_5 (by decide) ?_
  refine am_istore fx dX5_nearestLearning_6 (by decide) rfl ?_
  have lp8 : ∀ (mz : Nat) (r : Nat) (x y : Int32), N - r = mz → r ≤ N → x = enO (-1) (am1 (fun j => decide (j ≠ i) && decide (¬ mm_I μ 20 j = 0)) (fun j => di μ j i) r) → y = lsO (fun j => di μ j i) (am1 (fun j => decide (j ≠ i) && decide (¬ mm_I μ 20 j = 0)) (fun j => di μ j i) r) → am_W E C (am_MQ E C (fun v μ' => v = some (.int (enO (-1) (am1 (fun j => decide (j ≠ i) && decide (¬ mm_I μ 20 j = 0)) (fun j => di μ j i) N))) ∧ μ = μ') (rmX5_nearestLearning).cells (rmX5_nearestLearning).slots) μ 0 0 8 [some (.ref 2), some (.int (nI i)), some (.int x), some (.int y), some (.int (nI r))] [] := by
    intro mz
    induction mz using Nat.strongRecOn with
    | ind mz ih =>
      intro r x y hn hr hx hy
      refine am_iload fx dX5_nearestLearning_8 rfl ?_
      refine am_aload_n fx dX5_nearestLearning_10 rfl ?_
      refine am_getI fx dX5_nearestLearning_11 fkX5_31 (by decide) (by decide) rfl (so5 hb) ht.2.1 ?_
      refine am_icmp_ge fx 61 dX5_nearestLearning_14 (by decide) (fun c14 => ?_) (fun c14 => ?_)
      · try simp (disch := omega) only [bz_0, Classical.not_not, Int32.not_le, Int32.not_lt, Nat.not_le, Nat.not_lt, nI_leI, nI_ltI, nI_eq, nI_le0, nI_lt0] at c14
        refine am_iload_n fx dX5_nearestLearning_61 rfl ?_
        exact am_iret fx dX5_nearestLearning_62 ⟨by rw [hx, show r = N by omega], rfl⟩
      · try simp (disch := omega) only [bz_0, Classical.not_not, Int32.not_le, Int32.not_lt, Nat.not_le, Nat.not_lt, nI_leI, nI_ltI, nI_eq, nI_le0, nI_lt0] at c14
        refine am_iload fx dX5_nearestLearning_17 rfl ?_
        refine am_iload_n fx dX5_nearestLearning_19 rfl ?_
        refine am_icmp_eq fx 55 dX5_nearestLearning_20 (by decide) (fun c20 => ?_) (fun c20 => ?_)
        · try simp (disch := omega) only [bz_0, Classical.not_not, Int32.not_le, Int32.not_lt, Nat.not_le, Nat.not_lt, nI_leI, nI_ltI, nI_eq, nI_le0, nI_lt0] at c20
          first | refine am_iinc fx dX5_nearestLearning_55 rfl (nI_inc _) (by decide) rfl ?_ | refine am_iinc fx dX5_nearestLearning_55 rfl rfl (by decide) rfl ?_
          refine am_goto fx 8 dX5_nearestLearning_58 (by decide) ?_
          exact ih (N - (r + 1)) (by omega) (r + 1) _ _ rfl (by omega) (by rw [am1_n (p := (fun j => decide (j ≠ i) && decide (¬ mm_I μ 20 j = 0))) (c := (fun j => di μ j i)) (by simp [c20])]; exact hx) (by rw [am1_n (p := (fun j => decide (j ≠ i) && decide (¬ mm_I μ 20 j = 0))) (c := (fun j => di μ j i)) (by simp [c20])]; exact hy)
        · try simp (disch := omega) only [bz_0, Classical.not_not, Int32.not_le, Int32.not_lt, Nat.not_le, Nat.not_lt, nI_leI, nI_ltI, nI_eq, nI_le0, nI_lt0] at c20
          refine am_aload_n fx dX5_nearestLearning_23 rfl ?_
          refine am_getR fx dX5_nearestLearning_24 fkX5_23 (by decide) (by decide) rfl (so5 hb) (rf5_3 hb) ?_
          refine am_iload fx dX5_nearestLearning_27 rfl ?_
          refine am_zald  fx dX5_nearestLearning_29 (sa5_3 hb) rfl (by omega) (by decide) rfl ?_
          refine am_if_eq fx 55 dX5_nearestLearning_30 (by decide) (fun c30 => ?_) (fun c30 => ?_)
          · try simp (disch := omega) only [bz_0, Classical.not_not, Int32.not_le, Int32.not_lt, Nat.not_le, Nat.not_lt, nI_leI, nI_ltI, nI_eq, nI_le0, nI_lt0] at c30
            first | refine am_iinc fx dX5_nearestLearning_55 rfl (nI_inc _) (by decide) rfl ?_ | refine am_iinc fx dX5_nearestLearning_55 rfl rfl (by decide) rfl ?_
            refine am_goto fx 8 dX5_nearestLearning_58 (by decide) ?_
            exact ih (N - (r + 1)) (by omega) (r + 1) _ _ rfl (by omega) (by rw [am1_n (p := (fun j => decide (j ≠ i) && decide (¬ mm_I μ 20 j = 0))) (c := (fun j => di μ j i)) (by simp [c30])]; exact hx) (by rw [am1_n (p := (fun j => decide (j ≠ i) && decide (¬ mm_I μ 20 j = 0))) (c := (fun j => di μ j i)) (by simp [c30])]; exact hy)
          · try simp (disch := omega) only [bz_0, Classical.not_not, Int32.not_le, Int32.not_lt, Nat.not_le, Nat.not_lt, nI_leI, nI_ltI, nI_eq, nI_le0, nI_lt0] at c30
            refine am_aload_n fx dX5_nearestLearning_33 rfl ?_
            refine am_iload fx dX5_nearestLearning_34 rfl ?_
            refine am_iload_n fx dX5_nearestLearning_36 rfl ?_
            refine am_callV fx dX5_nearestLearning_37 mkX5_57 (ct_X5_distance hb ht _ _ (by assumption) (by assumption)) (so5 hb) ⟨by decide, rfl⟩ rfl (Nat.le_of_ble_eq_true rfl) ⟨by decide, by decide⟩ ⟨Nat.le_of_ble_eq_true rfl, Nat.le_of_ble_eq_true rfl⟩ rfl ?_
            rintro _ _ ⟨rfl, rfl⟩
            refine am_iload_n fx dX5_nearestLearning_40 rfl ?_
            refine am_icmp_ge fx 55 dX5_nearestLearning_41 (by decide) (fun c41 => ?_) (fun c41 => ?_)
            · try simp (disch := omega) only [bz_0, Classical.not_not, Int32.not_le, Int32.not_lt, Nat.not_le, Nat.not_lt, nI_leI, nI_ltI, nI_eq, nI_le0, nI_lt0] at c41
              first | refine am_iinc fx dX5_nearestLearning_55 rfl (nI_inc _) (by decide) rfl ?_ | refine am_iinc fx dX5_nearestLearning_55 rfl rfl (by decide) rfl ?_
              refine am_goto fx 8 dX5_nearestLearning_58 (by decide) ?_
              exact ih (N - (r + 1)) (by omega) (r + 1) _ _ rfl (by omega) (by rw [am1_f (p := (fun j => decide (j ≠ i) && decide (¬ mm_I μ 20 j = 0))) (c := (fun j => di μ j i)) (hc r (by omega)) (by rw [← hy]; exact c41)]; exact hx) (by rw [am1_f (p := (fun j => decide (j ≠ i) && decide (¬ mm_I μ 20 j = 0))) (c := (fun j => di μ j i)) (hc r (by omega)) (by rw [← hy]; exact c41)]; exact hy)
            · try simp (disch := omega) only [bz_0, Classical.not_not, Int32.not_le, Int32.not_lt, Nat.not_le, Nat.not_lt, nI_leI, nI_ltI, nI_eq, nI_le0, nI_lt0] at c41
              refine am_iload fx dX5_nearestLearning_44 rfl ?_
              refine am_istore_n fx dX5_nearestLearning_46 (by decide) rfl ?_
              refine am_aload_n fx dX5_nearestLearning_47 rfl ?_
              refine am_iload fx dX5_nearestLearning_48 rfl ?_
              refine am_iload_n fx dX5_nearestLearning_50 rfl ?_
              refine am_callV fx dX5_nearestLearning_51 mkX5_57 (ct_X5_distance hb ht _ _ (by assumption) (by assumption)) (so5 hb) ⟨by decide, rfl⟩ rfl (Nat.le_of_ble_eq_true rfl) ⟨by decide, by decide⟩ ⟨Nat.le_of_ble_eq_true rfl, Nat.le_of_ble_eq_true rfl⟩ rfl ?_
              rintro _ _ ⟨rfl, rfl⟩
              refine am_istore_n fx dX5_nearestLearning_54 (by decide) rfl ?_
              first | refine am_iinc fx dX5_nearestLearning_55 rfl (nI_inc _) (by decide) rfl ?_ | refine am_iinc fx dX5_nearestLearning_55 rfl rfl (by decide) rfl ?_
              refine am_goto fx 8 dX5_nearestLearning_58 (by decide) ?_
              exact ih (N - (r + 1)) (by omega) (r + 1) _ _ rfl (by omega) (by rw [am1_t (p := (fun j => decide (j ≠ i) && decide (¬ mm_I μ 20 j = 0))) (c := (fun j => di μ j i)) (by simp [c20, c30]) (by rw [← hy]; exact c41)]; rfl) (by rw [am1_t (p := (fun j => decide (j ≠ i) && decide (¬ mm_I μ 20 j = 0))) (c := (fun j => di μ j i)) (by simp [c20, c30]) (by rw [← hy]; exact c41)]; rfl)
  exact lp8 _ 0 _ _ rfl (by omega) rfl rfl
end
section
set_option maxRecDepth 100000 in
set_option maxHeartbeats 4000000 in
theorem ct_X5_bestOnN {E : am_E} {μ : am_M} (hb : Bs μ) {S N : Nat} (ht : Tb μ S N) : am_Ct E yX5_bestOn cX5_bestOn 5 (some .int) rmX5_bestOn [.ref 2, .int (-1)] μ (fun v μ' => v = some (.int (-1)) ∧ μ = μ') := by
  refine am_Ct.of (ls := [some (.ref 2), some (.int (-1)), none, none, none]) (by decide) (Nat.le_of_ble_eq_true rfl) rfl (fun C fx hnm => ?_)
  have hS := ht.s
  have hN := ht.n
  refine am_iconst (v := (-1)) fx dX5_bestOn_0 (by decide) ?_
  refine am_istore_n fx dX5_bestOn_1 (by decide) rfl ?_
  refine am_ldc fx dX5_bestOn_2 kdX5_56 ?_
  refine am_istore_n fx dX5_bestOn_4 (by decide) rfl ?_
  refine am_iconst (v := 0) fx dX5_bestOn_5 (by decide) ?_
  refine am_istore fx dX5_bestOn_6 (by decide) rfl ?_
  refine am_iload fx dX5_bestOn_8 rfl ?_
  refine am_aload_n fx dX5_bestOn_10 rfl ?_
  refine am_getI fx dX5_bestOn_11 fkX5_27 (by decide) (by decide) rfl (so5 hb) ht.1 ?_
  refine am_icmp_ge fx 66 dX5_bestOn_14 (by decide) (fun c14 => ?_) (fun c14 => ?_)
  · try simp (disch := omega) only [bz_0, Classical.not_not, Int32.not_le, Int32.not_lt, Nat.not_le, Nat.not_lt, nI_leI, nI_ltI, nI_eq, nI_le0, nI_lt0] at c14
    refine am_iload_n fx dX5_bestOn_66 rfl ?_
    exact am_iret fx dX5_bestOn_67 ⟨rfl, rfl⟩
  · try simp (disch := omega) only [bz_0, Classical.not_not, Int32.not_le, Int32.not_lt, Nat.not_le, Nat.not_lt, nI_leI, nI_ltI, nI_eq, nI_le0, nI_lt0] at c14
    refine am_aload_n fx dX5_bestOn_17 rfl ?_
    refine am_iload_n fx dX5_bestOn_18 rfl ?_
    refine am_callV fx dX5_bestOn_19 mkX5_40 (ct_X5_hasInstance hb ht _) (so5 hb) ⟨by decide, rfl⟩ rfl (Nat.le_of_ble_eq_true rfl) ⟨by decide, by decide⟩ ⟨Nat.le_of_ble_eq_true rfl, Nat.le_of_ble_eq_true rfl⟩ rfl ?_
    rintro _ _ ⟨rfl, rfl⟩
    refine am_if_eq fx 66 dX5_bestOn_22 (by decide) (fun c22 => ?_) (fun c22 => ?_)
    · try simp (disch := omega) only [bz_0, Classical.not_not, Int32.not_le, Int32.not_lt, Nat.not_le, Nat.not_lt, nI_leI, nI_ltI, nI_eq, nI_le0, nI_lt0] at c22
      refine am_iload_n fx dX5_bestOn_66 rfl ?_
      exact am_iret fx dX5_bestOn_67 ⟨rfl, rfl⟩
    · try simp (disch := omega) only [bz_0, Classical.not_not, Int32.not_le, Int32.not_lt, Nat.not_le, Nat.not_lt, nI_leI, nI_ltI, nI_eq, nI_le0, nI_lt0] at c22
      exact absurd c22.1 (by decide)
/-- how many of the first k are so; an array that holds their numbers -/
def cnt (b : Nat → Bool) : Nat → Nat
  | 0 => 0
  | k + 1 => cnt b k + (if b k = true then 1 else 0)
def fil (b : Nat → Bool) (g : Nat → Int32) : Nat → Nat → Int32
  | 0 => g
  | k + 1 => if b k = true then upd (fil b g k) (cnt b k) (nI k) else fil b g k
theorem cnt_le (b : Nat → Bool) : ∀ k, cnt b k ≤ k
  | 0 => Nat.le_refl _
  | k + 1 => by
    have := cnt_le b k
    simp only [cnt]
    split <;> omega
theorem cnt_mono (b : Nat → Bool) {i n : Nat} (h : i ≤ n) : cnt b i ≤ cnt b n := by
  induction n with
  | zero => rw [show i = 0 by omega]; exact Nat.le_refl _
  | succ n ih =>
    rcases Nat.lt_or_ge i (n + 1) with q | q
    · have := ih (by omega)
      simp only [cnt]
      omega
    · rw [show i = n + 1 by omega]; exact Nat.le_refl _
theorem cnt_congr {b b' : Nat → Bool} : ∀ {k : Nat}, (∀ j, j < k → b j = b' j) → cnt b k = cnt b' k
  | 0, _ => rfl
  | k + 1, h => by simp only [cnt]; rw [cnt_congr (k := k) (fun j hj => h j (by omega)), h k (by omega)]
theorem fil_stop (b : Nat → Bool) (g : Nat → Int32) {i n : Nat} (h : i ≤ n) (hc : cnt b n ≤ cnt b i) : fil b g n = fil b g i := by
  induction n with
  | zero => rw [show i = 0 by omega]
  | succ n ih =>
    rcases Nat.lt_or_ge i (n + 1) with q | q
    · have h1 := cnt_mono b (show i ≤ n by omega)
      have h2 : ¬ b n = true := by
        intro hb
        simp only [cnt, if_pos hb] at hc
        omega
      simp only [fil, if_neg h2]
      exact ih (by omega) (by simp only [cnt, if_neg h2] at hc; omega)
    · rw [show i = n + 1 by omega]
theorem fil_in (b : Nat → Bool) (g : Nat → Int32) : ∀ (n j : Nat), j < cnt b n → ∃ i, i < n ∧ b i = true ∧ fil b g n j = nI i ∧ cnt b i = j
  | 0, j, h => by simp [cnt] at h
  | n + 1, j, h => by
    simp only [cnt] at h
    by_cases hb : b n = true
    · simp only [if_pos hb] at h
      simp only [fil, if_pos hb, upd]
      by_cases hj : j = cnt b n
      · exact ⟨n, by omega, hb, by simp [hj], hj.symm⟩
      · obtain ⟨i, h1, h2, h3, h4⟩ := fil_in b g n j (by omega)
        exact ⟨i, by omega, h2, by rw [if_neg hj]; exact h3, h4⟩
    · simp only [if_neg hb] at h
      simp only [fil, if_neg hb]
      obtain ⟨i, h1, h2, h3, h4⟩ := fil_in b g n j (by omega)
      exact ⟨i, by omega, h2, h3, h4⟩
theorem fil_any (b b' : Nat → Bool) (g g' : Nat → Int32) : ∀ (n j : Nat), (∀ i, i < n → b i = b' i) → j < cnt b n → fil b g n j = fil b' g' n j
  | 0, j, _, h => by simp [cnt] at h
  | n + 1, j, hb', h => by
    have e := cnt_congr (k := n) (fun j hj => hb' j (by omega))
    simp only [cnt] at h
    simp only [fil, ← hb' n (by omega), ← e]
    by_cases hb : b n = true
    · simp only [if_pos hb] at h ⊢
      simp only [upd]
      by_cases hj : j = cnt b n
      · simp [hj]
      · rw [if_neg hj, if_neg hj]
        exact fil_any b b' g g' n j (fun i hi => hb' i (by omega)) (by omega)
    · simp only [if_neg hb] at h ⊢
      exact fil_any b b' g g' n j (fun i hi => hb' i (by omega)) (by omega)
theorem Bs.nw {μ : am_M} (hb : Bs μ) (kd len : Nat) : Bs (mm_nw μ kd len) := by
  have hz := hb.z
  have e : ∀ n k r, mm_R μ n k = some r → n < 57 → mm_R (mm_nw μ kd len) n k = some r := fun n k r h hn => by rw [mR_nw, if_neg (by omega)]; exact h
  have hl : ∀ r ∈ bs_ref, r.1 < 57 := by decide
  refine ⟨fun n h0 h1 => by rw [mS_nw, if_neg (by omega)]; exact hb.1 n h0 h1, fun r hr => e _ _ _ (hb.2.1 r hr) (hl r hr), fun j hj => e _ _ _ (hb.2.2.1 j hj) (by decide), fun j hj => e _ _ _ (hb.2.2.2.1 j hj) (by decide), fun j hj => e _ _ _ (hb.2.2.2.2.1 j hj) (by decide), by rw [mZ_nw]; omega⟩
abbrev lrn (μ : am_M) : Nat → Bool := fun k => decide (¬ mm_I μ 20 k = 0)
set_option maxRecDepth 100000 in
set_option maxHeartbeats 4000000 in
theorem ct_X5_learningOnes {E : am_E} {μ : am_M} (hb : Bs μ) {S N : Nat} (ht : Tb μ S N) : am_Ct E yX5_learningOnes cX5_learningOnes 5 (some (.array .int)) rmX5_learningOnes [.ref 2] μ (fun v μ' => v = some (.ref (mm_Z μ)) ∧ μ' = mm_fI (mm_nw μ 8 (cnt (lrn μ) N)) (mm_Z μ) (fil (lrn μ) (fun _ => 0) N)) := by
  refine am_Ct.of (ls := [some (.ref 2), none, none, none, none]) (by decide) (Nat.le_of_ble_eq_true rfl) rfl (fun C fx hnm => ?_)
  have hS := ht.s
  have hN := ht.n
  have hz := hb.z
  have hL := cnt_le (lrn μ) N
  refine am_iconst (v := 0) fx dX5_learningOnes_0 (by decide) ?_
  refine am_istore_n fx dX5_learningOnes_1 (by decide) rfl ?_
  refine am_iconst (v := 0) fx dX5_learningOnes_2 (by decide) ?_
  refine am_istore_n fx dX5_learningOnes_3 (by decide) rfl ?_
  have lp4 : ∀ (mz : Nat) (r : Nat) (x : Int32), N - r = mz → r ≤ N → x = nI (cnt (lrn μ) r) → am_W E C (am_MQ E C (fun v μ' => v = some (.ref (mm_Z μ)) ∧ μ' = mm_fI (mm_nw μ 8 (cnt (lrn μ) N)) (mm_Z μ) (fil (lrn μ) (fun _ => 0) N)) (rmX5_learningOnes).cells (rmX5_learningOnes).slots) μ 0 0 4 [some (.ref 2), some (.int x), some (.int (nI r)), none, none] [] := by
    intro mz
    induction mz using Nat.strongRecOn with
    | ind mz ih =>
      intro r x hn hr hx
      refine am_iload_n fx dX5_learningOnes_4 rfl ?_
      refine am_aload_n fx dX5_learningOnes_5 rfl ?_
      refine am_getI fx dX5_learningOnes_6 fkX5_31 (by decide) (by decide) rfl (so5 hb) ht.2.1 ?_
      refine am_icmp_ge fx 30 dX5_learningOnes_9 (by decide) (fun c9 => ?_) (fun c9 => ?_)
      · try simp (disch := omega) only [bz_0, Classical.not_not, Int32.not_le, Int32.not_lt, Nat.not_le, Nat.not_lt, nI_leI, nI_ltI, nI_eq, nI_le0, nI_lt0] at c9
        refine am_iload_n fx dX5_learningOnes_30 rfl ?_
        have er : N = r := by omega
        subst er
        subst hx
        refine am_newarr fx dX5_learningOnes_31 (Or.inl ⟨rfl, rfl⟩) kw_aint rfl (by omega) (by decide) (show 0 + cnt (lrn μ) N ≤ 24 by omega) ?_
        refine am_astore_n fx dX5_learningOnes_33 (by decide) rfl ?_
        refine am_iconst (v := 0) fx dX5_learningOnes_34 (by decide) ?_
        refine am_istore_n fx dX5_learningOnes_35 (by decide) rfl ?_
        refine am_iconst (v := 0) fx dX5_learningOnes_36 (by decide) ?_
        refine am_istore fx dX5_learningOnes_37 (by decide) rfl ?_
        have lp39 : ∀ (mz : Nat) (i : Nat), N - i = mz → i ≤ N → am_W E C (am_MQ E C (fun v μ' => v = some (.ref (mm_Z μ)) ∧ μ' = mm_fI (mm_nw μ 8 (cnt (lrn μ) N)) (mm_Z μ) (fil (lrn μ) (fun _ => 0) N)) (rmX5_learningOnes).cells (rmX5_learningOnes).slots) (mm_fI (mm_nw μ 8 (cnt (lrn μ) N)) (mm_Z μ) (fil (lrn μ) (fun _ => 0) i)) (0 + 1) (0 + cnt (lrn μ) N) 39 [some (.ref 2), some (.int (nI (cnt (lrn μ) N))), some (.ref (mm_Z μ)), some (.int (nI (cnt (lrn μ) i))), some (.int (nI i))] [] := by
          intro mz
          induction mz using Nat.strongRecOn with
          | ind mz ih =>
            intro i hn1 hi
            have hm := cnt_mono (lrn μ) hi
            have hb2 : Bs (mm_fI (mm_nw μ 8 (cnt (lrn μ) N)) (mm_Z μ) (fil (lrn μ) (fun _ => 0) i)) := (hb.nw _ _).fr (Fr.fI _ _ _)
            have e5 : mm_I (mm_fI (mm_nw μ 8 (cnt (lrn μ) N)) (mm_Z μ) (fil (lrn μ) (fun _ => 0) i)) 2 5 = nI N := by rw [mI_fIn (by omega), mI_nw, if_neg (by omega)]; exact ht.2.1
            have eS : mm_S (mm_fI (mm_nw μ 8 (cnt (lrn μ) N)) (mm_Z μ) (fil (lrn μ) (fun _ => 0) i)) (mm_Z μ) = (8, cnt (lrn μ) N) := (mS_nw μ 8 _ (mm_Z μ)).trans (if_pos rfl)
            have e20 : ∀ k, mm_I (mm_fI (mm_nw μ 8 (cnt (lrn μ) N)) (mm_Z μ) (fil (lrn μ) (fun _ => 0) i)) 20 k = mm_I μ 20 k := fun k => by rw [mI_fIn (by omega), mI_nw, if_neg (by omega)]
            refine am_iload fx dX5_learningOnes_39 rfl ?_
            refine am_aload_n fx dX5_learningOnes_41 rfl ?_
            refine am_getI fx dX5_learningOnes_42 fkX5_31 (by decide) (by decide) rfl (so5 hb2) e5 ?_
            refine am_icmp_ge fx 77 dX5_learningOnes_45 (by decide) (fun c45 => ?_) (fun c45 => ?_)
            · try simp (disch := omega) only [bz_0, Classical.not_not, Int32.not_le, Int32.not_lt, Nat.not_le, Nat.not_lt, nI_leI, nI_ltI, nI_eq, nI_le0, nI_lt0] at c45
              refine am_aload_n fx dX5_learningOnes_77 rfl ?_
              refine am_widen (k := (rmX5_learningOnes).cells) (n := (rmX5_learningOnes).slots) (by decide) (show 0 + cnt (lrn μ) N ≤ 24 by omega) ?_
              exact am_aret fx dX5_learningOnes_78 ⟨rfl, by rw [show i = N by omega]⟩
            · try simp (disch := omega) only [bz_0, Classical.not_not, Int32.not_le, Int32.not_lt, Nat.not_le, Nat.not_lt, nI_leI, nI_ltI, nI_eq, nI_le0, nI_lt0] at c45
              refine am_iload_n fx dX5_learningOnes_48 rfl ?_
              refine am_iload_n fx dX5_learningOnes_49 rfl ?_
              refine am_icmp_ge fx 77 dX5_learningOnes_50 (by decide) (fun c50 => ?_) (fun c50 => ?_)
              · try simp (disch := omega) only [bz_0, Classical.not_not, Int32.not_le, Int32.not_lt, Nat.not_le, Nat.not_lt, nI_leI, nI_ltI, nI_eq, nI_le0, nI_lt0] at c50
                refine am_aload_n fx dX5_learningOnes_77 rfl ?_
                refine am_widen (k := (rmX5_learningOnes).cells) (n := (rmX5_learningOnes).slots) (by decide) (show 0 + cnt (lrn μ) N ≤ 24 by omega) ?_
                exact am_aret fx dX5_learningOnes_78 ⟨rfl, by rw [fil_stop (lrn μ) _ hi (by omega)]⟩
              · try simp (disch := omega) only [bz_0, Classical.not_not, Int32.not_le, Int32.not_lt, Nat.not_le, Nat.not_lt, nI_leI, nI_ltI, nI_eq, nI_le0, nI_lt0] at c50
                refine am_aload_n fx dX5_learningOnes_53 rfl ?_
                refine am_getR fx dX5_learningOnes_54 fkX5_23 (by decide) (by decide) rfl (so5 hb2) (rf5_3 hb2) ?_
                refine am_iload fx dX5_learningOnes_57 rfl ?_
                refine am_zald  fx dX5_learningOnes_59 (sa5_3 hb2) rfl (by omega) (by decide) (e20 i) ?_
                refine am_if_eq fx 71 dX5_learningOnes_60 (by decide) (fun c60 => ?_) (fun c60 => ?_)
                · try simp (disch := omega) only [bz_0, Classical.not_not, Int32.not_le, Int32.not_lt, Nat.not_le, Nat.not_lt, nI_leI, nI_ltI, nI_eq, nI_le0, nI_lt0] at c60
                  have ec : cnt (lrn μ) (i + 1) = cnt (lrn μ) i := by simp only [cnt]; rw [if_neg (by simp [lrn, c60])]; rfl
                  first | refine am_iinc fx dX5_learningOnes_71 rfl (nI_inc _) (by decide) rfl ?_ | refine am_iinc fx dX5_learningOnes_71 rfl rfl (by decide) rfl ?_
                  refine am_goto fx 39 dX5_learningOnes_74 (by decide) ?_
                  exact am_mem (show _ = mm_fI (mm_nw μ 8 (cnt (lrn μ) N)) (mm_Z μ) (fil (lrn μ) (fun _ => 0) (i + 1)) by simp only [fil]; rw [if_neg (by simp [lrn, c60])]) (ec ▸ ih (N - (i + 1)) (by omega) (i + 1) rfl (by omega))
                · try simp (disch := omega) only [bz_0, Classical.not_not, Int32.not_le, Int32.not_lt, Nat.not_le, Nat.not_lt, nI_leI, nI_ltI, nI_eq, nI_le0, nI_lt0] at c60
                  have ec : cnt (lrn μ) (i + 1) = cnt (lrn μ) i + 1 := by simp only [cnt]; rw [if_pos (by simp [lrn, c60])]
                  refine am_aload_n fx dX5_learningOnes_63 rfl ?_
                  refine am_iload_n fx dX5_learningOnes_64 rfl ?_
                  refine am_iload fx dX5_learningOnes_65 rfl ?_
                  refine am_iast  fx dX5_learningOnes_67 eS rfl (by omega) (by omega) ?_
                  first | refine am_iinc fx dX5_learningOnes_68 rfl (nI_inc _) (by decide) rfl ?_ | refine am_iinc fx dX5_learningOnes_68 rfl rfl (by decide) rfl ?_
                  first | refine am_iinc fx dX5_learningOnes_71 rfl (nI_inc _) (by decide) rfl ?_ | refine am_iinc fx dX5_learningOnes_71 rfl rfl (by decide) rfl ?_
                  refine am_goto fx 39 dX5_learningOnes_74 (by decide) ?_
                  exact am_mem (show _ = mm_fI (mm_nw μ 8 (cnt (lrn μ) N)) (mm_Z μ) (fil (lrn μ) (fun _ => 0) (i + 1)) by simp only [fil]; rw [if_pos (by simp [lrn, c60]), sI_fI]) (ec ▸ ih (N - (i + 1)) (by omega) (i + 1) rfl (by omega))
        refine am_mem (show _ = mm_fI (mm_nw μ 8 (cnt (lrn μ) N)) (mm_Z μ) (fil (lrn μ) (fun _ => 0) 0) from ?_) ?_
        · exact am_ext rfl (fun a k => by rw [mI_fI, mI_nw]; by_cases h : a = mm_Z μ <;> simp [h, fil]) (fun _ _ => rfl) rfl rfl
        exact lp39 _ 0 rfl (by omega)
      · try simp (disch := omega) only [bz_0, Classical.not_not, Int32.not_le, Int32.not_lt, Nat.not_le, Nat.not_lt, nI_leI, nI_ltI, nI_eq, nI_le0, nI_lt0] at c9
        refine am_aload_n fx dX5_learningOnes_12 rfl ?_
        refine am_getR fx dX5_learningOnes_13 fkX5_23 (by decide) (by decide) rfl (so5 hb) (rf5_3 hb) ?_
        refine am_iload_n fx dX5_learningOnes_16 rfl ?_
        refine am_zald  fx dX5_learningOnes_17 (sa5_3 hb) rfl (by omega) (by decide) rfl ?_
        refine am_if_eq fx 24 dX5_learningOnes_18 (by decide) (fun c18 => ?_) (fun c18 => ?_)
        · try simp (disch := omega) only [bz_0, Classical.not_not, Int32.not_le, Int32.not_lt, Nat.not_le, Nat.not_lt, nI_leI, nI_ltI, nI_eq, nI_le0, nI_lt0] at c18
          first | refine am_iinc fx dX5_learningOnes_24 rfl (nI_inc _) (by decide) rfl ?_ | refine am_iinc fx dX5_learningOnes_24 rfl rfl (by decide) rfl ?_
          refine am_goto fx 4 dX5_learningOnes_27 (by decide) ?_
          exact ih (N - (r + 1)) (by omega) (r + 1) _ rfl (by omega) (by rw [hx, cnt, if_neg (by simp [lrn, c18])]; rfl)
        · try simp (disch := omega) only [bz_0, Classical.not_not, Int32.not_le, Int32.not_lt, Nat.not_le, Nat.not_lt, nI_leI, nI_ltI, nI_eq, nI_le0, nI_lt0] at c18
          first | refine am_iinc fx dX5_learningOnes_21 rfl (nI_inc _) (by decide) rfl ?_ | refine am_iinc fx dX5_learningOnes_21 rfl rfl (by decide) rfl ?_
          first | refine am_iinc fx dX5_learningOnes_24 rfl (nI_inc _) (by decide) rfl ?_ | refine am_iinc fx dX5_learningOnes_24 rfl rfl (by decide) rfl ?_
          refine am_goto fx 4 dX5_learningOnes_27 (by decide) ?_
          exact ih (N - (r + 1)) (by omega) (r + 1) _ rfl (by omega) (by rw [hx, cnt, if_pos (by simp [lrn, c18])]; exact nI_inc _)
  exact lp4 _ 0 _ rfl (by omega) rfl
end
section
/-! odds: the pure side -/
def wte (g : Nat → Int32) (j k : Nat) : Nat := if g j < g k then 2 else if j ≠ k ∧ g j = g k then 1 else 0
def wts (g : Nat → Int32) (k : Nat) : Nat → Nat
  | 0 => 0
  | n + 1 => wts g k n + wte g n k
def wtN (g : Nat → Int32) (n k : Nat) : Nat := 2 + wts g k n
theorem i32_tri (a b : Int32) : a < b ∨ a = b ∨ b < a := by
  rcases Int.lt_trichotomy a.toInt b.toInt with h | h | h
  · exact Or.inl (Int32.lt_iff_toInt_lt.mpr h)
  · exact Or.inr (Or.inl (Int32.toInt_inj.mp h))
  · exact Or.inr (Or.inr (Int32.lt_iff_toInt_lt.mpr h))
theorem wte_sym (g : Nat → Int32) {j k : Nat} (h : j ≠ k) : wte g j k + wte g k j = 2 := by
  unfold wte
  rcases i32_tri (g j) (g k) with q | q | q
  · rw [if_pos q, if_neg (Int32.not_lt.mpr (Int32.le_of_lt q)), if_neg (fun z => absurd z.2.symm (Int32.ne_of_lt q))]
  · simp [q, h, Ne.symm h, Int32.lt_irrefl]
  · rw [if_neg (Int32.not_lt.mpr (Int32.le_of_lt q)), if_neg (fun z => absurd z.2.symm (Int32.ne_of_lt q)), if_pos q]
theorem wte_self (g : Nat → Int32) (k : Nat) : wte g k k = 0 := by
  unfold wte
  rw [if_neg (Int32.lt_irrefl), if_neg (fun z => z.1 rfl)]
def wtT (g : Nat → Int32) (n : Nat) : Nat → Nat
  | 0 => 0
  | k + 1 => wtT g n k + wts g k n
theorem wtT_grow (g : Nat → Int32) (n : Nat) : ∀ k, k ≤ n → wtT g (n + 1) k + wts g n k = wtT g n k + 2 * k
  | 0, _ => rfl
  | k + 1, h => by
    have ih := wtT_grow g n k (by omega)
    have hs := wte_sym g (show n ≠ k by omega)
    simp only [wtT, wts] at *
    omega
theorem wtT_all (g : Nat → Int32) : ∀ n, wtT g n n + n = n * n
  | 0 => rfl
  | n + 1 => by
    have h1 := wtT_grow g n n (Nat.le_refl n)
    have h2 := wtT_all g n
    have h3 := wte_self g n
    have e : (n + 1) * (n + 1) = n * n + 2 * n + 1 := by rw [Nat.add_mul, Nat.mul_add]; omega
    rw [e]
    simp only [wtT, wts, h3]
    omega
def odw (kd : Int32) (g : Nat → Int32) (n k : Nat) : Nat := if kd = 0 then 1 else wtN g n k
def mst (kd : Int32) (g : Nat → Int32) (n : Nat) : Nat → Nat
  | 0 => 0
  | k + 1 => mst kd g n k + odw kd g n k
def rch (kd : Int32) (g f : Nat → Int32) (n : Nat) : Nat → Nat
  | 0 => 0
  | k + 1 => rch kd g f n k + (if f k = 0 then 0 else odw kd g n k)
theorem rch_le (kd : Int32) (g f : Nat → Int32) (n : Nat) : ∀ k, rch kd g f n k ≤ mst kd g n k
  | 0 => Nat.le_refl _
  | k + 1 => by
    have := rch_le kd g f n k
    simp only [rch, mst]
    split <;> omega
theorem mst_mono (kd : Int32) (g : Nat → Int32) (n : Nat) {i k : Nat} (h : i ≤ k) : mst kd g n i ≤ mst kd g n k := by
  induction k with
  | zero => rw [show i = 0 by omega]; exact Nat.le_refl _
  | succ k ih =>
    rcases Nat.lt_or_ge i (k + 1) with q | q
    · have := ih (by omega)
      simp only [mst]
      omega
    · rw [show i = k + 1 by omega]; exact Nat.le_refl _
theorem mst_eq1 (kd : Int32) (h : ¬ kd = 0) (g : Nat → Int32) (n : Nat) : ∀ k, mst kd g n k = 2 * k + wtT g n k
  | 0 => rfl
  | k + 1 => by
    have := mst_eq1 kd h g n k
    simp only [mst, wtT, odw, if_neg h, wtN]
    omega
theorem mst_eq0 (kd : Int32) (h : kd = 0) (g : Nat → Int32) (n : Nat) : ∀ k, mst kd g n k = k
  | 0 => rfl
  | k + 1 => by
    have := mst_eq0 kd h g n k
    simp only [mst, odw, if_pos h]
    omega
theorem mst_top (kd : Int32) (g : Nat → Int32) {n k : Nat} (hk : k ≤ n) (hn : n ≤ 24) : mst kd g n k ≤ 600 := by
  refine Nat.le_trans (mst_mono kd g n hk) ?_
  by_cases h : kd = 0
  · rw [mst_eq0 kd h]; omega
  · rw [mst_eq1 kd h]
    have h1 := wtT_all g n
    have h2 : n * n ≤ 24 * n := Nat.mul_le_mul_right n hn
    omega
theorem odw_pos (kd : Int32) (g : Nat → Int32) (n k : Nat) : 1 ≤ odw kd g n k := by
  unfold odw wtN
  split <;> omega
def asg (h : Nat → Int64) (w m : Nat) : Nat → Int64 := fun s => if w ≤ s ∧ s ≤ m then h s + h (s - w) else h s
/-- .. down to s, which isn't done yet -/
def asgP (h : Nat → Int64) (w m s : Nat) : Nat → Int64 := fun t => if s < t ∧ w ≤ t ∧ t ≤ m then h t + h (t - w) else h t
def wy (kd : Int32) (g : Nat → Int32) (n : Nat) : Nat → Nat → Int64
  | 0 => fun s => if s = 0 then 1 else 0
  | k + 1 => asg (wy kd g n k) (odw kd g n k) (mst kd g n (k + 1))
def pw : Nat → Int64
  | 0 => 1
  | k + 1 => pw k * 2
/-- the sum of h over lo, lo + 1 .. lo + d - 1 -/
def smL (h : Nat → Int64) (lo : Nat) : Nat → Int64
  | 0 => 0
  | d + 1 => smL h lo d + h (lo + d)
def upN (kd : Int32) (g f : Nat → Int32) (n : Nat) : Int64 := smL (wy kd g n n) (rch kd g f n n) (mst kd g n n + 1 - rch kd g f n n)
theorem smL_congr {h h' : Nat → Int64} {lo : Nat} : ∀ {d : Nat}, (∀ t, t < d → h (lo + t) = h' (lo + t)) → smL h lo d = smL h' lo d
  | 0, _ => rfl
  | d + 1, q => by simp only [smL]; rw [smL_congr (d := d) (fun t ht => q t (by omega)), q d (by omega)]
/-! the counter's longs: ways, lower, upper -/
def mo (μ : am_M) (h : Nat → Int64) (lo up : Int64) : am_M := (μ.1, μ.2.1, fun a k => if a = 24 then h k else if a = 21 ∧ k = 5 then lo else if a = 21 ∧ k = 4 then up else μ.2.2.1 a k, μ.2.2.2.1, μ.2.2.2.2)
theorem mo_self (μ : am_M) : mo μ (mm_L μ 24) (mm_L μ 21 5) (mm_L μ 21 4) = μ := am_ext rfl (fun _ _ => rfl) (fun a k => by
  show (if a = 24 then mm_L μ 24 k else if a = 21 ∧ k = 5 then mm_L μ 21 5 else if a = 21 ∧ k = 4 then mm_L μ 21 4 else mm_L μ a k) = mm_L μ a k
  repeat' split
  all_goals simp_all) rfl rfl
theorem mL_mo (μ : am_M) (h : Nat → Int64) (lo up : Int64) (a k : Nat) : mm_L (mo μ h lo up) a k = if a = 24 then h k else if a = 21 ∧ k = 5 then lo else if a = 21 ∧ k = 4 then up else mm_L μ a k := rfl
theorem mI_mo (μ : am_M) (h : Nat → Int64) (lo up : Int64) : mm_I (mo μ h lo up) = mm_I μ := rfl
theorem Fr.mo (μ : am_M) (h : Nat → Int64) (lo up : Int64) : Fr μ (mo μ h lo up) := ⟨rfl, rfl, rfl⟩
theorem mo_fL (μ : am_M) (h h' : Nat → Int64) (lo up : Int64) : mm_fL (mo μ h lo up) 24 h' = mo μ h' lo up := am_ext rfl (fun _ _ => rfl) (fun a k => by
  simp only [mL_fL, mL_mo]; repeat' split
  all_goals simp_all) rfl rfl
theorem mo_s24 (μ : am_M) (h : Nat → Int64) (lo up v : Int64) (j : Nat) : mm_sL (mo μ h lo up) 24 j v = mo μ (vp_updL h j v) lo up := am_ext rfl (fun _ _ => rfl) (fun a k => by
  simp only [mL_sL, mL_mo, vp_updL]; repeat' split
  all_goals simp_all) rfl rfl
theorem mo_s5 (μ : am_M) (h : Nat → Int64) (lo up v : Int64) : mm_sL (mo μ h lo up) 21 5 v = mo μ h v up := am_ext rfl (fun _ _ => rfl) (fun a k => by
  simp only [mL_sL, mL_mo]; repeat' split
  all_goals simp_all) rfl rfl
theorem mo_s4 (μ : am_M) (h : Nat → Int64) (lo up v : Int64) : mm_sL (mo μ h lo up) 21 4 v = mo μ h lo v := am_ext rfl (fun _ _ => rfl) (fun a k => by
  simp only [mL_sL, mL_mo]; repeat' split
  all_goals simp_all) rfl rfl
set_option maxRecDepth 100000 in
set_option maxHeartbeats 4000000 in
theorem ct_X0_clear {E : am_E} {μ : am_M} (hb : Bs μ) : am_Ct E yX0_clear cX0_clear 1 none rmX0_clear [.ref 21] μ (fun v μ' => v = none ∧ μ' = mm_sI μ 21 3 0) := by
  refine am_Ct.of (ls := [some (.ref 21)]) (by decide) (Nat.le_of_ble_eq_true rfl) rfl (fun C fx hnm => ?_)
  refine am_aload_n fx dX0_clear_0 rfl ?_
  refine am_iconst (v := 0) fx dX0_clear_1 (by decide) ?_
  refine am_putI fx dX0_clear_2 fkX0_23 (by decide) (by decide) rfl rfl (so0 hb) ?_
  exact am_vret fx dX0_clear_5 ⟨rfl, rfl⟩
set_option maxRecDepth 100000 in
set_option maxHeartbeats 4000000 in
theorem ct_X0_weightOf {E : am_E} {μ : am_M} (hb : Bs μ) {n : Nat} (hn : mm_I μ 21 3 = nI n) (h24 : n ≤ 24) (k : Nat) (hk : k < n) : am_Ct E yX0_weightOf cX0_weightOf 4 (some .int) rmX0_weightOf [.ref 21, .int (nI k)] μ (fun v μ' => v = some (.int (nI (wtN (mm_I μ 22) n k))) ∧ μ = μ') := by
  refine am_Ct.of (ls := [some (.ref 21), some (.int (nI k)), none, none]) (by decide) (Nat.le_of_ble_eq_true rfl) rfl (fun C fx hnm => ?_)
  refine am_iconst (v := 2) fx dX0_weightOf_0 (by decide) ?_
  refine am_istore_n fx dX0_weightOf_1 (by decide) rfl ?_
  refine am_iconst (v := 0) fx dX0_weightOf_2 (by decide) ?_
  refine am_istore_n fx dX0_weightOf_3 (by decide) rfl ?_
  have lp4 : ∀ (mz : Nat) (r : Nat) (x : Int32), n - r = mz → r ≤ n → x = nI (2 + wts (mm_I μ 22) k r) → am_W E C (am_MQ E C (fun v μ' => v = some (.int (nI (wtN (mm_I μ 22) n k))) ∧ μ = μ') (rmX0_weightOf).cells (rmX0_weightOf).slots) μ 0 0 4 [some (.ref 21), some (.int (nI k)), some (.int x), some (.int (nI r))] [] := by
    intro mz
    induction mz using Nat.strongRecOn with
    | ind mz ih =>
      intro r x hm hr hx
      refine am_iload_n fx dX0_weightOf_4 rfl ?_
      refine am_aload_n fx dX0_weightOf_5 rfl ?_
      refine am_getI fx dX0_weightOf_6 fkX0_23 (by decide) (by decide) rfl (so0 hb) hn ?_
      refine am_icmp_ge fx 62 dX0_weightOf_9 (by decide) (fun c9 => ?_) (fun c9 => ?_)
      · try simp (disch := omega) only [bz_0, Classical.not_not, Int32.not_le, Int32.not_lt, Nat.not_le, Nat.not_lt, nI_leI, nI_ltI, nI_eq, nI_le0, nI_lt0] at c9
        refine am_iload_n fx dX0_weightOf_62 rfl ?_
        exact am_iret fx dX0_weightOf_63 ⟨by rw [hx, show r = n by omega]; rfl, rfl⟩
      · try simp (disch := omega) only [bz_0, Classical.not_not, Int32.not_le, Int32.not_lt, Nat.not_le, Nat.not_lt, nI_leI, nI_ltI, nI_eq, nI_le0, nI_lt0] at c9
        refine am_aload_n fx dX0_weightOf_12 rfl ?_
        refine am_getR fx dX0_weightOf_13 fkX0_9 (by decide) (by decide) rfl (so0 hb) (rf0_0 hb) ?_
        refine am_iload_n fx dX0_weightOf_16 rfl ?_
        refine am_iald  fx dX0_weightOf_17 (sa0_0 hb) rfl (by omega) (by decide) rfl ?_
        refine am_aload_n fx dX0_weightOf_18 rfl ?_
        refine am_getR fx dX0_weightOf_19 fkX0_9 (by decide) (by decide) rfl (so0 hb) (rf0_0 hb) ?_
        refine am_iload_n fx dX0_weightOf_22 rfl ?_
        refine am_iald  fx dX0_weightOf_23 (sa0_0 hb) rfl (by omega) (by decide) rfl ?_
        refine am_icmp_ge fx 33 dX0_weightOf_24 (by decide) (fun c24 => ?_) (fun c24 => ?_)
        · try simp (disch := omega) only [bz_0, Classical.not_not, Int32.not_le, Int32.not_lt, Nat.not_le, Nat.not_lt, nI_leI, nI_ltI, nI_eq, nI_le0, nI_lt0] at c24
          refine am_iload_n fx dX0_weightOf_33 rfl ?_
          refine am_iload_n fx dX0_weightOf_34 rfl ?_
          refine am_icmp_eq fx 56 dX0_weightOf_35 (by decide) (fun c35 => ?_) (fun c35 => ?_)
          · try simp (disch := omega) only [bz_0, Classical.not_not, Int32.not_le, Int32.not_lt, Nat.not_le, Nat.not_lt, nI_leI, nI_ltI, nI_eq, nI_le0, nI_lt0] at c35
            first | refine am_iinc fx dX0_weightOf_56 rfl (nI_inc _) (by decide) rfl ?_ | refine am_iinc fx dX0_weightOf_56 rfl rfl (by decide) rfl ?_
            refine am_goto fx 4 dX0_weightOf_59 (by decide) ?_
            exact ih (n - (r + 1)) (by omega) (r + 1) _ rfl (by omega) (by rw [hx]; simp only [wts, wte]; rw [if_neg (Int32.not_lt.mpr c24), if_neg (fun z => z.1 c35)]; rfl)
          · try simp (disch := omega) only [bz_0, Classical.not_not, Int32.not_le, Int32.not_lt, Nat.not_le, Nat.not_lt, nI_leI, nI_ltI, nI_eq, nI_le0, nI_lt0] at c35
            refine am_aload_n fx dX0_weightOf_38 rfl ?_
            refine am_getR fx dX0_weightOf_39 fkX0_9 (by decide) (by decide) rfl (so0 hb) (rf0_0 hb) ?_
            refine am_iload_n fx dX0_weightOf_42 rfl ?_
            refine am_iald  fx dX0_weightOf_43 (sa0_0 hb) rfl (by omega) (by decide) rfl ?_
            refine am_aload_n fx dX0_weightOf_44 rfl ?_
            refine am_getR fx dX0_weightOf_45 fkX0_9 (by decide) (by decide) rfl (so0 hb) (rf0_0 hb) ?_
            refine am_iload_n fx dX0_weightOf_48 rfl ?_
            refine am_iald  fx dX0_weightOf_49 (sa0_0 hb) rfl (by omega) (by decide) rfl ?_
            refine am_icmp_ne fx 56 dX0_weightOf_50 (by decide) (fun c50 => ?_) (fun c50 => ?_)
            · try simp (disch := omega) only [bz_0, Classical.not_not, Int32.not_le, Int32.not_lt, Nat.not_le, Nat.not_lt, nI_leI, nI_ltI, nI_eq, nI_le0, nI_lt0] at c50
              first | refine am_iinc fx dX0_weightOf_56 rfl (nI_inc _) (by decide) rfl ?_ | refine am_iinc fx dX0_weightOf_56 rfl rfl (by decide) rfl ?_
              refine am_goto fx 4 dX0_weightOf_59 (by decide) ?_
              exact ih (n - (r + 1)) (by omega) (r + 1) _ rfl (by omega) (by rw [hx]; simp only [wts, wte]; rw [if_neg (Int32.not_lt.mpr c24), if_neg (fun z => c50 z.2)]; rfl)
            · try simp (disch := omega) only [bz_0, Classical.not_not, Int32.not_le, Int32.not_lt, Nat.not_le, Nat.not_lt, nI_leI, nI_ltI, nI_eq, nI_le0, nI_lt0] at c50
              first | refine am_iinc fx dX0_weightOf_53 rfl (nI_inc _) (by decide) rfl ?_ | refine am_iinc fx dX0_weightOf_53 rfl rfl (by decide) rfl ?_
              first | refine am_iinc fx dX0_weightOf_56 rfl (nI_inc _) (by decide) rfl ?_ | refine am_iinc fx dX0_weightOf_56 rfl rfl (by decide) rfl ?_
              refine am_goto fx 4 dX0_weightOf_59 (by decide) ?_
              exact ih (n - (r + 1)) (by omega) (r + 1) _ rfl (by omega) (by rw [hx]; simp only [wts, wte]; rw [if_neg (Int32.not_lt.mpr c24), if_pos ⟨c35, c50⟩, ← Nat.add_assoc]; exact nI_inc _)
        · try simp (disch := omega) only [bz_0, Classical.not_not, Int32.not_le, Int32.not_lt, Nat.not_le, Nat.not_lt, nI_leI, nI_ltI, nI_eq, nI_le0, nI_lt0] at c24
          first | refine am_iinc fx dX0_weightOf_27 rfl rfl (by decide) rfl ?_ | refine am_iinc fx dX0_weightOf_27 rfl rfl (by decide) rfl ?_
          refine am_goto fx 56 dX0_weightOf_30 (by decide) ?_
          first | refine am_iinc fx dX0_weightOf_56 rfl (nI_inc _) (by decide) rfl ?_ | refine am_iinc fx dX0_weightOf_56 rfl rfl (by decide) rfl ?_
          refine am_goto fx 4 dX0_weightOf_59 (by decide) ?_
          exact ih (n - (r + 1)) (by omega) (r + 1) _ rfl (by omega) (by rw [hx]; simp only [wts, wte]; rw [if_pos c24, ← Nat.add_assoc]; exact nI_add _ 2)
  exact lp4 _ 0 _ rfl (by omega) rfl
theorem asgP_s (h : Nat → Int64) (w m s : Nat) (hw : 1 ≤ w) (hs : w ≤ s) (hm : s ≤ m) : vp_updL (asgP h w m s) s (asgP h w m s s + asgP h w m s (s - w)) = asgP h w m (s - 1) := by
  funext t
  simp only [vp_updL, asgP]
  by_cases ht : t = s
  · subst ht
    rw [if_pos rfl, if_neg (by omega), if_neg (by omega), if_pos ⟨by omega, hs, hm⟩]
  · rw [if_neg ht]
    by_cases h2 : s < t ∧ w ≤ t ∧ t ≤ m
    · rw [if_pos h2, if_pos ⟨by omega, h2.2⟩]
    · rw [if_neg h2, if_neg (by omega)]
theorem asgP_0 (h : Nat → Int64) (w m : Nat) : asgP h w m m = h := by funext t; simp only [asgP]; rw [if_neg (by omega)]
theorem asgP_e (h : Nat → Int64) (w m s : Nat) (hs : s < w) : asgP h w m s = asg h w m := by
  funext t
  simp only [asgP, asg]
  by_cases h2 : w ≤ t ∧ t ≤ m
  · rw [if_pos h2, if_pos ⟨by omega, h2⟩]
  · rw [if_neg h2, if_neg (fun z => h2 z.2)]
set_option maxRecDepth 100000 in
set_option maxHeartbeats 4000000 in
theorem ct_X0_addSign {E : am_E} {μ : am_M} (hb : Bs μ) (w0 m : Nat) (hw : 1 ≤ w0) (hw2 : w0 ≤ 600) (hm : m ≤ 600) : am_Ct E yX0_addSign cX0_addSign 4 none rmX0_addSign [.ref 21, .int (nI w0), .int (nI m)] μ (fun v μ' => v = none ∧ μ' = mm_fL μ 24 (asg (mm_L μ 24) w0 m)) := by
  refine am_Ct.of (ls := [some (.ref 21), some (.int (nI w0)), some (.int (nI m)), none]) (by decide) (Nat.le_of_ble_eq_true rfl) rfl (fun C fx hnm => ?_)
  refine am_iload_n fx dX0_addSign_0 rfl ?_
  refine am_istore_n fx dX0_addSign_1 (by decide) rfl ?_
  have lp2 : ∀ (mz : Nat) (s : Nat), s = mz → s ≤ m → am_W E C (am_MQ E C (fun v μ' => v = none ∧ μ' = mm_fL μ 24 (asg (mm_L μ 24) w0 m)) (rmX0_addSign).cells (rmX0_addSign).slots) (mm_fL μ 24 (asgP (mm_L μ 24) w0 m s)) 0 0 2 [some (.ref 21), some (.int (nI w0)), some (.int (nI m)), some (.int (nI s))] [] := by
    intro mz
    induction mz using Nat.strongRecOn with
    | ind mz ih =>
      intro s hs0 hs
      have e24 : ∀ t, mm_L (mm_fL μ 24 (asgP (mm_L μ 24) w0 m s)) 24 t = asgP (mm_L μ 24) w0 m s t := fun t => mL_fLs _ _ _ _
      refine am_iload_n fx dX0_addSign_2 rfl ?_
      refine am_iload_n fx dX0_addSign_3 rfl ?_
      refine am_icmp_lt fx 30 dX0_addSign_4 (by decide) (fun c4 => ?_) (fun c4 => ?_)
      · try simp (disch := omega) only [bz_0, Classical.not_not, Int32.not_le, Int32.not_lt, Nat.not_le, Nat.not_lt, nI_leI, nI_ltI, nI_eq, nI_le0, nI_lt0] at c4
        exact am_vret fx dX0_addSign_30 ⟨rfl, by rw [asgP_e (mm_L μ 24) w0 m s (by omega)]⟩
      · try simp (disch := omega) only [bz_0, Classical.not_not, Int32.not_le, Int32.not_lt, Nat.not_le, Nat.not_lt, nI_leI, nI_ltI, nI_eq, nI_le0, nI_lt0] at c4
        have hws : w0 ≤ s := by omega
        refine am_aload_n fx dX0_addSign_7 rfl ?_
        refine am_getR fx dX0_addSign_8 fkX0_19 (by decide) (by decide) rfl (so0 hb) (rf0_2 hb) ?_
        refine am_iload_n fx dX0_addSign_11 rfl ?_
        refine am_dup2 fx dX0_addSign_12 ?_
        refine am_lald  fx dX0_addSign_13 (sa0_2 hb) rfl (by omega) (by decide) (e24 s) ?_
        refine am_aload_n fx dX0_addSign_14 rfl ?_
        refine am_getR fx dX0_addSign_15 fkX0_19 (by decide) (by decide) rfl (so0 hb) (rf0_2 hb) ?_
        refine am_iload_n fx dX0_addSign_18 rfl ?_
        refine am_iload_n fx dX0_addSign_19 rfl ?_
        refine am_isub fx dX0_addSign_20 ?_
        refine am_topi (pk_sub hws) ?_
        refine am_lald  fx dX0_addSign_21 (sa0_2 hb) rfl (by omega) (by decide) (e24 (s - w0)) ?_
        refine am_ladd fx dX0_addSign_22 ?_
        refine am_last  fx dX0_addSign_23 (sa0_2 hb) rfl (by omega) (by decide) ?_
        first | refine am_iinc fx dX0_addSign_24 rfl (nI_dec (by omega)) (by decide) rfl ?_ | refine am_iinc fx dX0_addSign_24 rfl rfl (by decide) rfl ?_
        refine am_goto fx 2 dX0_addSign_27 (by decide) ?_
        exact am_mem (by rw [sL_fL, asgP_s (mm_L μ 24) w0 m s hw (by omega) (by omega)]) (ih (s - 1) (by omega) (s - 1) rfl (by omega))
  refine am_mem (show μ = mm_fL μ 24 (asgP (mm_L μ 24) w0 m m) by rw [asgP_0, fL_self]) ?_
  rw [show (0 : Nat) + 1 + 1 = 2 from rfl]
  exact lp2 _ m rfl (by omega)
theorem smL_0 (h : Nat → Int64) (lo : Nat) : smL h lo 0 = 0 := rfl
theorem asg_in {h h' : Nat → Int64} {w m : Nat} (q : ∀ t, t < 601 → h t = h' t) : ∀ t, t < 601 → asg h w m t = asg h' w m t := fun t ht => by
  simp only [asg]
  rw [q t ht, q (t - w) (by omega)]
set_option maxRecDepth 100000 in
set_option maxHeartbeats 4000000 in
theorem ct_X0_count {E : am_E} {μ : am_M} (hb : Bs μ) {n : Nat} (hn : mm_I μ 21 3 = nI n) (h24 : n ≤ 24) (kd : Int32) : am_Ct E yX0_count cX0_count 6 none rmX0_count [.ref 21, .int kd] μ (fun v μ' => v = none ∧ ∃ h, μ' = mo μ h (pw n) (upN kd (mm_I μ 22) (mm_I μ 23) n)) := by
  refine am_Ct.of (ls := [some (.ref 21), some (.int kd), none, none, none, none]) (by decide) (Nat.le_of_ble_eq_true rfl) rfl (fun C fx hnm => ?_)
  have hfl : ∀ g : Nat → Int32, True := fun _ => trivial
  refine am_aload_n fx dX0_count_0 rfl ?_
  refine am_getR fx dX0_count_1 fkX0_19 (by decide) (by decide) rfl (so0 hb) (rf0_2 hb) ?_
  refine am_lconst (v := 0) fx dX0_count_4 (by decide) ?_
  refine am_callS fx dX0_count_5 mkX0_40 (ct_J7_fill_d0a16 (sa0_2 hb) (by decide) _) rfl (Nat.le_of_ble_eq_true rfl) ⟨by decide, by decide⟩ ⟨Nat.le_of_ble_eq_true rfl, Nat.le_of_ble_eq_true rfl⟩ rfl ?_
  rintro _ _ ⟨rfl, rfl⟩
  refine am_aload_n fx dX0_count_8 rfl ?_
  refine am_getR fx dX0_count_9 fkX0_19 (by decide) (by decide) rfl (so0 (hb.fr (Fr.fL _ _ _))) (rf0_2 (hb.fr (Fr.fL _ _ _))) ?_
  refine am_iconst (v := 0) fx dX0_count_12 (by decide) ?_
  refine am_lconst (v := 1) fx dX0_count_13 (by decide) ?_
  refine am_last (j := 0) fx dX0_count_14 (sa0_2 hb) rfl (by omega) (by decide) ?_
  refine am_iconst (v := 0) fx dX0_count_15 (by decide) ?_
  refine am_istore_n fx dX0_count_16 (by decide) rfl ?_
  refine am_iconst (v := 0) fx dX0_count_17 (by decide) ?_
  refine am_istore_n fx dX0_count_18 (by decide) rfl ?_
  refine am_aload_n fx dX0_count_19 rfl ?_
  refine am_lconst (v := 1) fx dX0_count_20 (by decide) ?_
  refine am_putL fx dX0_count_21 fkX0_31 (by decide) (by decide) rfl rfl (so0 hb) ?_
  refine am_iconst (v := 0) fx dX0_count_24 (by decide) ?_
  refine am_istore fx dX0_count_25 (by decide) rfl ?_
  have lp27 : ∀ (mz : Nat) (r : Nat) (h : Nat → Int64), n - r = mz → r ≤ n → (∀ t, t < 601 → h t = wy kd (mm_I μ 22) n r t) → am_W E C (am_MQ E C (fun v μ' => v = none ∧ ∃ h, μ' = mo μ h (pw n) (upN kd (mm_I μ 22) (mm_I μ 23) n)) (rmX0_count).cells (rmX0_count).slots) (mo μ h (pw r) (mm_L μ 21 4)) 0 0 27 [some (.ref 21), some (.int kd), some (.int (nI (mst kd (mm_I μ 22) n r))), some (.int (nI (rch kd (mm_I μ 22) (mm_I μ 23) n r))), some (.int (nI r)), none] [] := by
    intro mz
    induction mz using Nat.strongRecOn with
    | ind mz ih =>
      intro r h hz hr hh
      have hb2 : Bs (mo μ h (pw r) (mm_L μ 21 4)) := hb.fr (Fr.mo _ _ _ _)
      have hm1 := mst_top kd (mm_I μ 22) (show r ≤ n from hr) h24
      have hr1 := rch_le kd (mm_I μ 22) (mm_I μ 23) n r
      refine am_iload fx dX0_count_27 rfl ?_
      refine am_aload_n fx dX0_count_29 rfl ?_
      refine am_getI fx dX0_count_30 fkX0_23 (by decide) (by decide) rfl (so0 hb2) hn ?_
      refine am_icmp_ge fx 103 dX0_count_33 (by decide) (fun c33 => ?_) (fun c33 => ?_)
      · try simp (disch := omega) only [bz_0, Classical.not_not, Int32.not_le, Int32.not_lt, Nat.not_le, Nat.not_lt, nI_leI, nI_ltI, nI_eq, nI_le0, nI_lt0] at c33
        refine am_aload_n fx dX0_count_103 rfl ?_
        refine am_lconst (v := 0) fx dX0_count_104 (by decide) ?_
        have en : n = r := by omega
        subst en
        refine am_putL fx dX0_count_105 fkX0_27 (by decide) (by decide) rfl rfl (so0 hb2) ?_
        refine am_iload_n fx dX0_count_108 rfl ?_
        refine am_istore fx dX0_count_109 (by decide) rfl ?_
        have lp111 : ∀ (mz : Nat) (d : Nat), mst kd (mm_I μ 22) n n + 1 - (rch kd (mm_I μ 22) (mm_I μ 23) n n + d) = mz → rch kd (mm_I μ 22) (mm_I μ 23) n n + d ≤ mst kd (mm_I μ 22) n n + 1 → am_W E C (am_MQ E C (fun v μ' => v = none ∧ ∃ h, μ' = mo μ h (pw n) (upN kd (mm_I μ 22) (mm_I μ 23) n)) (rmX0_count).cells (rmX0_count).slots) (mo μ h (pw n) (smL h (rch kd (mm_I μ 22) (mm_I μ 23) n n) d)) 0 0 111 [some (.ref 21), some (.int kd), some (.int (nI (mst kd (mm_I μ 22) n n))), some (.int (nI (rch kd (mm_I μ 22) (mm_I μ 23) n n))), some (.int (nI (rch kd (mm_I μ 22) (mm_I μ 23) n n + d))), none] [] := by
          intro mz
          induction mz using Nat.strongRecOn with
          | ind mz ih =>
            intro d hz2 hd2
            have hb3 : Bs (mo μ h (pw n) (smL h (rch kd (mm_I μ 22) (mm_I μ 23) n n) d)) := hb.fr (Fr.mo _ _ _ _)
            refine am_iload fx dX0_count_111 rfl ?_
            refine am_iload_n fx dX0_count_113 rfl ?_
            refine am_icmp_gt fx 139 dX0_count_114 (by decide) (fun c114 => ?_) (fun c114 => ?_)
            · try simp (disch := omega) only [bz_0, Classical.not_not, Int32.not_le, Int32.not_lt, Nat.not_le, Nat.not_lt, nI_leI, nI_ltI, nI_eq, nI_le0, nI_lt0] at c114
              exact am_vret fx dX0_count_139 ⟨rfl, h, by rw [upN, smL_congr (fun t ht => (hh _ (by omega)).symm), show d = mst kd (mm_I μ 22) n n + 1 - rch kd (mm_I μ 22) (mm_I μ 23) n n by omega]⟩
            · try simp (disch := omega) only [bz_0, Classical.not_not, Int32.not_le, Int32.not_lt, Nat.not_le, Nat.not_lt, nI_leI, nI_ltI, nI_eq, nI_le0, nI_lt0] at c114
              refine am_aload_n fx dX0_count_117 rfl ?_
              refine am_dup_ref fx dX0_count_118 ?_
              refine am_getL fx dX0_count_119 fkX0_27 (by decide) (by decide) rfl (so0 hb3) (show _ = smL h (rch kd (mm_I μ 22) (mm_I μ 23) n n) d from rfl) ?_
              refine am_aload_n fx dX0_count_122 rfl ?_
              refine am_getR fx dX0_count_123 fkX0_19 (by decide) (by decide) rfl (so0 hb3) (rf0_2 hb3) ?_
              refine am_iload fx dX0_count_126 rfl ?_
              refine am_lald  fx dX0_count_128 (sa0_2 hb3) rfl (by omega) (by decide) (show _ = h (rch kd (mm_I μ 22) (mm_I μ 23) n n + d) from rfl) ?_
              refine am_ladd fx dX0_count_129 ?_
              refine am_putL fx dX0_count_130 fkX0_27 (by decide) (by decide) rfl rfl (so0 hb3) ?_
              first | refine am_iinc fx dX0_count_133 rfl (nI_inc _) (by decide) rfl ?_ | refine am_iinc fx dX0_count_133 rfl rfl (by decide) rfl ?_
              refine am_goto fx 111 dX0_count_136 (by decide) ?_
              exact am_mem (by rw [mo_s4]; rfl) (ih (mst kd (mm_I μ 22) n n + 1 - (rch kd (mm_I μ 22) (mm_I μ 23) n n + (d + 1))) (by omega) (d + 1) rfl (by omega))
        refine am_sub [true, true, true, true, true, false] rfl ?_
        refine am_mem (show _ = mo μ h (pw n) (smL h (rch kd (mm_I μ 22) (mm_I μ 23) n n) 0) from mo_s4 _ _ _ _ _) ?_
        exact lp111 _ 0 rfl (by omega)
      · try simp (disch := omega) only [bz_0, Classical.not_not, Int32.not_le, Int32.not_lt, Nat.not_le, Nat.not_lt, nI_leI, nI_ltI, nI_eq, nI_le0, nI_lt0] at c33
        have ct50 : ∀ (wv : Int32), wv = nI (odw kd (mm_I μ 22) n r) → am_W E C (am_MQ E C (fun v μ' => v = none ∧ ∃ h, μ' = mo μ h (pw n) (upN kd (mm_I μ 22) (mm_I μ 23) n)) (rmX0_count).cells (rmX0_count).slots) (mo μ h (pw r) (mm_L μ 21 4)) 0 0 50 [some (.ref 21), some (.int kd), some (.int (nI (mst kd (mm_I μ 22) n r))), some (.int (nI (rch kd (mm_I μ 22) (mm_I μ 23) n r))), some (.int (nI r)), none] [.int wv] := by
          intro wv hwv
          refine am_istore fx dX0_count_50 (by decide) rfl ?_
          subst hwv
          have hm2 := mst_top kd (mm_I μ 22) (show r + 1 ≤ n by omega) h24
          have hm3 : mst kd (mm_I μ 22) n r + odw kd (mm_I μ 22) n r = mst kd (mm_I μ 22) n (r + 1) := rfl
          have hp1 := odw_pos kd (mm_I μ 22) n r
          refine am_iload_n fx dX0_count_52 rfl ?_
          refine am_iload fx dX0_count_53 rfl ?_
          refine am_iadd fx dX0_count_55 ?_
          refine am_topi (nI_add _ _) ?_
          refine am_sipush (v := (nI 600)) fx dX0_count_56 (by decide) ?_
          refine am_mmin fx dX0_count_59 moX0_49 kw_smin knJ9 kw_cmin ⟨by decide, Nat.le_of_ble_eq_true rfl, Nat.le_of_ble_eq_true rfl, Nat.le_of_ble_eq_true rfl⟩ (show _ = nI (mst kd (mm_I μ 22) n (r + 1)) by rw [if_neg (by rw [nI_ltI (by omega) (by omega)]; omega)]; rfl) ?_
          refine am_istore_n fx dX0_count_62 (by decide) rfl ?_
          refine am_aload_n fx dX0_count_63 rfl ?_
          refine am_iload fx dX0_count_64 rfl ?_
          refine am_iload_n fx dX0_count_66 rfl ?_
          refine am_callV fx dX0_count_67 mkX0_53 (ct_X0_addSign hb2 _ _ hp1 (by omega) (by omega)) (so0 hb2) ⟨by decide, rfl⟩ rfl (Nat.le_of_ble_eq_true rfl) ⟨by decide, by decide⟩ ⟨Nat.le_of_ble_eq_true rfl, Nat.le_of_ble_eq_true rfl⟩ rfl ?_
          rintro _ _ ⟨rfl, rfl⟩
          refine am_aload_n fx dX0_count_70 rfl ?_
          have hb4 : Bs (mm_fL (mo μ h (pw r) (mm_L μ 21 4)) 24 (asg (mm_L (mo μ h (pw r) (mm_L μ 21 4)) 24) (odw kd (mm_I μ 22) n r) (mst kd (mm_I μ 22) n (r + 1)))) := hb2.fr (Fr.fL _ _ _)
          have hh2 : ∀ t, t < 601 → asg (mm_L (mo μ h (pw r) (mm_L μ 21 4)) 24) (odw kd (mm_I μ 22) n r) (mst kd (mm_I μ 22) n (r + 1)) t = wy kd (mm_I μ 22) n (r + 1) t := asg_in hh
          have em : nI (mst kd (mm_I μ 22) n (r + 1)) = nI (mst kd (mm_I μ 22) n (r + 1)) := rfl
          refine am_getR fx dX0_count_71 fkX0_15 (by decide) (by decide) rfl (so0 hb4) (rf0_1 hb4) ?_
          refine am_iload fx dX0_count_74 rfl ?_
          refine am_zald  fx dX0_count_76 (sa0_1 hb4) rfl (by omega) (by decide) (show _ = mm_I μ 23 r from rfl) ?_
          refine am_if_eq fx 85 dX0_count_77 (by decide) (fun c77 => ?_) (fun c77 => ?_)
          · try simp (disch := omega) only [bz_0, Classical.not_not, Int32.not_le, Int32.not_lt, Nat.not_le, Nat.not_lt, nI_leI, nI_ltI, nI_eq, nI_le0, nI_lt0] at c77
            have er : rch kd (mm_I μ 22) (mm_I μ 23) n (r + 1) = rch kd (mm_I μ 22) (mm_I μ 23) n r := by rw [rch, if_pos c77]; rfl
            refine am_aload_n fx dX0_count_85 rfl ?_
            refine am_dup_ref fx dX0_count_86 ?_
            refine am_getL fx dX0_count_87 fkX0_31 (by decide) (by decide) rfl (so0 hb4) (show _ = pw r from rfl) ?_
            refine am_ldc2 fx dX0_count_90 kdX0_57 ?_
            refine am_lmul fx dX0_count_93 ?_
            refine am_putL fx dX0_count_94 fkX0_31 (by decide) (by decide) rfl rfl (so0 hb4) ?_
            first | refine am_iinc fx dX0_count_97 rfl (nI_inc _) (by decide) rfl ?_ | refine am_iinc fx dX0_count_97 rfl rfl (by decide) rfl ?_
            refine am_goto fx 27 dX0_count_100 (by decide) ?_
            refine am_sub [true, true, true, true, true, false] rfl ?_
            exact am_mem (by rw [mo_fL, mo_s5]; rfl) (er ▸ ih (n - (r + 1)) (by omega) (r + 1) _ rfl (by omega) hh2)
          · try simp (disch := omega) only [bz_0, Classical.not_not, Int32.not_le, Int32.not_lt, Nat.not_le, Nat.not_lt, nI_leI, nI_ltI, nI_eq, nI_le0, nI_lt0] at c77
            have er : rch kd (mm_I μ 22) (mm_I μ 23) n (r + 1) = rch kd (mm_I μ 22) (mm_I μ 23) n r + odw kd (mm_I μ 22) n r := by rw [rch, if_neg c77]
            refine am_iload_n fx dX0_count_80 rfl ?_
            refine am_iload fx dX0_count_81 rfl ?_
            refine am_iadd fx dX0_count_83 ?_
            refine am_topi (nI_add _ _) ?_
            refine am_istore_n fx dX0_count_84 (by decide) rfl ?_
            refine am_aload_n fx dX0_count_85 rfl ?_
            refine am_dup_ref fx dX0_count_86 ?_
            refine am_getL fx dX0_count_87 fkX0_31 (by decide) (by decide) rfl (so0 hb4) (show _ = pw r from rfl) ?_
            refine am_ldc2 fx dX0_count_90 kdX0_57 ?_
            refine am_lmul fx dX0_count_93 ?_
            refine am_putL fx dX0_count_94 fkX0_31 (by decide) (by decide) rfl rfl (so0 hb4) ?_
            first | refine am_iinc fx dX0_count_97 rfl (nI_inc _) (by decide) rfl ?_ | refine am_iinc fx dX0_count_97 rfl rfl (by decide) rfl ?_
            refine am_goto fx 27 dX0_count_100 (by decide) ?_
            refine am_sub [true, true, true, true, true, false] rfl ?_
            exact am_mem (by rw [mo_fL, mo_s5]; rfl) (er ▸ ih (n - (r + 1)) (by omega) (r + 1) _ rfl (by omega) hh2)
        refine am_iload_n fx dX0_count_36 rfl ?_
        refine am_if_ne fx 44 dX0_count_37 (by decide) (fun c37 => ?_) (fun c37 => ?_)
        · try simp (disch := omega) only [bz_0, Classical.not_not, Int32.not_le, Int32.not_lt, Nat.not_le, Nat.not_lt, nI_leI, nI_ltI, nI_eq, nI_le0, nI_lt0] at c37
          refine am_aload_n fx dX0_count_44 rfl ?_
          refine am_iload fx dX0_count_45 rfl ?_
          refine am_callV fx dX0_count_47 mkX0_46 (ct_X0_weightOf hb2 hn h24 r (by omega)) (so0 hb2) ⟨by decide, rfl⟩ rfl (Nat.le_of_ble_eq_true rfl) ⟨by decide, by decide⟩ ⟨Nat.le_of_ble_eq_true rfl, Nat.le_of_ble_eq_true rfl⟩ rfl ?_
          rintro _ _ ⟨rfl, rfl⟩
          exact ct50 _ (by rw [odw, if_neg c37]; rfl)
        · try simp (disch := omega) only [bz_0, Classical.not_not, Int32.not_le, Int32.not_lt, Nat.not_le, Nat.not_lt, nI_leI, nI_ltI, nI_eq, nI_le0, nI_lt0] at c37
          refine am_iconst (v := 1) fx dX0_count_40 (by decide) ?_
          refine am_goto fx 50 dX0_count_41 (by decide) ?_
          exact ct50 _ (by rw [odw, if_pos c37]; rfl)
  refine am_sub [true, true, true, true, true, false] rfl ?_
  refine am_mem (show _ = mo μ (vp_updL (flL 0 (mm_L μ 24) 601) 0 1) (pw 0) (mm_L μ 21 4) from ?_) ?_
  · conv => lhs; rw [← mo_self μ]
    simp only [mo_fL, mo_s24, mo_s5, mL_mo, if_true]
    rfl
  exact lp27 _ 0 _ rfl (by omega) (fun t ht => by simp only [vp_updL, flL, wy]; split <;> simp_all)
theorem lg_le0 (x y : Int64) : lg_cmp x y ≤ 0 ↔ ¬ y < x := by
  unfold lg_cmp
  by_cases h : y < x
  · rw [if_pos h]; exact ⟨fun q => absurd q (by decide), fun q => absurd h q⟩
  · rw [if_neg h]
    refine ⟨fun _ => h, fun _ => ?_⟩
    split <;> decide
set_option maxRecDepth 100000 in
set_option maxHeartbeats 4000000 in
theorem ct_X0_areAbove {E : am_E} {μ : am_M} (hb : Bs μ) (u d : Int32) : am_Ct E yX0_areAbove cX0_areAbove 3 (some .boolean) rmX0_areAbove [.ref 21, .int u, .int d] μ (fun v μ' => v = some (.int (bz (u.toInt64 * mm_L μ 21 5 < mm_L μ 21 4 * d.toInt64))) ∧ μ = μ') := by
  refine am_Ct.of (ls := [some (.ref 21), some (.int u), some (.int d)]) (by decide) (Nat.le_of_ble_eq_true rfl) rfl (fun C fx hnm => ?_)
  refine am_aload_n fx dX0_areAbove_0 rfl ?_
  refine am_getL fx dX0_areAbove_1 fkX0_27 (by decide) (by decide) rfl (so0 hb) rfl ?_
  refine am_iload_n fx dX0_areAbove_4 rfl ?_
  refine am_i2l fx dX0_areAbove_5 rfl ?_
  refine am_lmul fx dX0_areAbove_6 ?_
  refine am_iload_n fx dX0_areAbove_7 rfl ?_
  refine am_i2l fx dX0_areAbove_8 rfl ?_
  refine am_aload_n fx dX0_areAbove_9 rfl ?_
  refine am_getL fx dX0_areAbove_10 fkX0_31 (by decide) (by decide) rfl (so0 hb) rfl ?_
  refine am_lmul fx dX0_areAbove_13 ?_
  refine am_lcmp fx dX0_areAbove_14 ?_
  refine am_if_le fx 22 dX0_areAbove_15 (by decide) (fun c15 => ?_) (fun c15 => ?_)
  · skip
    have c15 := (lg_le0 _ _).mp c15
    refine am_iconst (v := 0) fx dX0_areAbove_22 (by decide) ?_
    exact am_zret fx dX0_areAbove_23 (by first | exact Or.inl rfl | exact Or.inr rfl | exact bz_01) ⟨congrArg (fun z => some (Value.int z)) (by first | exact bz_t c15 | exact bz_f c15), rfl⟩
  · skip
    have c15 := Classical.not_not.mp (fun z => c15 ((lg_le0 _ _).mpr z))
    refine am_iconst (v := 1) fx dX0_areAbove_18 (by decide) ?_
    refine am_goto fx 23 dX0_areAbove_19 (by decide) ?_
    exact am_zret fx dX0_areAbove_23 (by first | exact Or.inl rfl | exact Or.inr rfl | exact bz_01) ⟨congrArg (fun z => some (Value.int z)) (by first | exact bz_t c15 | exact bz_f c15), rfl⟩
set_option maxRecDepth 100000 in
set_option maxHeartbeats 4000000 in
theorem ct_X0_addRound {E : am_E} {μ : am_M} (hb : Bs μ) {n : Nat} (hn : mm_I μ 21 3 = nI n) (h24 : n < 24) (a b : Int32) : am_Ct E yX0_addRound cX0_addRound 3 none rmX0_addRound [.ref 21, .int a, .int b] μ (fun v μ' => v = none ∧ μ' = (if a = b then μ else mm_sI (mm_sI (mm_sI μ 22 n (ab (a - b))) 23 n (bz (a < b))) 21 3 (nI (n + 1)))) := by
  refine am_Ct.of (ls := [some (.ref 21), some (.int a), some (.int b)]) (by decide) (Nat.le_of_ble_eq_true rfl) rfl (fun C fx hnm => ?_)
  refine am_iload_n fx dX0_addRound_0 rfl ?_
  refine am_iload_n fx dX0_addRound_1 rfl ?_
  refine am_icmp_eq fx 58 dX0_addRound_2 (by decide) (fun c2 => ?_) (fun c2 => ?_)
  · try simp (disch := omega) only [bz_0, Classical.not_not, Int32.not_le, Int32.not_lt, Nat.not_le, Nat.not_lt, nI_leI, nI_ltI, nI_eq, nI_le0, nI_lt0] at c2
    refine am_vret fx dX0_addRound_58 ⟨rfl, (if_pos c2).symm⟩
  · try simp (disch := omega) only [bz_0, Classical.not_not, Int32.not_le, Int32.not_lt, Nat.not_le, Nat.not_lt, nI_leI, nI_ltI, nI_eq, nI_le0, nI_lt0] at c2
    refine am_aload_n fx dX0_addRound_5 rfl ?_
    refine am_getI fx dX0_addRound_6 fkX0_23 (by decide) (by decide) rfl (so0 hb) hn ?_
    refine am_bipush (v := (nI 24)) fx dX0_addRound_9 (by decide) ?_
    refine am_icmp_ge fx 58 dX0_addRound_11 (by decide) (fun c11 => ?_) (fun c11 => ?_)
    · try simp (disch := omega) only [bz_0, Classical.not_not, Int32.not_le, Int32.not_lt, Nat.not_le, Nat.not_lt, nI_leI, nI_ltI, nI_eq, nI_le0, nI_lt0] at c11
      exact absurd c11 (by omega)
    · try simp (disch := omega) only [bz_0, Classical.not_not, Int32.not_le, Int32.not_lt, Nat.not_le, Nat.not_lt, nI_leI, nI_ltI, nI_eq, nI_le0, nI_lt0] at c11
      refine am_aload_n fx dX0_addRound_14 rfl ?_
      refine am_getR fx dX0_addRound_15 fkX0_9 (by decide) (by decide) rfl (so0 hb) (rf0_0 hb) ?_
      refine am_aload_n fx dX0_addRound_18 rfl ?_
      refine am_getI fx dX0_addRound_19 fkX0_23 (by decide) (by decide) rfl (so0 hb) hn ?_
      refine am_iload_n fx dX0_addRound_22 rfl ?_
      refine am_iload_n fx dX0_addRound_23 rfl ?_
      refine am_isub fx dX0_addRound_24 ?_
      refine am_mabs fx dX0_addRound_25 moX0_34 kw_sabs knJ9 kw_cabs ⟨by decide, Nat.le_of_ble_eq_true rfl, Nat.le_of_ble_eq_true rfl, Nat.le_of_ble_eq_true rfl⟩ (rfl : _ = ab (a - b)) ?_
      refine am_iast  fx dX0_addRound_28 (sa0_0 hb) rfl (by omega) (by decide) ?_
      refine am_aload_n fx dX0_addRound_29 rfl ?_
      refine am_getR fx dX0_addRound_30 fkX0_15 (by decide) (by decide) rfl (so0 hb) (rf0_1 hb) ?_
      refine am_aload_n fx dX0_addRound_33 rfl ?_
      refine am_getI fx dX0_addRound_34 fkX0_23 (by decide) (by decide) rfl (so0 hb) hn ?_
      refine am_iload_n fx dX0_addRound_37 rfl ?_
      refine am_iload_n fx dX0_addRound_38 rfl ?_
      refine am_icmp_ge fx 46 dX0_addRound_39 (by decide) (fun c39 => ?_) (fun c39 => ?_)
      · try simp (disch := omega) only [bz_0, Classical.not_not, Int32.not_le, Int32.not_lt, Nat.not_le, Nat.not_lt, nI_leI, nI_ltI, nI_eq, nI_le0, nI_lt0] at c39
        refine am_iconst (v := 0) fx dX0_addRound_46 (by decide) ?_
        refine am_topi (bz_f (P := a < b) (Int32.not_lt.mpr c39)) ?_
        refine am_zast  fx dX0_addRound_47 (sa0_1 hb) rfl (by omega) (by decide) (by first | exact Or.inl rfl | exact Or.inr rfl | exact bz_01) ?_
        refine am_aload_n fx dX0_addRound_48 rfl ?_
        refine am_dup_ref fx dX0_addRound_49 ?_
        refine am_getI fx dX0_addRound_50 fkX0_23 (by decide) (by decide) rfl (so0 hb) hn ?_
        refine am_iconst (v := 1) fx dX0_addRound_53 (by decide) ?_
        refine am_iadd fx dX0_addRound_54 ?_
        refine am_topi (nI_1 n) ?_
        refine am_putI fx dX0_addRound_55 fkX0_23 (by decide) (by decide) rfl rfl (so0 hb) ?_
        exact am_vret fx dX0_addRound_58 ⟨rfl, (if_neg c2).symm⟩
      · try simp (disch := omega) only [bz_0, Classical.not_not, Int32.not_le, Int32.not_lt, Nat.not_le, Nat.not_lt, nI_leI, nI_ltI, nI_eq, nI_le0, nI_lt0] at c39
        refine am_iconst (v := 1) fx dX0_addRound_42 (by decide) ?_
        refine am_topi (bz_t (P := a < b) c39) ?_
        refine am_goto fx 47 dX0_addRound_43 (by decide) ?_
        refine am_zast  fx dX0_addRound_47 (sa0_1 hb) rfl (by omega) (by decide) (by first | exact Or.inl rfl | exact Or.inr rfl | exact bz_01) ?_
        refine am_aload_n fx dX0_addRound_48 rfl ?_
        refine am_dup_ref fx dX0_addRound_49 ?_
        refine am_getI fx dX0_addRound_50 fkX0_23 (by decide) (by decide) rfl (so0 hb) hn ?_
        refine am_iconst (v := 1) fx dX0_addRound_53 (by decide) ?_
        refine am_iadd fx dX0_addRound_54 ?_
        refine am_topi (nI_1 n) ?_
        refine am_putI fx dX0_addRound_55 fkX0_23 (by decide) (by decide) rfl rfl (so0 hb) ?_
        exact am_vret fx dX0_addRound_58 ⟨rfl, (if_neg c2).symm⟩
end
section
/-- all cells but those of S hold what they held -/
def Sm (S : Nat → Prop) (μ μ' : am_M) : Prop := Fr μ μ' ∧ (∀ a k, ¬ S a → mm_I μ' a k = mm_I μ a k) ∧ (∀ a k, ¬ S a → mm_L μ' a k = mm_L μ a k)
theorem Sm.rf (S : Nat → Prop) (μ : am_M) : Sm S μ μ := ⟨Fr.rf μ, fun _ _ _ => rfl, fun _ _ _ => rfl⟩
theorem Sm.tr {S : Nat → Prop} {μ μ' μ'' : am_M} (h : Sm S μ μ') (h2 : Sm S μ' μ'') : Sm S μ μ'' := ⟨h.1.tr h2.1, fun a k q => (h2.2.1 a k q).trans (h.2.1 a k q), fun a k q => (h2.2.2 a k q).trans (h.2.2 a k q)⟩
theorem Sm.mono {S S' : Nat → Prop} {μ μ' : am_M} (h : Sm S μ μ') (hs : ∀ a, S a → S' a) : Sm S' μ μ' := ⟨h.1, fun a k q => h.2.1 a k (fun z => q (hs a z)), fun a k q => h.2.2 a k (fun z => q (hs a z))⟩
theorem Sm.sI {S : Nat → Prop} (μ : am_M) {a k : Nat} {v : Int32} (h : S a) : Sm S μ (mm_sI μ a k v) := ⟨Fr.sI _ _ _ _, fun a' k' q => mI_ne (Or.inl (fun e => q (e ▸ h))), fun _ _ _ => rfl⟩
theorem Sm.sL {S : Nat → Prop} (μ : am_M) {a k : Nat} {v : Int64} (h : S a) : Sm S μ (mm_sL μ a k v) := ⟨Fr.sL _ _ _ _, fun _ _ _ => rfl, fun a' k' q => mL_ne (Or.inl (fun e => q (e ▸ h)))⟩
theorem Sm.fI {S : Nat → Prop} (μ : am_M) {a : Nat} {g : Nat → Int32} (h : S a) : Sm S μ (mm_fI μ a g) := ⟨Fr.fI _ _ _, fun a' k' q => mI_fIn (fun e => q (e ▸ h)), fun _ _ _ => rfl⟩
theorem Sm.mo {S : Nat → Prop} (μ : am_M) {g : Nat → Int64} {lo up : Int64} (h : S 21) (h2 : S 24) : Sm S μ (mo μ g lo up) := ⟨Fr.mo _ _ _ _, fun _ _ _ => rfl, fun a k q => by
  rw [mL_mo, if_neg (show ¬ a = 24 from fun e => q (e ▸ h2)), if_neg (show ¬ (a = 21 ∧ k = 5) from fun e => q (e.1 ▸ h)), if_neg (show ¬ (a = 21 ∧ k = 4) from fun e => q (e.1 ▸ h))]⟩
/-- the race at q: En settings entered, Rd rounds done -/
def Ra (μ : am_M) (q En Rd : Nat) : Prop := mm_I μ (q + 1) 4 = nI En ∧ mm_I μ (q + 1) 12 = nI Rd ∧ En ≤ 12 ∧ Rd ≤ 24
theorem Ra.e {μ : am_M} {q En Rd : Nat} (h : Ra μ q En Rd) : En ≤ 12 := h.2.2.1
theorem Ra.r {μ : am_M} {q En Rd : Nat} (h : Ra μ q En Rd) : Rd ≤ 24 := h.2.2.2
def woF (rem least rd L budget runs : Int32) : Int32 := if rem ≤ 1 ∨ rem ≤ least then 1 else if L ≤ rd then 2 else if budget - runs < rem then 3 else 0
set_option maxRecDepth 100000 in
set_option maxHeartbeats 4000000 in
theorem ct_X2_whyOver {E : am_E} {μ : am_M} (hb : Bs μ) {q L : Nat} (hr : Rc μ q L) : am_Ct E yX2_whyOver cX2_whyOver 1 (some .int) rmX2_whyOver [.ref (q + 1)] μ (fun v μ' => v = some (.int (woF (mm_I μ (q + 1) 10) (mm_I μ q 4) (mm_I μ (q + 1) 12) (nI L) (mm_I μ q 5) (mm_I μ (q + 1) 13))) ∧ μ = μ') := by
  refine am_Ct.of (ls := [some (.ref (q + 1))]) (by decide) (Nat.le_of_ble_eq_true rfl) rfl (fun C fx hnm => ?_)
  refine am_aload_n fx dX2_whyOver_0 rfl ?_
  refine am_getI fx dX2_whyOver_1 fkX2_69 (by decide) (by decide) rfl (so2 hr) rfl ?_
  refine am_iconst (v := 1) fx dX2_whyOver_4 (by decide) ?_
  refine am_icmp_le fx 22 dX2_whyOver_5 (by decide) (fun c5 => ?_) (fun c5 => ?_)
  · skip
    refine am_iconst (v := 1) fx dX2_whyOver_22 (by decide) ?_
    exact am_iret fx dX2_whyOver_23 ⟨by rw [woF, if_pos (Or.inl c5)], rfl⟩
  · skip
    refine am_aload_n fx dX2_whyOver_8 rfl ?_
    refine am_getI fx dX2_whyOver_9 fkX2_69 (by decide) (by decide) rfl (so2 hr) rfl ?_
    refine am_aload_n fx dX2_whyOver_12 rfl ?_
    refine am_getR fx dX2_whyOver_13 fkX2_50 (by decide) (by decide) rfl (so2 hr) (rf2_2 hr) ?_
    refine am_getI fx dX2_whyOver_16 fkX2_77 (by decide) (by decide) rfl (so3 hr) rfl ?_
    refine am_icmp_gt fx 24 dX2_whyOver_19 (by decide) (fun c19 => ?_) (fun c19 => ?_)
    · skip
      refine am_aload_n fx dX2_whyOver_24 rfl ?_
      refine am_getI fx dX2_whyOver_25 fkX2_33 (by decide) (by decide) rfl (so2 hr) rfl ?_
      refine am_aload_n fx dX2_whyOver_28 rfl ?_
      refine am_getR fx dX2_whyOver_29 fkX2_60 (by decide) (by decide) rfl (so2 hr) (rf2_3 hr) ?_
      refine am_alen fx dX2_whyOver_32 (sa2_3 hr) (by decide) rfl ?_
      refine am_icmp_lt fx 38 dX2_whyOver_33 (by decide) (fun c33 => ?_) (fun c33 => ?_)
      · skip
        refine am_aload_n fx dX2_whyOver_38 rfl ?_
        refine am_getR fx dX2_whyOver_39 fkX2_50 (by decide) (by decide) rfl (so2 hr) (rf2_2 hr) ?_
        refine am_getI fx dX2_whyOver_42 fkX2_82 (by decide) (by decide) rfl (so3 hr) rfl ?_
        refine am_aload_n fx dX2_whyOver_45 rfl ?_
        refine am_getI fx dX2_whyOver_46 fkX2_36 (by decide) (by decide) rfl (so2 hr) rfl ?_
        refine am_isub fx dX2_whyOver_49 ?_
        refine am_aload_n fx dX2_whyOver_50 rfl ?_
        refine am_getI fx dX2_whyOver_51 fkX2_69 (by decide) (by decide) rfl (so2 hr) rfl ?_
        refine am_icmp_ge fx 61 dX2_whyOver_54 (by decide) (fun c54 => ?_) (fun c54 => ?_)
        · skip
          refine am_iconst (v := 0) fx dX2_whyOver_61 (by decide) ?_
          exact am_iret fx dX2_whyOver_62 ⟨by rw [woF, if_neg (by rintro (h | h); exact c5 h; exact absurd c19 (Int32.not_lt.mpr h)), if_neg (Int32.not_le.mpr c33), if_neg (Int32.not_lt.mpr c54)], rfl⟩
        · skip
          refine am_iconst (v := 3) fx dX2_whyOver_57 (by decide) ?_
          refine am_goto fx 62 dX2_whyOver_58 (by decide) ?_
          exact am_iret fx dX2_whyOver_62 ⟨by rw [woF, if_neg (by rintro (h | h); exact c5 h; exact absurd c19 (Int32.not_lt.mpr h)), if_neg (Int32.not_le.mpr c33), if_pos (Int32.not_le.mp c54)], rfl⟩
      · skip
        refine am_iconst (v := 2) fx dX2_whyOver_36 (by decide) ?_
        exact am_iret fx dX2_whyOver_37 ⟨by rw [woF, if_neg (by rintro (h | h); exact c5 h; exact absurd c19 (Int32.not_lt.mpr h)), if_pos (Int32.not_lt.mp c33)], rfl⟩
    · skip
      refine am_iconst (v := 1) fx dX2_whyOver_22 (by decide) ?_
      exact am_iret fx dX2_whyOver_23 ⟨by rw [woF, if_pos (Or.inr (Int32.not_lt.mp c19))], rfl⟩
set_option maxRecDepth 100000 in
set_option maxHeartbeats 4000000 in
theorem ct_X2_isEntered {E : am_E} {μ : am_M} (hb : Bs μ) {q L : Nat} (hr : Rc μ q L) {En Rd : Nat} (ha : Ra μ q En Rd) (x : Int32) : am_Ct E yX2_isEntered cX2_isEntered 2 (some .boolean) rmX2_isEntered [.ref (q + 1), .int x] μ (fun v μ' => v = some (.int (bz (0 ≤ x ∧ x < nI En))) ∧ μ = μ') := by
  refine am_Ct.of (ls := [some (.ref (q + 1)), some (.int x)]) (by decide) (Nat.le_of_ble_eq_true rfl) rfl (fun C fx hnm => ?_)
  refine am_iload_n fx dX2_isEntered_0 rfl ?_
  refine am_if_lt fx 16 dX2_isEntered_1 (by decide) (fun c1 => ?_) (fun c1 => ?_)
  · try simp (disch := omega) only [bz_0, Classical.not_not, Int32.not_le, Int32.not_lt, Nat.not_le, Nat.not_lt, nI_leI, nI_ltI, nI_eq, nI_le0, nI_lt0] at c1
    refine am_iconst (v := 0) fx dX2_isEntered_16 (by decide) ?_
    exact am_zret fx dX2_isEntered_17 (by first | exact Or.inl rfl | exact Or.inr rfl | exact bz_01) ⟨congrArg (fun z => some (Value.int z)) (by first | exact bz_t ⟨c1, c9⟩ | exact bz_f (fun h => absurd h.1 (Int32.not_le.mpr c1)) | exact bz_f (fun h => absurd h.2 (Int32.not_lt.mpr c9))), rfl⟩
  · try simp (disch := omega) only [bz_0, Classical.not_not, Int32.not_le, Int32.not_lt, Nat.not_le, Nat.not_lt, nI_leI, nI_ltI, nI_eq, nI_le0, nI_lt0] at c1
    refine am_iload_n fx dX2_isEntered_4 rfl ?_
    refine am_aload_n fx dX2_isEntered_5 rfl ?_
    refine am_getI fx dX2_isEntered_6 fkX2_66 (by decide) (by decide) rfl (so2 hr) ha.1 ?_
    refine am_icmp_ge fx 16 dX2_isEntered_9 (by decide) (fun c9 => ?_) (fun c9 => ?_)
    · try simp (disch := omega) only [bz_0, Classical.not_not, Int32.not_le, Int32.not_lt, Nat.not_le, Nat.not_lt, nI_leI, nI_ltI, nI_eq, nI_le0, nI_lt0] at c9
      refine am_iconst (v := 0) fx dX2_isEntered_16 (by decide) ?_
      exact am_zret fx dX2_isEntered_17 (by first | exact Or.inl rfl | exact Or.inr rfl | exact bz_01) ⟨congrArg (fun z => some (Value.int z)) (by first | exact bz_t ⟨c1, c9⟩ | exact bz_f (fun h => absurd h.1 (Int32.not_le.mpr c1)) | exact bz_f (fun h => absurd h.2 (Int32.not_lt.mpr c9))), rfl⟩
    · try simp (disch := omega) only [bz_0, Classical.not_not, Int32.not_le, Int32.not_lt, Nat.not_le, Nat.not_lt, nI_leI, nI_ltI, nI_eq, nI_le0, nI_lt0] at c9
      refine am_iconst (v := 1) fx dX2_isEntered_12 (by decide) ?_
      refine am_goto fx 17 dX2_isEntered_13 (by decide) ?_
      exact am_zret fx dX2_isEntered_17 (by first | exact Or.inl rfl | exact Or.inr rfl | exact bz_01) ⟨congrArg (fun z => some (Value.int z)) (by first | exact bz_t ⟨c1, c9⟩ | exact bz_f (fun h => absurd h.1 (Int32.not_le.mpr c1)) | exact bz_f (fun h => absurd h.2 (Int32.not_lt.mpr c9))), rfl⟩
set_option maxRecDepth 100000 in
set_option maxHeartbeats 4000000 in
theorem ct_X2_isLeft {E : am_E} {μ : am_M} (hb : Bs μ) {q L : Nat} (hr : Rc μ q L) {En Rd : Nat} (ha : Ra μ q En Rd) (x : Int32) : am_Ct E yX2_isLeft cX2_isLeft 2 (some .boolean) rmX2_isLeft [.ref (q + 1), .int x] μ (fun v μ' => v = some (.int (bz ((0 ≤ x ∧ x < nI En) ∧ mm_I μ (q + 15) x.toNatClampNeg = 0))) ∧ μ = μ') := by
  refine am_Ct.of (ls := [some (.ref (q + 1)), some (.int x)]) (by decide) (Nat.le_of_ble_eq_true rfl) rfl (fun C fx hnm => ?_)
  have hE := ha.e
  have hR := ha.r
  have hL := hr.l
  have hq := hr.qq
  refine am_iload_n fx dX2_isLeft_0 rfl ?_
  refine am_if_lt fx 25 dX2_isLeft_1 (by decide) (fun c1 => ?_) (fun c1 => ?_)
  · try simp (disch := omega) only [bz_0, Classical.not_not, Int32.not_le, Int32.not_lt, Nat.not_le, Nat.not_lt, nI_leI, nI_ltI, nI_eq, nI_le0, nI_lt0] at c1
    refine am_iconst (v := 0) fx dX2_isLeft_25 (by decide) ?_
    exact am_zret fx dX2_isLeft_26 (by first | exact Or.inl rfl | exact Or.inr rfl | exact bz_01) ⟨congrArg (fun z => some (Value.int z)) (bz_f (fun h => absurd h.1.1 (Int32.not_le.mpr c1))), rfl⟩
  · try simp (disch := omega) only [bz_0, Classical.not_not, Int32.not_le, Int32.not_lt, Nat.not_le, Nat.not_lt, nI_leI, nI_ltI, nI_eq, nI_le0, nI_lt0] at c1
    refine am_iload_n fx dX2_isLeft_4 rfl ?_
    refine am_aload_n fx dX2_isLeft_5 rfl ?_
    refine am_getI fx dX2_isLeft_6 fkX2_66 (by decide) (by decide) rfl (so2 hr) ha.1 ?_
    refine am_icmp_ge fx 25 dX2_isLeft_9 (by decide) (fun c9 => ?_) (fun c9 => ?_)
    · try simp (disch := omega) only [bz_0, Classical.not_not, Int32.not_le, Int32.not_lt, Nat.not_le, Nat.not_lt, nI_leI, nI_ltI, nI_eq, nI_le0, nI_lt0] at c9
      refine am_iconst (v := 0) fx dX2_isLeft_25 (by decide) ?_
      exact am_zret fx dX2_isLeft_26 (by first | exact Or.inl rfl | exact Or.inr rfl | exact bz_01) ⟨congrArg (fun z => some (Value.int z)) (bz_f (fun h => absurd h.1.2 (Int32.not_lt.mpr c9))), rfl⟩
    · try simp (disch := omega) only [bz_0, Classical.not_not, Int32.not_le, Int32.not_lt, Nat.not_le, Nat.not_lt, nI_leI, nI_ltI, nI_eq, nI_le0, nI_lt0] at c9
      obtain ⟨x, hx, rfl⟩ := nI_rg2 (n := En) ⟨c1, c9⟩ (by omega)
      refine am_aload_n fx dX2_isLeft_12 rfl ?_
      refine am_getR fx dX2_isLeft_13 fkX2_16 (by decide) (by decide) rfl (so2 hr) (rf2_6 hr) ?_
      refine am_iload_n fx dX2_isLeft_16 rfl ?_
      refine am_iald  fx dX2_isLeft_17 (sa2_6 hr) rfl (by omega) (by decide) rfl ?_
      refine am_if_ne fx 25 dX2_isLeft_18 (by decide) (fun c18 => ?_) (fun c18 => ?_)
      · try simp (disch := omega) only [bz_0, Classical.not_not, Int32.not_le, Int32.not_lt, Nat.not_le, Nat.not_lt, nI_leI, nI_ltI, nI_eq, nI_le0, nI_lt0] at c18
        refine am_iconst (v := 0) fx dX2_isLeft_25 (by decide) ?_
        exact am_zret fx dX2_isLeft_26 (by first | exact Or.inl rfl | exact Or.inr rfl | exact bz_01) ⟨congrArg (fun z => some (Value.int z)) (bz_f (fun h => c18 (by rw [← h.2, nI_clamp (by omega)]))), rfl⟩
      · try simp (disch := omega) only [bz_0, Classical.not_not, Int32.not_le, Int32.not_lt, Nat.not_le, Nat.not_lt, nI_leI, nI_ltI, nI_eq, nI_le0, nI_lt0] at c18
        refine am_iconst (v := 1) fx dX2_isLeft_21 (by decide) ?_
        refine am_goto fx 26 dX2_isLeft_22 (by decide) ?_
        exact am_zret fx dX2_isLeft_26 (by first | exact Or.inl rfl | exact Or.inr rfl | exact bz_01) ⟨congrArg (fun z => some (Value.int z)) (bz_t ⟨⟨c1, c9⟩, by rw [nI_clamp (by omega)]; exact c18⟩), rfl⟩
theorem isl_n {P Q : Prop} [Decidable P] [Decidable Q] (h : P ↔ Q) : bz P = bz Q := by
  by_cases q : P
  · rw [bz_1.mpr q, bz_1.mpr (h.mp q)]
  · rw [bz_0.mpr q, bz_0.mpr (fun z => q (h.mpr z))]
theorem am_Ct.post {E : am_E} {y : MethodName} {cc : ByteArray} {nL : Nat} {ret : Option FieldType} {rm : Room} {as : List Value} {μ : am_M} {post post' : Option Value → am_M → Prop} (h : am_Ct E y cc nL ret rm as μ post) (hp : ∀ v μ', post v μ' → post' v μ') : am_Ct E y cc nL ret rm as μ post' := by
  intro p e ha hc hk s m args below hf hfit hP hT
  obtain ⟨t, o, h1, h2, h3, ⟨⟨v, μ', e1, e2, e3⟩, hF⟩, hL⟩ := h p e ha hc hk s m args below hf hfit hP hT
  exact ⟨t, o, h1, h2, h3, ⟨⟨v, μ', e1, hp v μ' e2, e3⟩, hF⟩, hL⟩
theorem ct_X2_isLeftN {E : am_E} {μ : am_M} (hb : Bs μ) {q L : Nat} (hr : Rc μ q L) {En Rd : Nat} (ha : Ra μ q En Rd) (s : Nat) (hs : s < En) : am_Ct E yX2_isLeft cX2_isLeft 2 (some .boolean) rmX2_isLeft [.ref (q + 1), .int (nI s)] μ (fun v μ' => v = some (.int (bz (mm_I μ (q + 15) s = 0))) ∧ μ = μ') := by
  have hE := ha.e
  refine (ct_X2_isLeft hb hr ha (nI s)).post (fun v μ' h => ⟨?_, h.2⟩)
  rw [h.1]
  refine congrArg (fun z => some (Value.int z)) (isl_n ?_)
  rw [nI_clamp (by omega)]
  exact ⟨fun z => z.2, fun z => ⟨⟨nI_pos' (by omega), nI_lt hs (by omega)⟩, z⟩⟩
set_option maxRecDepth 100000 in
set_option maxHeartbeats 4000000 in
theorem ct_X2_instanceAt {E : am_E} {μ : am_M} (hb : Bs μ) {q L : Nat} (hr : Rc μ q L) (x : Int32) : am_Ct E yX2_instanceAt cX2_instanceAt 2 (some .int) rmX2_instanceAt [.ref (q + 1), .int x] μ (fun v μ' => v = some (.int (if 0 ≤ x ∧ x < nI L then mm_I μ (q + 19) x.toNatClampNeg else -1)) ∧ μ = μ') := by
  refine am_Ct.of (ls := [some (.ref (q + 1)), some (.int x)]) (by decide) (Nat.le_of_ble_eq_true rfl) rfl (fun C fx hnm => ?_)
  have hL := hr.l
  refine am_iload_n fx dX2_instanceAt_0 rfl ?_
  refine am_if_lt fx 22 dX2_instanceAt_1 (by decide) (fun c1 => ?_) (fun c1 => ?_)
  · try simp (disch := omega) only [bz_0, Classical.not_not, Int32.not_le, Int32.not_lt, Nat.not_le, Nat.not_lt, nI_leI, nI_ltI, nI_eq, nI_le0, nI_lt0] at c1
    refine am_iconst (v := (-1)) fx dX2_instanceAt_22 (by decide) ?_
    exact am_iret fx dX2_instanceAt_23 ⟨by rw [if_neg (fun h => absurd h.1 (Int32.not_le.mpr c1))], rfl⟩
  · try simp (disch := omega) only [bz_0, Classical.not_not, Int32.not_le, Int32.not_lt, Nat.not_le, Nat.not_lt, nI_leI, nI_ltI, nI_eq, nI_le0, nI_lt0] at c1
    refine am_iload_n fx dX2_instanceAt_4 rfl ?_
    refine am_aload_n fx dX2_instanceAt_5 rfl ?_
    refine am_getR fx dX2_instanceAt_6 fkX2_60 (by decide) (by decide) rfl (so2 hr) (rf2_3 hr) ?_
    refine am_alen fx dX2_instanceAt_9 (sa2_3 hr) (by decide) rfl ?_
    refine am_icmp_ge fx 22 dX2_instanceAt_10 (by decide) (fun c10 => ?_) (fun c10 => ?_)
    · try simp (disch := omega) only [bz_0, Classical.not_not, Int32.not_le, Int32.not_lt, Nat.not_le, Nat.not_lt, nI_leI, nI_ltI, nI_eq, nI_le0, nI_lt0] at c10
      refine am_iconst (v := (-1)) fx dX2_instanceAt_22 (by decide) ?_
      exact am_iret fx dX2_instanceAt_23 ⟨by rw [if_neg (fun h => absurd h.2 (Int32.not_lt.mpr c10))], rfl⟩
    · try simp (disch := omega) only [bz_0, Classical.not_not, Int32.not_le, Int32.not_lt, Nat.not_le, Nat.not_lt, nI_leI, nI_ltI, nI_eq, nI_le0, nI_lt0] at c10
      obtain ⟨x, hx, rfl⟩ := nI_rg2 (n := L) ⟨c1, c10⟩ (by omega)
      refine am_aload_n fx dX2_instanceAt_13 rfl ?_
      refine am_getR fx dX2_instanceAt_14 fkX2_60 (by decide) (by decide) rfl (so2 hr) (rf2_3 hr) ?_
      refine am_iload_n fx dX2_instanceAt_17 rfl ?_
      refine am_iald  fx dX2_instanceAt_18 (sa2_3 hr) rfl (by omega) (by omega) rfl ?_
      refine am_goto fx 23 dX2_instanceAt_19 (by decide) ?_
      exact am_iret fx dX2_instanceAt_23 ⟨by rw [if_pos ⟨c1, c10⟩, nI_clamp (by omega)], rfl⟩
/-- the k-th that is so, among the first n -/
def kth (b : Nat → Bool) (n k : Nat) : Option Nat := (List.range n).find? (fun s => b s && decide (cnt b s = k))
/-- the first that is so, from i on, before n -/
def frst (b : Nat → Bool) (n i : Nat) : Option Nat := (List.range n).find? (fun s => decide (i ≤ s) && b s)
theorem find_up {p : Nat → Bool} {n r : Nat} (hr : r < n) (hp : p r = true) (hn : ∀ j, j < r → p j = false) : (List.range n).find? p = some r := by
  induction n with
  | zero => omega
  | succ n ih =>
    rw [List.range_succ, List.find?_append]
    rcases Nat.lt_or_ge r n with q | q
    · rw [ih q]; rfl
    · rw [show (List.range n).find? p = none from List.find?_eq_none.mpr (fun j hj => by rw [hn j (by have := List.mem_range.mp hj; omega)]; decide), show r = n by omega]
      rw [show r = n by omega] at hp
      simp [hp]
theorem find_no {p : Nat → Bool} {n : Nat} (hn : ∀ j, j < n → p j = false) : (List.range n).find? p = none := List.find?_eq_none.mpr (fun j hj => by rw [hn j (List.mem_range.mp hj)]; decide)
set_option maxRecDepth 100000 in
set_option maxHeartbeats 4000000 in
theorem ct_X2_leftFrom {E : am_E} {μ : am_M} (hb : Bs μ) {q L : Nat} (hr : Rc μ q L) {En Rd : Nat} (ha : Ra μ q En Rd) (i : Nat) (hi : i ≤ 12) : am_Ct E yX2_leftFrom cX2_leftFrom 3 (some .int) rmX2_leftFrom [.ref (q + 1), .int (nI i)] μ (fun v μ' => v = some (.int (enO (-1) (frst (fun s => decide (mm_I μ (q + 15) s = 0)) En i))) ∧ μ = μ') := by
  refine am_Ct.of (ls := [some (.ref (q + 1)), some (.int (nI i)), none]) (by decide) (Nat.le_of_ble_eq_true rfl) rfl (fun C fx hnm => ?_)
  have hE := ha.e
  have hR := ha.r
  have hL := hr.l
  have hq := hr.qq
  refine am_iload_n fx dX2_leftFrom_0 rfl ?_
  refine am_istore_n fx dX2_leftFrom_1 (by decide) rfl ?_
  have lp2 : ∀ (mz : Nat) (r : Nat), En - r = mz → i ≤ r → r ≤ 12 → (∀ j, i ≤ j → j < r → ¬ mm_I μ (q + 15) j = 0) → am_W E C (am_MQ E C (fun v μ' => v = some (.int (enO (-1) (frst (fun s => decide (mm_I μ (q + 15) s = 0)) En i))) ∧ μ = μ') (rmX2_leftFrom).cells (rmX2_leftFrom).slots) μ 0 0 2 [some (.ref (q + 1)), some (.int (nI i)), some (.int (nI r))] [] := by
    intro mz
    induction mz using Nat.strongRecOn with
    | ind mz ih =>
      intro r hn hir hr1 hno
      refine am_iload_n fx dX2_leftFrom_2 rfl ?_
      refine am_aload_n fx dX2_leftFrom_3 rfl ?_
      refine am_getI fx dX2_leftFrom_4 fkX2_66 (by decide) (by decide) rfl (so2 hr) ha.1 ?_
      refine am_icmp_ge fx 26 dX2_leftFrom_7 (by decide) (fun c7 => ?_) (fun c7 => ?_)
      · try simp (disch := omega) only [bz_0, Classical.not_not, Int32.not_le, Int32.not_lt, Nat.not_le, Nat.not_lt, nI_leI, nI_ltI, nI_eq, nI_le0, nI_lt0] at c7
        refine am_iconst (v := (-1)) fx dX2_leftFrom_26 (by decide) ?_
        exact am_iret fx dX2_leftFrom_27 ⟨by rw [frst, find_no (fun j hj => by rcases Nat.lt_or_ge j i with z | z; simp; omega; simp [hno j z (by omega)])]; rfl, rfl⟩
      · try simp (disch := omega) only [bz_0, Classical.not_not, Int32.not_le, Int32.not_lt, Nat.not_le, Nat.not_lt, nI_leI, nI_ltI, nI_eq, nI_le0, nI_lt0] at c7
        refine am_aload_n fx dX2_leftFrom_10 rfl ?_
        refine am_iload_n fx dX2_leftFrom_11 rfl ?_
        refine am_callV fx dX2_leftFrom_12 mkX2_85 (ct_X2_isLeftN hb hr ha _ (by assumption)) (so2 hr) ⟨by decide, rfl⟩ rfl (Nat.le_of_ble_eq_true rfl) ⟨by decide, by decide⟩ ⟨Nat.le_of_ble_eq_true rfl, Nat.le_of_ble_eq_true rfl⟩ rfl ?_
        rintro _ _ ⟨rfl, rfl⟩
        refine am_if_eq fx 20 dX2_leftFrom_15 (by decide) (fun c15 => ?_) (fun c15 => ?_)
        · try simp (disch := omega) only [bz_0, Classical.not_not, Int32.not_le, Int32.not_lt, Nat.not_le, Nat.not_lt, nI_leI, nI_ltI, nI_eq, nI_le0, nI_lt0] at c15
          first | refine am_iinc fx dX2_leftFrom_20 rfl (nI_inc _) (by decide) rfl ?_ | refine am_iinc fx dX2_leftFrom_20 rfl rfl (by decide) rfl ?_
          refine am_goto fx 2 dX2_leftFrom_23 (by decide) ?_
          exact ih (En - (r + 1)) (by omega) (r + 1) rfl (by omega) (by omega) (fun j h1 h2 => by rcases Nat.lt_or_ge j r with z | z; exact hno j h1 z; rw [show j = r by omega]; exact c15)
        · try simp (disch := omega) only [bz_0, Classical.not_not, Int32.not_le, Int32.not_lt, Nat.not_le, Nat.not_lt, nI_leI, nI_ltI, nI_eq, nI_le0, nI_lt0] at c15
          refine am_iload_n fx dX2_leftFrom_18 rfl ?_
          exact am_iret fx dX2_leftFrom_19 ⟨by rw [frst, find_up c7 (by simp [c15, hir]) (fun j hj => by rcases Nat.lt_or_ge j i with z | z; simp; omega; simp [hno j z hj])]; rfl, rfl⟩
  exact lp2 _ i rfl (by omega) (by omega) (fun j h1 h2 => by omega)
theorem rem_in {b : Nat → Bool} {n r : Nat} {k : Int32} (hr : r < n) (hb : b r = true) (hk : nI (cnt b r) = k) (hl : n ≤ 12) (hno : ∀ j, j < r → b j = true → ¬ nI (cnt b j) = k) : some (Value.int (nI r)) = some (Value.int (if 0 ≤ k then enO (-1) (kth b n k.toNatClampNeg) else -1)) := by
  have hc := cnt_le b r
  subst hk
  rw [if_pos (nI_pos' (by omega)), nI_clamp (by omega), kth, find_up hr (by simp [hb])]
  · rfl
  · intro j hj
    by_cases h : b j = true
    · have h1 := hno j hj h
      have h2 := cnt_le b j
      rw [nI_eq (by omega) (by omega)] at h1
      simp [h, h1]
    · simp [h]
theorem rem_no {b : Nat → Bool} {n : Nat} {k : Int32} (hl : n ≤ 12) (hno : ∀ j, j < n → b j = true → ¬ nI (cnt b j) = k) : some (Value.int (-1)) = some (Value.int (if 0 ≤ k then enO (-1) (kth b n k.toNatClampNeg) else -1)) := by
  by_cases hk : 0 ≤ k
  · obtain ⟨k, hk2, rfl⟩ := nI_of (Int32.not_lt.mpr hk)
    rw [if_pos hk, nI_clamp hk2, kth, find_no]
    · rfl
    · intro j hj
      by_cases h : b j = true
      · have h1 := hno j hj h
        have h2 := cnt_le b j
        rw [nI_eq (by omega) hk2] at h1
        simp [h, h1]
      · simp [h]
  · rw [if_neg hk]
set_option maxRecDepth 100000 in
set_option maxHeartbeats 4000000 in
theorem ct_X2_remainingAt {E : am_E} {μ : am_M} (hb : Bs μ) {q L : Nat} (hr : Rc μ q L) {En Rd : Nat} (ha : Ra μ q En Rd) (k : Int32) : am_Ct E yX2_remainingAt cX2_remainingAt 4 (some .int) rmX2_remainingAt [.ref (q + 1), .int k] μ (fun v μ' => v = some (.int (if 0 ≤ k then enO (-1) (kth (fun s => decide (mm_I μ (q + 15) s = 0)) En k.toNatClampNeg) else -1)) ∧ μ = μ') := by
  refine am_Ct.of (ls := [some (.ref (q + 1)), some (.int k), none, none]) (by decide) (Nat.le_of_ble_eq_true rfl) rfl (fun C fx hnm => ?_)
  have hE := ha.e
  have hR := ha.r
  have hL := hr.l
  have hq := hr.qq
  refine am_iconst (v := 0) fx dX2_remainingAt_0 (by decide) ?_
  refine am_istore_n fx dX2_remainingAt_1 (by decide) rfl ?_
  refine am_iconst (v := 0) fx dX2_remainingAt_2 (by decide) ?_
  refine am_istore_n fx dX2_remainingAt_3 (by decide) rfl ?_
  have lp4 : ∀ (mz : Nat) (r : Nat) (x : Int32), En - r = mz → r ≤ En → x = nI (cnt (fun s => decide (mm_I μ (q + 15) s = 0)) r) → (∀ j, j < r → mm_I μ (q + 15) j = 0 → ¬ nI (cnt (fun s => decide (mm_I μ (q + 15) s = 0)) j) = k) → am_W E C (am_MQ E C (fun v μ' => v = some (.int (if 0 ≤ k then enO (-1) (kth (fun s => decide (mm_I μ (q + 15) s = 0)) En k.toNatClampNeg) else -1)) ∧ μ = μ') (rmX2_remainingAt).cells (rmX2_remainingAt).slots) μ 0 0 4 [some (.ref (q + 1)), some (.int k), some (.int x), some (.int (nI r))] [] := by
    intro mz
    induction mz using Nat.strongRecOn with
    | ind mz ih =>
      intro r x hn hr1 hx hno
      have hc := cnt_le (fun s => decide (mm_I μ (q + 15) s = 0)) r
      refine am_iload_n fx dX2_remainingAt_4 rfl ?_
      refine am_aload_n fx dX2_remainingAt_5 rfl ?_
      refine am_getI fx dX2_remainingAt_6 fkX2_66 (by decide) (by decide) rfl (so2 hr) ha.1 ?_
      refine am_icmp_ge fx 36 dX2_remainingAt_9 (by decide) (fun c9 => ?_) (fun c9 => ?_)
      · try simp (disch := omega) only [bz_0, Classical.not_not, Int32.not_le, Int32.not_lt, Nat.not_le, Nat.not_lt, nI_leI, nI_ltI, nI_eq, nI_le0, nI_lt0] at c9
        refine am_iconst (v := (-1)) fx dX2_remainingAt_36 (by decide) ?_
        exact am_iret fx dX2_remainingAt_37 ⟨rem_no (by omega) (fun j hj h2 => hno j (by omega) (by simpa using h2)), rfl⟩
      · try simp (disch := omega) only [bz_0, Classical.not_not, Int32.not_le, Int32.not_lt, Nat.not_le, Nat.not_lt, nI_leI, nI_ltI, nI_eq, nI_le0, nI_lt0] at c9
        refine am_aload_n fx dX2_remainingAt_12 rfl ?_
        refine am_iload_n fx dX2_remainingAt_13 rfl ?_
        refine am_callV fx dX2_remainingAt_14 mkX2_85 (ct_X2_isLeftN hb hr ha _ (by assumption)) (so2 hr) ⟨by decide, rfl⟩ rfl (Nat.le_of_ble_eq_true rfl) ⟨by decide, by decide⟩ ⟨Nat.le_of_ble_eq_true rfl, Nat.le_of_ble_eq_true rfl⟩ rfl ?_
        rintro _ _ ⟨rfl, rfl⟩
        refine am_if_eq fx 30 dX2_remainingAt_17 (by decide) (fun c17 => ?_) (fun c17 => ?_)
        · try simp (disch := omega) only [bz_0, Classical.not_not, Int32.not_le, Int32.not_lt, Nat.not_le, Nat.not_lt, nI_leI, nI_ltI, nI_eq, nI_le0, nI_lt0] at c17
          first | refine am_iinc fx dX2_remainingAt_30 rfl (nI_inc _) (by decide) rfl ?_ | refine am_iinc fx dX2_remainingAt_30 rfl rfl (by decide) rfl ?_
          refine am_goto fx 4 dX2_remainingAt_33 (by decide) ?_
          exact ih (En - (r + 1)) (by omega) (r + 1) _ rfl (by omega) (by rw [hx, cnt, if_neg (by simpa using c17)]; rfl) (fun j h1 h2 => by rcases Nat.lt_or_ge j r with z | z; exact hno j z h2; rw [show j = r by omega] at h2 ⊢; exact absurd h2 c17)
        · try simp (disch := omega) only [bz_0, Classical.not_not, Int32.not_le, Int32.not_lt, Nat.not_le, Nat.not_lt, nI_leI, nI_ltI, nI_eq, nI_le0, nI_lt0] at c17
          refine am_iload_n fx dX2_remainingAt_20 rfl ?_
          refine am_iload_n fx dX2_remainingAt_21 rfl ?_
          refine am_icmp_ne fx 27 dX2_remainingAt_22 (by decide) (fun c22 => ?_) (fun c22 => ?_)
          · skip
            first | refine am_iinc fx dX2_remainingAt_27 rfl (nI_inc _) (by decide) rfl ?_ | refine am_iinc fx dX2_remainingAt_27 rfl rfl (by decide) rfl ?_
            first | refine am_iinc fx dX2_remainingAt_30 rfl (nI_inc _) (by decide) rfl ?_ | refine am_iinc fx dX2_remainingAt_30 rfl rfl (by decide) rfl ?_
            refine am_goto fx 4 dX2_remainingAt_33 (by decide) ?_
            exact ih (En - (r + 1)) (by omega) (r + 1) _ rfl (by omega) (by rw [hx, cnt, if_pos (by simpa using c17)]; exact nI_inc _) (fun j h1 h2 => by rcases Nat.lt_or_ge j r with z | z; exact hno j z h2; rw [show j = r by omega] at h2 ⊢; rw [← hx]; exact c22)
          · skip
            refine am_iload_n fx dX2_remainingAt_25 rfl ?_
            exact am_iret fx dX2_remainingAt_26 ⟨rem_in c9 (by simpa using c17) (hx ▸ c22) (by omega) (fun j hj h2 => hno j hj (by simpa using h2)), rfl⟩
  exact lp4 _ 0 _ rfl (by omega) rfl (fun j h => by omega)
end
section
/-- ranks, as they are counted -/
def rkA (ts to : Nat → Int32) : Nat → Nat
  | 0 => 0
  | r + 1 => rkA ts to r + (if to r < ts r then 2 else if to r = ts r then 1 else 0)
theorem rkA_le (ts to : Nat → Int32) : ∀ r, rkA ts to r ≤ 2 * r
  | 0 => Nat.le_refl _
  | r + 1 => by
    have := rkA_le ts to r
    simp only [rkA]
    split
    · omega
    · split <;> omega
def rkN (lf : Nat → Bool) (tk : Nat → Nat → Int32) (Rd s : Nat) : Nat → Nat
  | 0 => 0
  | o + 1 => rkN lf tk Rd s o + (if o ≠ s ∧ lf o = true then rkA (tk s) (tk o) Rd else 0)
theorem rkN_le (lf : Nat → Bool) (tk : Nat → Nat → Int32) (Rd s : Nat) : ∀ o, rkN lf tk Rd s o ≤ 2 * Rd * o
  | 0 => Nat.le_refl _
  | o + 1 => by
    have h1 := rkN_le lf tk Rd s o
    have h2 := rkA_le (tk s) (tk o) Rd
    simp only [rkN]
    rw [Nat.mul_succ]
    split <;> omega
theorem rkN_top (lf : Nat → Bool) (tk : Nat → Nat → Int32) {Rd s o : Nat} (hR : Rd ≤ 24) (ho : o ≤ 12) : rkN lf tk Rd s o ≤ 600 := by
  have h1 := rkN_le lf tk Rd s o
  have h2 : 2 * Rd * o ≤ 48 * 12 := Nat.mul_le_mul (by omega) ho
  omega
abbrev tkn (μ : am_M) (q : Nat) : Nat → Nat → Int32 := fun s r => mm_I μ (q + 3 + s) r
abbrev lft (μ : am_M) (q : Nat) : Nat → Bool := fun s => decide (mm_I μ (q + 15) s = 0)
set_option maxRecDepth 100000 in
set_option maxHeartbeats 4000000 in
theorem ct_X2_rankAgainst {E : am_E} {μ : am_M} (hb : Bs μ) {q L : Nat} (hr : Rc μ q L) {En Rd : Nat} (ha : Ra μ q En Rd) (s o : Nat) (hs : s < 12) (ho : o < 12) : am_Ct E yX2_rankAgainst cX2_rankAgainst 5 (some .int) rmX2_rankAgainst [.ref (q + 1), .int (nI s), .int (nI o)] μ (fun v μ' => v = some (.int (nI (rkA (tkn μ q s) (tkn μ q o) Rd))) ∧ μ = μ') := by
  refine am_Ct.of (ls := [some (.ref (q + 1)), some (.int (nI s)), some (.int (nI o)), none, none]) (by decide) (Nat.le_of_ble_eq_true rfl) rfl (fun C fx hnm => ?_)
  have hE := ha.e
  have hR := ha.r
  have hL := hr.l
  have hq := hr.qq
  refine am_iconst (v := 0) fx dX2_rankAgainst_0 (by decide) ?_
  refine am_istore_n fx dX2_rankAgainst_1 (by decide) rfl ?_
  refine am_iconst (v := 0) fx dX2_rankAgainst_2 (by decide) ?_
  refine am_istore fx dX2_rankAgainst_3 (by decide) rfl ?_
  have lp5 : ∀ (mz : Nat) (r : Nat) (x : Int32), Rd - r = mz → r ≤ Rd → x = nI (rkA (tkn μ q s) (tkn μ q o) r) → am_W E C (am_MQ E C (fun v μ' => v = some (.int (nI (rkA (tkn μ q s) (tkn μ q o) Rd))) ∧ μ = μ') (rmX2_rankAgainst).cells (rmX2_rankAgainst).slots) μ 0 0 5 [some (.ref (q + 1)), some (.int (nI s)), some (.int (nI o)), some (.int x), some (.int (nI r))] [] := by
    intro mz
    induction mz using Nat.strongRecOn with
    | ind mz ih =>
      intro r x hn hr1 hx
      refine am_iload fx dX2_rankAgainst_5 rfl ?_
      refine am_aload_n fx dX2_rankAgainst_7 rfl ?_
      refine am_getI fx dX2_rankAgainst_8 fkX2_33 (by decide) (by decide) rfl (so2 hr) ha.2.1 ?_
      refine am_icmp_ge fx 71 dX2_rankAgainst_11 (by decide) (fun c11 => ?_) (fun c11 => ?_)
      · try simp (disch := omega) only [bz_0, Classical.not_not, Int32.not_le, Int32.not_lt, Nat.not_le, Nat.not_lt, nI_leI, nI_ltI, nI_eq, nI_le0, nI_lt0] at c11
        refine am_iload_n fx dX2_rankAgainst_71 rfl ?_
        exact am_iret fx dX2_rankAgainst_72 ⟨by rw [hx, show r = Rd by omega], rfl⟩
      · try simp (disch := omega) only [bz_0, Classical.not_not, Int32.not_le, Int32.not_lt, Nat.not_le, Nat.not_lt, nI_leI, nI_ltI, nI_eq, nI_le0, nI_lt0] at c11
        refine am_aload_n fx dX2_rankAgainst_14 rfl ?_
        refine am_getR fx dX2_rankAgainst_15 fkX2_11 (by decide) (by decide) rfl (so2 hr) (rf2_5 hr) ?_
        refine am_iload_n fx dX2_rankAgainst_18 rfl ?_
        refine am_aald  fx dX2_rankAgainst_19 (sa2_5 hr) rfl (by omega) (by decide) (rg2_5 hr (by omega)) ?_
        refine am_iload fx dX2_rankAgainst_20 rfl ?_
        refine am_iald  fx dX2_rankAgainst_22 (sg2_5 hr (by omega)) rfl (by omega) (by decide) rfl ?_
        refine am_aload_n fx dX2_rankAgainst_23 rfl ?_
        refine am_getR fx dX2_rankAgainst_24 fkX2_11 (by decide) (by decide) rfl (so2 hr) (rf2_5 hr) ?_
        refine am_iload_n fx dX2_rankAgainst_27 rfl ?_
        refine am_aald  fx dX2_rankAgainst_28 (sa2_5 hr) rfl (by omega) (by decide) (rg2_5 hr (by omega)) ?_
        refine am_iload fx dX2_rankAgainst_29 rfl ?_
        refine am_iald  fx dX2_rankAgainst_31 (sg2_5 hr (by omega)) rfl (by omega) (by decide) rfl ?_
        refine am_icmp_ge fx 41 dX2_rankAgainst_32 (by decide) (fun c32 => ?_) (fun c32 => ?_)
        · try simp (disch := omega) only [bz_0, Classical.not_not, Int32.not_le, Int32.not_lt, Nat.not_le, Nat.not_lt, nI_leI, nI_ltI, nI_eq, nI_le0, nI_lt0] at c32
          refine am_aload_n fx dX2_rankAgainst_41 rfl ?_
          refine am_getR fx dX2_rankAgainst_42 fkX2_11 (by decide) (by decide) rfl (so2 hr) (rf2_5 hr) ?_
          refine am_iload_n fx dX2_rankAgainst_45 rfl ?_
          refine am_aald  fx dX2_rankAgainst_46 (sa2_5 hr) rfl (by omega) (by decide) (rg2_5 hr (by omega)) ?_
          refine am_iload fx dX2_rankAgainst_47 rfl ?_
          refine am_iald  fx dX2_rankAgainst_49 (sg2_5 hr (by omega)) rfl (by omega) (by decide) rfl ?_
          refine am_aload_n fx dX2_rankAgainst_50 rfl ?_
          refine am_getR fx dX2_rankAgainst_51 fkX2_11 (by decide) (by decide) rfl (so2 hr) (rf2_5 hr) ?_
          refine am_iload_n fx dX2_rankAgainst_54 rfl ?_
          refine am_aald  fx dX2_rankAgainst_55 (sa2_5 hr) rfl (by omega) (by decide) (rg2_5 hr (by omega)) ?_
          refine am_iload fx dX2_rankAgainst_56 rfl ?_
          refine am_iald  fx dX2_rankAgainst_58 (sg2_5 hr (by omega)) rfl (by omega) (by decide) rfl ?_
          refine am_icmp_ne fx 65 dX2_rankAgainst_59 (by decide) (fun c59 => ?_) (fun c59 => ?_)
          · try simp (disch := omega) only [bz_0, Classical.not_not, Int32.not_le, Int32.not_lt, Nat.not_le, Nat.not_lt, nI_leI, nI_ltI, nI_eq, nI_le0, nI_lt0] at c59
            first | refine am_iinc fx dX2_rankAgainst_65 rfl (nI_inc _) (by decide) rfl ?_ | refine am_iinc fx dX2_rankAgainst_65 rfl rfl (by decide) rfl ?_
            refine am_goto fx 5 dX2_rankAgainst_68 (by decide) ?_
            exact ih (Rd - (r + 1)) (by omega) (r + 1) _ rfl (by omega) (by rw [hx]; simp only [rkA]; rw [if_neg (Int32.not_lt.mpr c32), if_neg c59]; rfl)
          · try simp (disch := omega) only [bz_0, Classical.not_not, Int32.not_le, Int32.not_lt, Nat.not_le, Nat.not_lt, nI_leI, nI_ltI, nI_eq, nI_le0, nI_lt0] at c59
            first | refine am_iinc fx dX2_rankAgainst_62 rfl (nI_inc _) (by decide) rfl ?_ | refine am_iinc fx dX2_rankAgainst_62 rfl rfl (by decide) rfl ?_
            first | refine am_iinc fx dX2_rankAgainst_65 rfl (nI_inc _) (by decide) rfl ?_ | refine am_iinc fx dX2_rankAgainst_65 rfl rfl (by decide) rfl ?_
            refine am_goto fx 5 dX2_rankAgainst_68 (by decide) ?_
            exact ih (Rd - (r + 1)) (by omega) (r + 1) _ rfl (by omega) (by rw [hx]; simp only [rkA]; rw [if_neg (Int32.not_lt.mpr c32), if_pos c59]; exact nI_inc _)
        · try simp (disch := omega) only [bz_0, Classical.not_not, Int32.not_le, Int32.not_lt, Nat.not_le, Nat.not_lt, nI_leI, nI_ltI, nI_eq, nI_le0, nI_lt0] at c32
          first | refine am_iinc fx dX2_rankAgainst_35 rfl rfl (by decide) rfl ?_ | refine am_iinc fx dX2_rankAgainst_35 rfl rfl (by decide) rfl ?_
          refine am_goto fx 65 dX2_rankAgainst_38 (by decide) ?_
          first | refine am_iinc fx dX2_rankAgainst_65 rfl (nI_inc _) (by decide) rfl ?_ | refine am_iinc fx dX2_rankAgainst_65 rfl rfl (by decide) rfl ?_
          refine am_goto fx 5 dX2_rankAgainst_68 (by decide) ?_
          exact ih (Rd - (r + 1)) (by omega) (r + 1) _ rfl (by omega) (by rw [hx]; simp only [rkA]; rw [if_pos c32]; exact nI_add _ 2)
  exact lp5 _ 0 _ rfl (by omega) rfl
set_option maxRecDepth 100000 in
set_option maxHeartbeats 4000000 in
theorem ct_X2_rankOf {E : am_E} {μ : am_M} (hb : Bs μ) {q L : Nat} (hr : Rc μ q L) {En Rd : Nat} (ha : Ra μ q En Rd) (s : Nat) (hs : s < 12) : am_Ct E yX2_rankOf cX2_rankOf 4 (some .int) rmX2_rankOf [.ref (q + 1), .int (nI s)] μ (fun v μ' => v = some (.int (nI (rkN (lft μ q) (tkn μ q) Rd s En))) ∧ μ = μ') := by
  refine am_Ct.of (ls := [some (.ref (q + 1)), some (.int (nI s)), none, none]) (by decide) (Nat.le_of_ble_eq_true rfl) rfl (fun C fx hnm => ?_)
  have hE := ha.e
  have hR := ha.r
  have hL := hr.l
  have hq := hr.qq
  refine am_iconst (v := 0) fx dX2_rankOf_0 (by decide) ?_
  refine am_istore_n fx dX2_rankOf_1 (by decide) rfl ?_
  refine am_iconst (v := 0) fx dX2_rankOf_2 (by decide) ?_
  refine am_istore_n fx dX2_rankOf_3 (by decide) rfl ?_
  have lp4 : ∀ (mz : Nat) (o : Nat) (x : Int32), En - o = mz → o ≤ En → x = nI (rkN (lft μ q) (tkn μ q) Rd s o) → am_W E C (am_MQ E C (fun v μ' => v = some (.int (nI (rkN (lft μ q) (tkn μ q) Rd s En))) ∧ μ = μ') (rmX2_rankOf).cells (rmX2_rankOf).slots) μ 0 0 4 [some (.ref (q + 1)), some (.int (nI s)), some (.int x), some (.int (nI o))] [] := by
    intro mz
    induction mz using Nat.strongRecOn with
    | ind mz ih =>
      intro o x hn ho hx
      refine am_iload_n fx dX2_rankOf_4 rfl ?_
      refine am_aload_n fx dX2_rankOf_5 rfl ?_
      refine am_getI fx dX2_rankOf_6 fkX2_66 (by decide) (by decide) rfl (so2 hr) ha.1 ?_
      refine am_icmp_ge fx 40 dX2_rankOf_9 (by decide) (fun c9 => ?_) (fun c9 => ?_)
      · try simp (disch := omega) only [bz_0, Classical.not_not, Int32.not_le, Int32.not_lt, Nat.not_le, Nat.not_lt, nI_leI, nI_ltI, nI_eq, nI_le0, nI_lt0] at c9
        refine am_iload_n fx dX2_rankOf_40 rfl ?_
        exact am_iret fx dX2_rankOf_41 ⟨by rw [hx, show o = En by omega], rfl⟩
      · try simp (disch := omega) only [bz_0, Classical.not_not, Int32.not_le, Int32.not_lt, Nat.not_le, Nat.not_lt, nI_leI, nI_ltI, nI_eq, nI_le0, nI_lt0] at c9
        refine am_iload_n fx dX2_rankOf_12 rfl ?_
        refine am_iload_n fx dX2_rankOf_13 rfl ?_
        refine am_icmp_eq fx 34 dX2_rankOf_14 (by decide) (fun c14 => ?_) (fun c14 => ?_)
        · try simp (disch := omega) only [bz_0, Classical.not_not, Int32.not_le, Int32.not_lt, Nat.not_le, Nat.not_lt, nI_leI, nI_ltI, nI_eq, nI_le0, nI_lt0] at c14
          first | refine am_iinc fx dX2_rankOf_34 rfl (nI_inc _) (by decide) rfl ?_ | refine am_iinc fx dX2_rankOf_34 rfl rfl (by decide) rfl ?_
          refine am_goto fx 4 dX2_rankOf_37 (by decide) ?_
          exact ih (En - (o + 1)) (by omega) (o + 1) _ rfl (by omega) (by rw [hx]; simp only [rkN]; rw [if_neg (fun z => z.1 c14)]; rfl)
        · try simp (disch := omega) only [bz_0, Classical.not_not, Int32.not_le, Int32.not_lt, Nat.not_le, Nat.not_lt, nI_leI, nI_ltI, nI_eq, nI_le0, nI_lt0] at c14
          refine am_aload_n fx dX2_rankOf_17 rfl ?_
          refine am_iload_n fx dX2_rankOf_18 rfl ?_
          refine am_callV fx dX2_rankOf_19 mkX2_85 (ct_X2_isLeftN hb hr ha _ (by assumption)) (so2 hr) ⟨by decide, rfl⟩ rfl (Nat.le_of_ble_eq_true rfl) ⟨by decide, by decide⟩ ⟨Nat.le_of_ble_eq_true rfl, Nat.le_of_ble_eq_true rfl⟩ rfl ?_
          rintro _ _ ⟨rfl, rfl⟩
          refine am_if_eq fx 34 dX2_rankOf_22 (by decide) (fun c22 => ?_) (fun c22 => ?_)
          · try simp (disch := omega) only [bz_0, Classical.not_not, Int32.not_le, Int32.not_lt, Nat.not_le, Nat.not_lt, nI_leI, nI_ltI, nI_eq, nI_le0, nI_lt0] at c22
            first | refine am_iinc fx dX2_rankOf_34 rfl (nI_inc _) (by decide) rfl ?_ | refine am_iinc fx dX2_rankOf_34 rfl rfl (by decide) rfl ?_
            refine am_goto fx 4 dX2_rankOf_37 (by decide) ?_
            exact ih (En - (o + 1)) (by omega) (o + 1) _ rfl (by omega) (by rw [hx]; simp only [rkN]; rw [if_neg (fun z => c22 (by simpa using z.2))]; rfl)
          · try simp (disch := omega) only [bz_0, Classical.not_not, Int32.not_le, Int32.not_lt, Nat.not_le, Nat.not_lt, nI_leI, nI_ltI, nI_eq, nI_le0, nI_lt0] at c22
            refine am_iload_n fx dX2_rankOf_25 rfl ?_
            refine am_aload_n fx dX2_rankOf_26 rfl ?_
            refine am_iload_n fx dX2_rankOf_27 rfl ?_
            refine am_iload_n fx dX2_rankOf_28 rfl ?_
            refine am_callV fx dX2_rankOf_29 mkX2_131 (ct_X2_rankAgainst hb hr ha _ _ hs (by omega)) (so2 hr) ⟨by decide, rfl⟩ rfl (Nat.le_of_ble_eq_true rfl) ⟨by decide, by decide⟩ ⟨Nat.le_of_ble_eq_true rfl, Nat.le_of_ble_eq_true rfl⟩ rfl ?_
            rintro _ _ ⟨rfl, rfl⟩
            refine am_iadd fx dX2_rankOf_32 ?_
            refine am_istore_n fx dX2_rankOf_33 (by decide) rfl ?_
            first | refine am_iinc fx dX2_rankOf_34 rfl (nI_inc _) (by decide) rfl ?_ | refine am_iinc fx dX2_rankOf_34 rfl rfl (by decide) rfl ?_
            refine am_goto fx 4 dX2_rankOf_37 (by decide) ?_
            exact ih (En - (o + 1)) (by omega) (o + 1) _ rfl (by omega) (by rw [hx]; simp only [rkN]; rw [if_pos ⟨c14, by simpa using c22⟩]; exact nI_add _ _)
  exact lp4 _ 0 _ rfl (by omega) rfl
def sm64 (t : Nat → Int32) : Nat → Int64
  | 0 => 0
  | r + 1 => sm64 t r + (t r).toInt64
set_option maxRecDepth 100000 in
set_option maxHeartbeats 4000000 in
theorem ct_X2_sumOfFirst {E : am_E} {μ : am_M} (hb : Bs μ) {q L : Nat} (hr : Rc μ q L) {En Rd : Nat} (ha : Ra μ q En Rd) (s n : Nat) (hs : s < En) (hn : nI n ≤ mm_I μ (q + 16) s) (hn24 : n ≤ 24) : am_Ct E yX2_sumOfFirst cX2_sumOfFirst 6 (some .long) rmX2_sumOfFirst [.ref (q + 1), .int (nI s), .int (nI n)] μ (fun v μ' => v = some (.long (sm64 (tkn μ q s) n)) ∧ μ = μ') := by
  refine am_Ct.of (ls := [some (.ref (q + 1)), some (.int (nI s)), some (.int (nI n)), none, none, none]) (by decide) (Nat.le_of_ble_eq_true rfl) rfl (fun C fx hnm => ?_)
  have hE := ha.e
  have hR := ha.r
  have hL := hr.l
  have hq := hr.qq
  refine am_lconst (v := 0) fx dX2_sumOfFirst_0 (by decide) ?_
  refine am_lstore_n fx dX2_sumOfFirst_1 (by decide) rfl ?_
  refine am_iconst (v := 0) fx dX2_sumOfFirst_2 (by decide) ?_
  refine am_istore fx dX2_sumOfFirst_3 (by decide) rfl ?_
  have lp5 : ∀ (mz : Nat) (r : Nat) (x : Int64), n - r = mz → r ≤ n → x = sm64 (tkn μ q s) r → am_W E C (am_MQ E C (fun v μ' => v = some (.long (sm64 (tkn μ q s) n)) ∧ μ = μ') (rmX2_sumOfFirst).cells (rmX2_sumOfFirst).slots) μ 0 0 5 [some (.ref (q + 1)), some (.int (nI s)), some (.int (nI n)), some (.long x), none, some (.int (nI r))] [] := by
    intro mz
    induction mz using Nat.strongRecOn with
    | ind mz ih =>
      intro r x hz hr1 hx
      refine am_iload fx dX2_sumOfFirst_5 rfl ?_
      refine am_iload_n fx dX2_sumOfFirst_7 rfl ?_
      refine am_icmp_ge fx 49 dX2_sumOfFirst_8 (by decide) (fun c8 => ?_) (fun c8 => ?_)
      · try simp (disch := omega) only [bz_0, Classical.not_not, Int32.not_le, Int32.not_lt, Nat.not_le, Nat.not_lt, nI_leI, nI_ltI, nI_eq, nI_le0, nI_lt0] at c8
        refine am_lload_n fx dX2_sumOfFirst_49 rfl ?_
        exact am_lret fx dX2_sumOfFirst_50 ⟨by rw [hx, show r = n by omega], rfl⟩
      · try simp (disch := omega) only [bz_0, Classical.not_not, Int32.not_le, Int32.not_lt, Nat.not_le, Nat.not_lt, nI_leI, nI_ltI, nI_eq, nI_le0, nI_lt0] at c8
        refine am_aload_n fx dX2_sumOfFirst_11 rfl ?_
        refine am_iload_n fx dX2_sumOfFirst_12 rfl ?_
        refine am_callV fx dX2_sumOfFirst_13 mkX2_137 (ct_X2_isEntered hb hr ha _) (so2 hr) ⟨by decide, rfl⟩ rfl (Nat.le_of_ble_eq_true rfl) ⟨by decide, by decide⟩ ⟨Nat.le_of_ble_eq_true rfl, Nat.le_of_ble_eq_true rfl⟩ rfl ?_
        rintro _ _ ⟨rfl, rfl⟩
        refine am_if_eq fx 49 dX2_sumOfFirst_16 (by decide) (fun c16 => ?_) (fun c16 => ?_)
        · try simp (disch := omega) only [bz_0, Classical.not_not, Int32.not_le, Int32.not_lt, Nat.not_le, Nat.not_lt, nI_leI, nI_ltI, nI_eq, nI_le0, nI_lt0] at c16
          exact absurd ⟨nI_pos' (by omega), hs⟩ c16
        · try simp (disch := omega) only [bz_0, Classical.not_not, Int32.not_le, Int32.not_lt, Nat.not_le, Nat.not_lt, nI_leI, nI_ltI, nI_eq, nI_le0, nI_lt0] at c16
          refine am_iload fx dX2_sumOfFirst_19 rfl ?_
          refine am_aload_n fx dX2_sumOfFirst_21 rfl ?_
          refine am_getR fx dX2_sumOfFirst_22 fkX2_20 (by decide) (by decide) rfl (so2 hr) (rf2_7 hr) ?_
          refine am_iload_n fx dX2_sumOfFirst_25 rfl ?_
          refine am_iald  fx dX2_sumOfFirst_26 (sa2_7 hr) rfl (by omega) (by decide) rfl ?_
          refine am_icmp_ge fx 49 dX2_sumOfFirst_27 (by decide) (fun c27 => ?_) (fun c27 => ?_)
          · skip
            exact absurd (Int32.lt_of_lt_of_le (nI_lt (show r < n by omega) (by omega)) hn) (Int32.not_lt.mpr c27)
          · skip
            refine am_lload_n fx dX2_sumOfFirst_30 rfl ?_
            refine am_aload_n fx dX2_sumOfFirst_31 rfl ?_
            refine am_getR fx dX2_sumOfFirst_32 fkX2_11 (by decide) (by decide) rfl (so2 hr) (rf2_5 hr) ?_
            refine am_iload_n fx dX2_sumOfFirst_35 rfl ?_
            refine am_aald  fx dX2_sumOfFirst_36 (sa2_5 hr) rfl (by omega) (by decide) (rg2_5 hr (by omega)) ?_
            refine am_iload fx dX2_sumOfFirst_37 rfl ?_
            refine am_iald  fx dX2_sumOfFirst_39 (sg2_5 hr (by omega)) rfl (by omega) (by decide) rfl ?_
            refine am_i2l fx dX2_sumOfFirst_40 rfl ?_
            refine am_ladd fx dX2_sumOfFirst_41 ?_
            refine am_lstore_n fx dX2_sumOfFirst_42 (by decide) rfl ?_
            first | refine am_iinc fx dX2_sumOfFirst_43 rfl (nI_inc _) (by decide) rfl ?_ | refine am_iinc fx dX2_sumOfFirst_43 rfl rfl (by decide) rfl ?_
            refine am_goto fx 5 dX2_sumOfFirst_46 (by decide) ?_
            exact ih (n - (r + 1)) (by omega) (r + 1) _ rfl (by omega) (by rw [hx]; rfl)
  exact lp5 _ 0 _ rfl (by omega) rfl
/-! odds of one over another, by their costs in the first m rounds -/
def filv (b : Nat → Bool) (v : Nat → Int32) (g : Nat → Int32) : Nat → Nat → Int32
  | 0 => g
  | k + 1 => if b k = true then upd (filv b v g k) (cnt b k) (v k) else filv b v g k
theorem filv_any (b : Nat → Bool) (v g g' : Nat → Int32) : ∀ (n j : Nat), j < cnt b n → filv b v g n j = filv b v g' n j
  | 0, j, h => by simp [cnt] at h
  | n + 1, j, h => by
    simp only [cnt] at h
    simp only [filv]
    by_cases hb : b n = true
    · simp only [if_pos hb] at h ⊢
      simp only [upd]
      by_cases hj : j = cnt b n
      · simp [hj]
      · rw [if_neg hj, if_neg hj]
        exact filv_any b v g g' n j (by omega)
    · simp only [if_neg hb] at h ⊢
      exact filv_any b v g g' n j (by omega)
theorem wts_congr {g g' : Nat → Int32} {k n : Nat} (hk : g k = g' k) : ∀ m, m ≤ n → (∀ j, j < n → g j = g' j) → wts g k m = wts g' k m
  | 0, _, _ => rfl
  | m + 1, h, q => by
    simp only [wts, wte]
    rw [wts_congr hk m (by omega) q, hk, q m (by omega)]
theorem odw_congr {kd : Int32} {g g' : Nat → Int32} {n k : Nat} (hk : k < n) (q : ∀ j, j < n → g j = g' j) : odw kd g n k = odw kd g' n k := by
  unfold odw wtN
  rw [wts_congr (q k hk) n (Nat.le_refl n) q]
theorem mst_congr {kd : Int32} {g g' : Nat → Int32} {n : Nat} (q : ∀ j, j < n → g j = g' j) : ∀ k, k ≤ n → mst kd g n k = mst kd g' n k
  | 0, _ => rfl
  | k + 1, h => by simp only [mst]; rw [mst_congr q k (by omega), odw_congr (by omega) q]
theorem rch_congr {kd : Int32} {g g' f f' : Nat → Int32} {n : Nat} (q : ∀ j, j < n → g j = g' j) (qf : ∀ j, j < n → f j = f' j) : ∀ k, k ≤ n → rch kd g f n k = rch kd g' f' n k
  | 0, _ => rfl
  | k + 1, h => by simp only [rch]; rw [rch_congr q qf k (by omega), odw_congr (by omega) q, qf k (by omega)]
theorem wy_congr {kd : Int32} {g g' : Nat → Int32} {n : Nat} (q : ∀ j, j < n → g j = g' j) : ∀ k, k ≤ n → wy kd g n k = wy kd g' n k
  | 0, _ => rfl
  | k + 1, h => by simp only [wy]; rw [wy_congr q k (by omega), odw_congr (by omega) q, mst_congr q (k + 1) h]
theorem upN_congr {kd : Int32} {g g' f f' : Nat → Int32} {n : Nat} (q : ∀ j, j < n → g j = g' j) (qf : ∀ j, j < n → f j = f' j) : upN kd g f n = upN kd g' f' n := by
  unfold upN
  rw [wy_congr q n (Nat.le_refl n), rch_congr q qf n (Nat.le_refl n), mst_congr q n (Nat.le_refl n)]
abbrev neB (ca cb : Nat → Int32) : Nat → Bool := fun r => decide (¬ ca r = cb r)
def gpz (ca cb : Nat → Int32) (m : Nat) : Nat → Int32 := filv (neB ca cb) (fun r => ab (ca r - cb r)) (fun _ => 0) m
def fpz (ca cb : Nat → Int32) (m : Nat) : Nat → Int32 := filv (neB ca cb) (fun r => bz (ca r < cb r)) (fun _ => 0) m
def odN (ca cb : Nat → Int32) (m : Nat) : Nat := cnt (neB ca cb) m
def odU (kd : Int32) (ca cb : Nat → Int32) (m : Nat) : Int64 := upN kd (gpz ca cb m) (fpz ca cb m) (odN ca cb m)
/-- the cells that odds are counted in -/
def Sod (a : Nat) : Prop := a = 21 ∨ a = 22 ∨ a = 23 ∨ a = 24
theorem Sod.d (a : Nat) : 57 ≤ a → ¬ Sod a := by unfold Sod; omega
theorem nI_min {a b : Nat} (ha : a < 2 ^ 31) (hb : b < 2 ^ 31) : (if nI b < nI a then nI b else nI a) = nI (min a b) := by
  by_cases h : b < a
  · rw [if_pos (nI_lt h ha), Nat.min_eq_right (by omega)]
  · rw [if_neg (by rw [nI_ltI hb ha]; exact h), Nat.min_eq_left (by omega)]
theorem odd_ne {ν : am_M} {c : Nat} {x y : Int32} : Sm Sod ν (mm_sI (mm_sI (mm_sI ν 22 c x) 23 c y) 21 3 (nI (c + 1))) := (Sm.sI ν (Or.inr (Or.inl rfl))).tr ((Sm.sI _ (Or.inr (Or.inr (Or.inl rfl)))).tr (Sm.sI _ (Or.inl rfl)))
theorem odd_22 {ν : am_M} {c j : Nat} {x y z : Int32} : mm_I (mm_sI (mm_sI (mm_sI ν 22 c x) 23 c y) 21 3 z) 22 j = upd (mm_I ν 22) c x j := by
  rw [mI_ne (Or.inl (by decide)), mI_ne (Or.inl (by decide)), mI_sI]
  unfold upd
  by_cases h : j = c
  · rw [if_pos ⟨rfl, h⟩, if_pos h]
  · rw [if_neg (fun q => h q.2), if_neg h]
theorem odd_23 {ν : am_M} {c j : Nat} {x y z : Int32} : mm_I (mm_sI (mm_sI (mm_sI ν 22 c x) 23 c y) 21 3 z) 23 j = upd (mm_I ν 23) c y j := by
  rw [mI_ne (Or.inl (by decide)), mI_sI]
  unfold upd
  by_cases h : j = c
  · rw [if_pos ⟨rfl, h⟩, if_pos h]
  · rw [if_neg (fun q => h q.2), if_neg h]
    exact mI_ne (Or.inl (by decide))
theorem odd_step {ν ν' : am_M} {b : Nat → Bool} {ca cb : Nat → Int32} {r : Nat} (hbb : b = neB ca cb) (h3 : mm_I ν 21 3 = nI (cnt b r)) (hgf : ∀ j, j < cnt b r → mm_I ν 22 j = filv b (fun r => ab (ca r - cb r)) (fun _ => 0) r j ∧ mm_I ν 23 j = filv b (fun r => bz (ca r < cb r)) (fun _ => 0) r j) (e : ν' = if ca r = cb r then ν else mm_sI (mm_sI (mm_sI ν 22 (cnt b r) (ab (ca r - cb r))) 23 (cnt b r) (bz (ca r < cb r))) 21 3 (nI (cnt b r + 1))) :
    Sm Sod ν ν' ∧ mm_I ν' 21 3 = nI (cnt b (r + 1)) ∧ (∀ j, j < cnt b (r + 1) → mm_I ν' 22 j = filv b (fun r => ab (ca r - cb r)) (fun _ => 0) (r + 1) j ∧ mm_I ν' 23 j = filv b (fun r => bz (ca r < cb r)) (fun _ => 0) (r + 1) j) := by
  by_cases h : ca r = cb r
  · have hb : ¬ b r = true := by rw [hbb]; simp [h]
    rw [if_pos h] at e
    subst e
    simp only [cnt, filv, if_neg hb, Nat.add_zero]
    exact ⟨Sm.rf _ _, h3, hgf⟩
  · have hb : b r = true := by rw [hbb]; simp [h]
    rw [if_neg h] at e
    have hc : cnt b (r + 1) = cnt b r + 1 := by simp only [cnt, if_pos hb]
    rw [hc]
    subst e
    refine ⟨odd_ne, mI_same _ _ _ _, fun j hj => ?_⟩
    rw [odd_22, odd_23]
    simp only [filv, if_pos hb, upd]
    by_cases e : j = cnt b r
    · rw [if_pos e, if_pos e, if_pos e, if_pos e]; exact ⟨rfl, rfl⟩
    · rw [if_neg e, if_neg e, if_neg e, if_neg e]; exact hgf j (by omega)
set_option maxRecDepth 100000 in
set_option maxHeartbeats 4000000 in
theorem ct_X2_countOdds {E : am_E} {μ : am_M} (hb : Bs μ) {q L : Nat} (hr : Rc μ q L) {En Rd : Nat} (ha : Ra μ q En Rd) (a b ra rb : Nat) (h1 : a < En) (h2 : b < En) (e1 : mm_I μ (q + 16) a = nI ra) (e2 : mm_I μ (q + 16) b = nI rb) (hra : ra ≤ 24) (hrb : rb ≤ 24) : am_Ct E yX2_countOdds cX2_countOdds 5 none rmX2_countOdds [.ref (q + 1), .int (nI a), .int (nI b)] μ (fun v μ' => v = none ∧ Sm Sod μ μ' ∧ mm_L μ' 21 5 = pw (odN (tkn μ q a) (tkn μ q b) (min Rd (min ra rb))) ∧ mm_L μ' 21 4 = odU (mm_I μ q 0) (tkn μ q a) (tkn μ q b) (min Rd (min ra rb))) := by
  refine am_Ct.of (ls := [some (.ref (q + 1)), some (.int (nI a)), some (.int (nI b)), none, none]) (by decide) (Nat.le_of_ble_eq_true rfl) rfl (fun C fx hnm => ?_)
  have hE := ha.e
  have hR := ha.r
  have hL := hr.l
  have hq := hr.qq
  have hm : min Rd (min ra rb) ≤ 24 := by omega
  refine am_aload_n fx dX2_countOdds_0 rfl ?_
  refine am_getR fx dX2_countOdds_1 fkX2_46 (by decide) (by decide) rfl (so2 hr) (rf2_1 hr) ?_
  refine am_callV fx dX2_countOdds_4 mkX2_134 (ct_X0_clear hb) (so0 hb) ⟨by decide, rfl⟩ rfl (Nat.le_of_ble_eq_true rfl) ⟨by decide, by decide⟩ ⟨Nat.le_of_ble_eq_true rfl, Nat.le_of_ble_eq_true rfl⟩ rfl ?_
  rintro _ _ ⟨rfl, rfl⟩
  have hb0 : Bs (mm_sI μ 21 3 0) := hb.fr (Fr.sI _ _ _ _)
  have hr0 : Rc (mm_sI μ 21 3 0) q L := hr.fr (Fr.sI _ _ _ _)
  have hd0 : ∀ x k, 57 ≤ x → mm_I (mm_sI μ 21 3 0) x k = mm_I μ x k := fun x k hx => mI_ne (Or.inl (by omega))
  have ha0 : Ra (mm_sI μ 21 3 0) q En Rd := ⟨by rw [hd0 _ _ (by omega)]; exact ha.1, by rw [hd0 _ _ (by omega)]; exact ha.2.1, hE, hR⟩
  refine am_aload_n fx dX2_countOdds_7 rfl ?_
  refine am_iload_n fx dX2_countOdds_8 rfl ?_
  refine am_callV fx dX2_countOdds_9 mkX2_137 (ct_X2_isEntered hb0 hr0 ha0 _) (so2 hr0) ⟨by decide, rfl⟩ rfl (Nat.le_of_ble_eq_true rfl) ⟨by decide, by decide⟩ ⟨Nat.le_of_ble_eq_true rfl, Nat.le_of_ble_eq_true rfl⟩ rfl ?_
  rintro _ _ ⟨rfl, rfl⟩
  refine am_if_eq fx 86 dX2_countOdds_12 (by decide) (fun c12 => ?_) (fun c12 => ?_)
  · try simp (disch := omega) only [bz_0, Classical.not_not, Int32.not_le, Int32.not_lt, Nat.not_le, Nat.not_lt, nI_leI, nI_ltI, nI_eq, nI_le0, nI_lt0] at c12
    exact absurd ⟨nI_pos' (by omega), h1⟩ c12
  · try simp (disch := omega) only [bz_0, Classical.not_not, Int32.not_le, Int32.not_lt, Nat.not_le, Nat.not_lt, nI_leI, nI_ltI, nI_eq, nI_le0, nI_lt0] at c12
    refine am_aload_n fx dX2_countOdds_15 rfl ?_
    refine am_iload_n fx dX2_countOdds_16 rfl ?_
    refine am_callV fx dX2_countOdds_17 mkX2_137 (ct_X2_isEntered hb0 hr0 ha0 _) (so2 hr0) ⟨by decide, rfl⟩ rfl (Nat.le_of_ble_eq_true rfl) ⟨by decide, by decide⟩ ⟨Nat.le_of_ble_eq_true rfl, Nat.le_of_ble_eq_true rfl⟩ rfl ?_
    rintro _ _ ⟨rfl, rfl⟩
    refine am_if_eq fx 86 dX2_countOdds_20 (by decide) (fun c20 => ?_) (fun c20 => ?_)
    · try simp (disch := omega) only [bz_0, Classical.not_not, Int32.not_le, Int32.not_lt, Nat.not_le, Nat.not_lt, nI_leI, nI_ltI, nI_eq, nI_le0, nI_lt0] at c20
      exact absurd ⟨nI_pos' (by omega), h2⟩ c20
    · try simp (disch := omega) only [bz_0, Classical.not_not, Int32.not_le, Int32.not_lt, Nat.not_le, Nat.not_lt, nI_leI, nI_ltI, nI_eq, nI_le0, nI_lt0] at c20
      refine am_aload_n fx dX2_countOdds_23 rfl ?_
      refine am_getI fx dX2_countOdds_24 fkX2_33 (by decide) (by decide) rfl (so2 hr0) ha0.2.1 ?_
      refine am_aload_n fx dX2_countOdds_27 rfl ?_
      refine am_getR fx dX2_countOdds_28 fkX2_20 (by decide) (by decide) rfl (so2 hr0) (rf2_7 hr0) ?_
      refine am_iload_n fx dX2_countOdds_31 rfl ?_
      refine am_iald  fx dX2_countOdds_32 (sa2_7 hr0) rfl (by omega) (by decide) ((hd0 _ _ (by omega)).trans e1) ?_
      refine am_aload_n fx dX2_countOdds_33 rfl ?_
      refine am_getR fx dX2_countOdds_34 fkX2_20 (by decide) (by decide) rfl (so2 hr0) (rf2_7 hr0) ?_
      refine am_iload_n fx dX2_countOdds_37 rfl ?_
      refine am_iald  fx dX2_countOdds_38 (sa2_7 hr0) rfl (by omega) (by decide) ((hd0 _ _ (by omega)).trans e2) ?_
      refine am_mmin fx dX2_countOdds_39 moX2_140 kw_smin knJ9 kw_cmin ⟨by decide, Nat.le_of_ble_eq_true rfl, Nat.le_of_ble_eq_true rfl, Nat.le_of_ble_eq_true rfl⟩ (nI_min (by omega) (by omega)) ?_
      refine am_mmin fx dX2_countOdds_42 moX2_140 kw_smin knJ9 kw_cmin ⟨by decide, Nat.le_of_ble_eq_true rfl, Nat.le_of_ble_eq_true rfl, Nat.le_of_ble_eq_true rfl⟩ (nI_min (by omega) (by omega)) ?_
      refine am_istore_n fx dX2_countOdds_45 (by decide) rfl ?_
      refine am_iconst (v := 0) fx dX2_countOdds_46 (by decide) ?_
      refine am_istore fx dX2_countOdds_47 (by decide) rfl ?_
      have lp49 : ∀ (mz : Nat) (r : Nat) (ν : am_M), min Rd (min ra rb) - r = mz → r ≤ min Rd (min ra rb) → Sm Sod μ ν → mm_I ν 21 3 = nI (cnt (neB (tkn μ q a) (tkn μ q b)) r) → (∀ j, j < cnt (neB (tkn μ q a) (tkn μ q b)) r → mm_I ν 22 j = filv (neB (tkn μ q a) (tkn μ q b)) (fun r => ab ((tkn μ q a) r - (tkn μ q b) r)) (fun _ => 0) r j ∧ mm_I ν 23 j = filv (neB (tkn μ q a) (tkn μ q b)) (fun r => bz ((tkn μ q a) r < (tkn μ q b) r)) (fun _ => 0) r j) → am_W E C (am_MQ E C (fun v μ' => v = none ∧ Sm Sod μ μ' ∧ mm_L μ' 21 5 = pw (odN (tkn μ q a) (tkn μ q b) (min Rd (min ra rb))) ∧ mm_L μ' 21 4 = odU (mm_I μ q 0) (tkn μ q a) (tkn μ q b) (min Rd (min ra rb))) (rmX2_countOdds).cells (rmX2_countOdds).slots) ν 0 0 49 [some (.ref (q + 1)), some (.int (nI a)), some (.int (nI b)), some (.int (nI (min Rd (min ra rb)))), some (.int (nI r))] [] := by
        intro mz
        induction mz using Nat.strongRecOn with
        | ind mz ih =>
          intro r ν hz hr1 hS h3 hgf
          have hb2 : Bs ν := hb.fr hS.1
          have hr2 : Rc ν q L := hr.fr hS.1
          have hc := cnt_le (neB (tkn μ q a) (tkn μ q b)) r
          have hd : ∀ x k, 57 ≤ x → mm_I ν x k = mm_I μ x k := fun x k hx => hS.2.1 x k (Sod.d x hx)
          refine am_iload fx dX2_countOdds_49 rfl ?_
          refine am_iload_n fx dX2_countOdds_51 rfl ?_
          refine am_icmp_ge fx 86 dX2_countOdds_52 (by decide) (fun c52 => ?_) (fun c52 => ?_)
          · try simp (disch := omega) only [bz_0, Classical.not_not, Int32.not_le, Int32.not_lt, Nat.not_le, Nat.not_lt, nI_leI, nI_ltI, nI_eq, nI_le0, nI_lt0] at c52
            refine am_aload_n fx dX2_countOdds_86 rfl ?_
            refine am_getR fx dX2_countOdds_87 fkX2_46 (by decide) (by decide) rfl (so2 hr2) (rf2_1 hr2) ?_
            refine am_aload_n fx dX2_countOdds_90 rfl ?_
            refine am_getR fx dX2_countOdds_91 fkX2_50 (by decide) (by decide) rfl (so2 hr2) (rf2_2 hr2) ?_
            refine am_getI fx dX2_countOdds_94 fkX2_148 (by decide) (by decide) rfl (so3 hr2) (hd _ _ (by omega)) ?_
            refine am_callV fx dX2_countOdds_97 mkX2_151 (ct_X0_count hb2 h3 (by omega) _) (so0 hb2) ⟨by decide, rfl⟩ rfl (Nat.le_of_ble_eq_true rfl) ⟨by decide, by decide⟩ ⟨Nat.le_of_ble_eq_true rfl, Nat.le_of_ble_eq_true rfl⟩ rfl ?_
            rintro _ _ ⟨rfl, h9, rfl⟩
            exact am_vret fx dX2_countOdds_100 ⟨rfl, hS.tr (Sm.mo ν (Or.inl rfl) (Or.inr (Or.inr (Or.inr rfl)))), by rw [mL_mo, if_neg (by decide), if_pos ⟨rfl, rfl⟩, show r = min Rd (min ra rb) by omega]; rfl, by rw [mL_mo, if_neg (by decide), if_neg (by decide), if_pos ⟨rfl, rfl⟩, odU, odN, ← show r = min Rd (min ra rb) by omega]; exact upN_congr (fun j hj => (hgf j hj).1) (fun j hj => (hgf j hj).2)⟩
          · try simp (disch := omega) only [bz_0, Classical.not_not, Int32.not_le, Int32.not_lt, Nat.not_le, Nat.not_lt, nI_leI, nI_ltI, nI_eq, nI_le0, nI_lt0] at c52
            refine am_aload_n fx dX2_countOdds_55 rfl ?_
            refine am_getR fx dX2_countOdds_56 fkX2_46 (by decide) (by decide) rfl (so2 hr2) (rf2_1 hr2) ?_
            refine am_aload_n fx dX2_countOdds_59 rfl ?_
            refine am_getR fx dX2_countOdds_60 fkX2_11 (by decide) (by decide) rfl (so2 hr2) (rf2_5 hr2) ?_
            refine am_iload_n fx dX2_countOdds_63 rfl ?_
            refine am_aald  fx dX2_countOdds_64 (sa2_5 hr2) rfl (by omega) (by decide) (rg2_5 hr2 (by omega)) ?_
            refine am_iload fx dX2_countOdds_65 rfl ?_
            refine am_iald  fx dX2_countOdds_67 (sg2_5 hr2 (by omega)) rfl (by omega) (by decide) (hd _ _ (by omega)) ?_
            refine am_aload_n fx dX2_countOdds_68 rfl ?_
            refine am_getR fx dX2_countOdds_69 fkX2_11 (by decide) (by decide) rfl (so2 hr2) (rf2_5 hr2) ?_
            refine am_iload_n fx dX2_countOdds_72 rfl ?_
            refine am_aald  fx dX2_countOdds_73 (sa2_5 hr2) rfl (by omega) (by decide) (rg2_5 hr2 (by omega)) ?_
            refine am_iload fx dX2_countOdds_74 rfl ?_
            refine am_iald  fx dX2_countOdds_76 (sg2_5 hr2 (by omega)) rfl (by omega) (by decide) (hd _ _ (by omega)) ?_
            refine am_callV fx dX2_countOdds_77 mkX2_145 (ct_X0_addRound hb2 h3 (by omega) _ _) (so0 hb2) ⟨by decide, rfl⟩ rfl (Nat.le_of_ble_eq_true rfl) ⟨by decide, by decide⟩ ⟨Nat.le_of_ble_eq_true rfl, Nat.le_of_ble_eq_true rfl⟩ rfl ?_
            rintro _ ν2 ⟨rfl, hν2⟩
            obtain ⟨hS2, h32, hgf2⟩ := odd_step (b := neB (tkn μ q a) (tkn μ q b)) (ca := (tkn μ q a)) (cb := (tkn μ q b)) rfl h3 hgf hν2
            first | refine am_iinc fx dX2_countOdds_80 rfl (nI_inc _) (by decide) rfl ?_ | refine am_iinc fx dX2_countOdds_80 rfl rfl (by decide) rfl ?_
            refine am_goto fx 49 dX2_countOdds_83 (by decide) ?_
            exact ih (min Rd (min ra rb) - (r + 1)) (by omega) (r + 1) _ rfl (by omega) (hS.tr hS2) h32 hgf2
      exact lp49 _ 0 _ rfl (by omega) (Sm.sI μ (Or.inl rfl)) (mI_same _ _ _ _) (fun j hj => by simp [cnt] at hj)
end
section
/-- by rank, then by number -/
def lexR (rk : Nat → Nat) (x y : Nat) : Prop := rk x < rk y ∨ (rk x = rk y ∧ x < y)
theorem lexR.tr {rk : Nat → Nat} {x y z : Nat} (h : lexR rk x y) (h2 : lexR rk y z) : lexR rk x z := by unfold lexR at *; omega
theorem lexR.irr {rk : Nat → Nat} {x : Nat} : ¬ lexR rk x x := by unfold lexR; omega
def insA (A : List Nat) (p s : Nat) : List Nat := A.take p ++ s :: A.drop p
theorem insA_len (A : List Nat) (p s : Nat) (hp : p ≤ A.length) : (insA A p s).length = A.length + 1 := by simp [insA]; omega
theorem insA_mem {A : List Nat} {p s x : Nat} : x ∈ insA A p s ↔ x = s ∨ x ∈ A := by
  unfold insA
  rw [List.mem_append, List.mem_cons]
  constructor
  · rintro (h | h | h)
    · exact Or.inr (List.mem_of_mem_take h)
    · exact Or.inl h
    · exact Or.inr (List.mem_of_mem_drop h)
  · rintro (h | h)
    · exact Or.inr (Or.inl h)
    · rw [← List.take_append_drop p A] at h
      rcases List.mem_append.mp h with q | q
      · exact Or.inl q
      · exact Or.inr (Or.inr q)
theorem insA_at {A : List Nat} {p s j x : Nat} (hp : p ≤ A.length) (h : (insA A p s)[j]? = some x) : (j < p ∧ A[j]? = some x) ∨ (j = p ∧ x = s) ∨ (p < j ∧ A[j - 1]? = some x) := by
  unfold insA at h
  have hl : (A.take p).length = p := by simp; omega
  rcases Nat.lt_trichotomy j p with q | q | q
  · rw [List.getElem?_append_left (by omega), List.getElem?_take, if_pos q] at h
    exact Or.inl ⟨q, h⟩
  · rw [List.getElem?_append_right (by omega), hl, q, Nat.sub_self] at h
    simp at h
    exact Or.inr (Or.inl ⟨q, h.symm⟩)
  · rw [List.getElem?_append_right (by omega), hl] at h
    obtain ⟨d, hd⟩ : ∃ d, j - p = d + 1 := ⟨j - p - 1, by omega⟩
    rw [hd, List.getElem?_cons_succ, List.getElem?_drop] at h
    exact Or.inr (Or.inr ⟨q, by rw [show j - 1 = p + d by omega]; exact h⟩)
theorem insA_srt {rk : Nat → Nat} {A : List Nat} {p s : Nat} (hp : p ≤ A.length) (hA : A.Pairwise (lexR rk)) (hs : ∀ x ∈ A, x < s) (hlo : 0 < p → ∀ x, A[p - 1]? = some x → rk x ≤ rk s) (hhi : ∀ j x, p ≤ j → A[j]? = some x → rk s < rk x) : (insA A p s).Pairwise (lexR rk) := by
  unfold insA
  have h0 := hA
  rw [← List.take_append_drop p A, List.pairwise_append] at h0
  obtain ⟨h1, h2, h3⟩ := h0
  have hlow : ∀ x ∈ A.take p, rk x ≤ rk s := by
    intro x hx
    obtain ⟨j, hj⟩ := List.getElem?_of_mem hx
    have hjp : j < p := by
      have := (List.getElem?_eq_some_iff.mp hj).1
      simp at this
      omega
    rw [List.getElem?_take, if_pos hjp] at hj
    obtain ⟨y, hy⟩ : ∃ y, A[p - 1]? = some y := ⟨A[p - 1]'(by omega), List.getElem?_eq_getElem (by omega)⟩
    have h4 := hlo (by omega) y hy
    rcases Nat.lt_or_ge j (p - 1) with q | q
    · have h5 : lexR rk x y := by
        rw [List.pairwise_iff_getElem] at hA
        obtain ⟨a1, a2⟩ := List.getElem?_eq_some_iff.mp hj
        obtain ⟨b1, b2⟩ := List.getElem?_eq_some_iff.mp hy
        have := hA j (p - 1) a1 b1 q
        rw [a2, b2] at this
        exact this
      unfold lexR at h5
      omega
    · rw [show j = p - 1 by omega] at hj
      rw [hj] at hy
      cases hy
      exact h4
  rw [List.pairwise_append]
  refine ⟨h1, ?_, ?_⟩
  · rw [List.pairwise_cons]
    refine ⟨fun y hy => ?_, h2⟩
    obtain ⟨j, hj⟩ := List.getElem?_of_mem hy
    rw [List.getElem?_drop] at hj
    exact Or.inl (hhi (p + j) y (by omega) hj)
  · intro x hx y hy
    rcases List.mem_cons.mp hy with rfl | hy
    · have a := hlow x hx
      have b := hs x (List.mem_of_mem_take hx)
      unfold lexR
      omega
    · exact h3 x hx y hy
def shf (g : Nat → Int32) (p n : Nat) : Nat → Int32 := fun j => if p < j ∧ j ≤ n then g (j - 1) else g j
theorem shf_0 (g : Nat → Int32) (n : Nat) : shf g n n = g := by funext j; simp only [shf]; rw [if_neg (by omega)]
theorem shf_s (g : Nat → Int32) {p n : Nat} (hp : 0 < p) (hn : p ≤ n) (j : Nat) : upd (shf g p n) p (shf g p n (p - 1)) j = shf g (p - 1) n j := by
  simp only [upd, shf]
  by_cases h : j = p
  · subst h
    rw [if_pos rfl, if_neg (by omega), if_pos (by omega)]
  · rw [if_neg h]
    by_cases h2 : p < j ∧ j ≤ n
    · rw [if_pos h2, if_pos (by omega)]
    · rw [if_neg h2, if_neg (by omega)]
def Sar (q a : Nat) : Prop := a = q + 17 ∨ a = q + 18
abbrev rkF (μ : am_M) (q Rd En : Nat) : Nat → Nat := fun x => rkN (lft μ q) (tkn μ q) Rd x En
theorem rkA_congr {ts ts' to to' : Nat → Int32} : ∀ {r : Nat}, (∀ j, j < r → ts j = ts' j ∧ to j = to' j) → rkA ts to r = rkA ts' to' r
  | 0, _ => rfl
  | r + 1, h => by simp only [rkA]; rw [rkA_congr (r := r) (fun j hj => h j (by omega)), (h r (by omega)).1, (h r (by omega)).2]
theorem rkN_congr {lf lf' : Nat → Bool} {tk tk' : Nat → Nat → Int32} {Rd s : Nat} (hs : ∀ j, j < Rd → tk s j = tk' s j) : ∀ {o : Nat}, (∀ x, x < o → lf x = lf' x ∧ ∀ j, j < Rd → tk x j = tk' x j) → rkN lf tk Rd s o = rkN lf' tk' Rd s o
  | 0, _ => rfl
  | o + 1, h => by
    simp only [rkN]
    rw [rkN_congr hs (o := o) (fun x hx => h x (by omega)), (h o (by omega)).1, rkA_congr (fun j hj => ⟨hs j hj, (h o (by omega)).2 j hj⟩)]
theorem rkF_eq {μ ν : am_M} {q Rd En s : Nat} (h15 : ∀ k, mm_I ν (q + 15) k = mm_I μ (q + 15) k) (htk : ∀ x k, x < 12 → mm_I ν (q + 3 + x) k = mm_I μ (q + 3 + x) k) (hE : En ≤ 12) (hs : s < 12) : rkF ν q Rd En s = rkF μ q Rd En s :=
  rkN_congr (lf := lft ν q) (lf' := lft μ q) (tk := tkn ν q) (tk' := tkn μ q) (fun j _ => htk s j hs) (fun x hx => ⟨by show decide (mm_I ν (q + 15) x = 0) = decide (mm_I μ (q + 15) x = 0); rw [h15], fun j _ => htk x j (by omega)⟩)
theorem arr_sh {ν2 : am_M} {q pl n : Nat} {g h : Nat → Int32} (h0 : 0 < pl) (hpl : pl ≤ n) (hF : ∀ j, mm_I ν2 (q + 17) j = shf g pl n j ∧ mm_I ν2 (q + 18) j = shf h pl n j) (j : Nat) :
    mm_I (mm_sI (mm_sI ν2 (q + 17) pl (shf g pl n (pl - 1))) (q + 18) pl (shf h pl n (pl - 1))) (q + 17) j = shf g (pl - 1) n j ∧ mm_I (mm_sI (mm_sI ν2 (q + 17) pl (shf g pl n (pl - 1))) (q + 18) pl (shf h pl n (pl - 1))) (q + 18) j = shf h (pl - 1) n j := by
  rw [← shf_s g h0 hpl j, ← shf_s h h0 hpl j]
  unfold upd
  constructor
  · rw [mI_ne (Or.inl (by omega)), mI_sI]
    by_cases e : j = pl
    · rw [if_pos ⟨rfl, e⟩, if_pos e]
    · rw [if_neg (fun z => e z.2), if_neg e]; exact (hF j).1
  · rw [mI_sI]
    by_cases e : j = pl
    · rw [if_pos ⟨rfl, e⟩, if_pos e]
    · rw [if_neg (fun z => e z.2), if_neg e, mI_ne (Or.inl (by omega))]; exact (hF j).2
theorem arr_at {ν2 : am_M} {q pl s : Nat} {A : List Nat} {rk : Nat → Nat} {g h : Nat → Int32} (hpl : pl ≤ A.length) (hF : ∀ j, mm_I ν2 (q + 17) j = shf g pl A.length j ∧ mm_I ν2 (q + 18) j = shf h pl A.length j) (hG : ∀ j x, A[j]? = some x → g j = nI x ∧ h j = nI (rk x)) :
    ∀ j x, (insA A pl s)[j]? = some x → mm_I (mm_sI (mm_sI ν2 (q + 17) pl (nI s)) (q + 18) pl (nI (rk s))) (q + 17) j = nI x ∧ mm_I (mm_sI (mm_sI ν2 (q + 17) pl (nI s)) (q + 18) pl (nI (rk s))) (q + 18) j = nI (rk x) := by
  intro j x hx
  rcases insA_at hpl hx with ⟨h1, h2⟩ | ⟨rfl, rfl⟩ | ⟨h1, h2⟩
  · rw [mI_ne (Or.inl (by omega)), mI_ne (Or.inr (by omega)), mI_ne (Or.inr (by omega)), mI_ne (Or.inl (by omega)), (hF j).1, (hF j).2, shf, shf, if_neg (by omega), if_neg (by omega)]
    exact hG j x h2
  · rw [mI_ne (Or.inl (by omega)), mI_same, mI_same]
    exact ⟨rfl, rfl⟩
  · have hl := (List.getElem?_eq_some_iff.mp h2).1
    rw [mI_ne (Or.inl (by omega)), mI_ne (Or.inr (by omega)), mI_ne (Or.inr (by omega)), mI_ne (Or.inl (by omega)), (hF j).1, (hF j).2, shf, shf, if_pos (by omega), if_pos (by omega)]
    exact hG _ x h2
set_option maxRecDepth 100000 in
set_option maxHeartbeats 4000000 in
theorem ct_X2_arrange {E : am_E} {μ : am_M} (hb : Bs μ) {q L : Nat} (hr : Rc μ q L) {En Rd : Nat} (ha : Ra μ q En Rd) : am_Ct E yX2_arrange cX2_arrange 5 (some .int) rmX2_arrange [.ref (q + 1)] μ (fun v μ' => ∃ A : List Nat, v = some (.int (nI A.length)) ∧ Sm (Sar q) μ μ' ∧ A.Pairwise (lexR (rkF μ q Rd En)) ∧ (∀ x, x ∈ A ↔ x < En ∧ mm_I μ (q + 15) x = 0) ∧ A.length ≤ En ∧ (∀ j x, A[j]? = some x → mm_I μ' (q + 17) j = nI x)) := by
  refine am_Ct.of (ls := [some (.ref (q + 1)), none, none, none, none]) (by decide) (Nat.le_of_ble_eq_true rfl) rfl (fun C fx hnm => ?_)
  have hE := ha.e
  have hR := ha.r
  have hL := hr.l
  have hq := hr.qq
  refine am_iconst (v := 0) fx dX2_arrange_0 (by decide) ?_
  refine am_istore_n fx dX2_arrange_1 (by decide) rfl ?_
  refine am_iconst (v := 0) fx dX2_arrange_2 (by decide) ?_
  refine am_istore_n fx dX2_arrange_3 (by decide) rfl ?_
  have lp4 : ∀ (mz : Nat) (s : Nat) (A : List Nat) (ν : am_M), En - s = mz → (s ≤ En ∧ Sm (Sar q) μ ν ∧ A.Pairwise (lexR (rkF μ q Rd En)) ∧ (∀ x, x ∈ A ↔ x < s ∧ mm_I μ (q + 15) x = 0) ∧ A.length ≤ s ∧ (∀ j x, A[j]? = some x → mm_I ν (q + 17) j = nI x ∧ mm_I ν (q + 18) j = nI ((rkF μ q Rd En) x))) → am_W E C (am_MQ E C (fun v μ' => ∃ A : List Nat, v = some (.int (nI A.length)) ∧ Sm (Sar q) μ μ' ∧ A.Pairwise (lexR (rkF μ q Rd En)) ∧ (∀ x, x ∈ A ↔ x < En ∧ mm_I μ (q + 15) x = 0) ∧ A.length ≤ En ∧ (∀ j x, A[j]? = some x → mm_I μ' (q + 17) j = nI x)) (rmX2_arrange).cells (rmX2_arrange).slots) ν 0 0 4 [some (.ref (q + 1)), some (.int (nI A.length)), some (.int (nI s)), none, none] [] := by
    intro mz
    induction mz using Nat.strongRecOn with
    | ind mz ih =>
      intro s A ν hz hI
      obtain ⟨hs, hS, hP, hM, hAl, hG⟩ := hI
      have hb2 : Bs ν := hb.fr hS.1
      have hr2 : Rc ν q L := hr.fr hS.1
      have hd : ∀ x k, ¬ Sar q x → mm_I ν x k = mm_I μ x k := fun x k hx => hS.2.1 x k hx
      have ha2 : Ra ν q En Rd := ⟨by rw [hd _ _ (by unfold Sar; omega)]; exact ha.1, by rw [hd _ _ (by unfold Sar; omega)]; exact ha.2.1, hE, hR⟩
      have hlf : ∀ k, mm_I ν (q + 15) k = mm_I μ (q + 15) k := fun k => hd _ _ (by unfold Sar; omega)
      refine am_iload_n fx dX2_arrange_4 rfl ?_
      refine am_aload_n fx dX2_arrange_5 rfl ?_
      refine am_getI fx dX2_arrange_6 fkX2_66 (by decide) (by decide) rfl (so2 hr2) ha2.1 ?_
      refine am_icmp_ge fx 110 dX2_arrange_9 (by decide) (fun c9 => ?_) (fun c9 => ?_)
      · try simp (disch := omega) only [bz_0, Classical.not_not, Int32.not_le, Int32.not_lt, Nat.not_le, Nat.not_lt, nI_leI, nI_ltI, nI_eq, nI_le0, nI_lt0] at c9
        refine am_iload_n fx dX2_arrange_110 rfl ?_
        exact am_iret fx dX2_arrange_111 ⟨A, rfl, hS, hP, fun x => by rw [hM x, show s = En by omega], by omega, fun j x h => (hG j x h).1⟩
      · try simp (disch := omega) only [bz_0, Classical.not_not, Int32.not_le, Int32.not_lt, Nat.not_le, Nat.not_lt, nI_leI, nI_ltI, nI_eq, nI_le0, nI_lt0] at c9
        refine am_aload_n fx dX2_arrange_12 rfl ?_
        refine am_iload_n fx dX2_arrange_13 rfl ?_
        refine am_callV fx dX2_arrange_14 mkX2_85 (ct_X2_isLeftN hb2 hr2 ha2 s (by assumption)) (so2 hr2) ⟨by decide, rfl⟩ rfl (Nat.le_of_ble_eq_true rfl) ⟨by decide, by decide⟩ ⟨Nat.le_of_ble_eq_true rfl, Nat.le_of_ble_eq_true rfl⟩ rfl ?_
        rintro _ _ ⟨rfl, rfl⟩
        refine am_if_eq fx 104 dX2_arrange_17 (by decide) (fun c17 => ?_) (fun c17 => ?_)
        · try simp (disch := omega) only [bz_0, Classical.not_not, Int32.not_le, Int32.not_lt, Nat.not_le, Nat.not_lt, nI_leI, nI_ltI, nI_eq, nI_le0, nI_lt0] at c17
          rw [hlf] at c17
          first | refine am_iinc fx dX2_arrange_104 rfl (nI_inc _) (by decide) rfl ?_ | refine am_iinc fx dX2_arrange_104 rfl rfl (by decide) rfl ?_
          refine am_goto fx 4 dX2_arrange_107 (by decide) ?_
          exact ih (En - (s + 1)) (by omega) (s + 1) A ν rfl ⟨by omega, hS, hP, fun x => (hM x).trans ⟨fun z => ⟨by omega, z.2⟩, fun z => ⟨by rcases Nat.lt_or_ge x s with y | y; exact y; rw [show x = s by omega] at z; exact absurd z.2 c17, z.2⟩⟩, by omega, hG⟩
        · try simp (disch := omega) only [bz_0, Classical.not_not, Int32.not_le, Int32.not_lt, Nat.not_le, Nat.not_lt, nI_leI, nI_ltI, nI_eq, nI_le0, nI_lt0] at c17
          rw [hlf] at c17
          refine am_aload_n fx dX2_arrange_20 rfl ?_
          refine am_iload_n fx dX2_arrange_21 rfl ?_
          refine am_callV fx dX2_arrange_22 mkX2_128 (ct_X2_rankOf hb2 hr2 ha2 s (by omega)) (so2 hr2) ⟨by decide, rfl⟩ rfl (Nat.le_of_ble_eq_true rfl) ⟨by decide, by decide⟩ ⟨Nat.le_of_ble_eq_true rfl, Nat.le_of_ble_eq_true rfl⟩ rfl ?_
          rintro _ _ ⟨rfl, rfl⟩
          refine am_topi (show _ = nI ((rkF μ q Rd En) s) by rw [← rkF_eq hlf (fun x k hx => hd _ _ (by unfold Sar; omega)) hE (by omega)]) ?_
          refine am_istore_n fx dX2_arrange_25 (by decide) rfl ?_
          refine am_iload_n fx dX2_arrange_26 rfl ?_
          refine am_istore fx dX2_arrange_27 (by decide) rfl ?_
          have lp29 : ∀ (mz : Nat) (pl : Nat) (ν2 : am_M), pl = mz → (pl ≤ A.length ∧ Sm (Sar q) μ ν2 ∧ (∀ j, mm_I ν2 (q + 17) j = shf (mm_I ν (q + 17)) pl A.length j ∧ mm_I ν2 (q + 18) j = shf (mm_I ν (q + 18)) pl A.length j) ∧ (∀ j x, pl ≤ j → A[j]? = some x → (rkF μ q Rd En) s < (rkF μ q Rd En) x)) → am_W E C (am_MQ E C (fun v μ' => ∃ A : List Nat, v = some (.int (nI A.length)) ∧ Sm (Sar q) μ μ' ∧ A.Pairwise (lexR (rkF μ q Rd En)) ∧ (∀ x, x ∈ A ↔ x < En ∧ mm_I μ (q + 15) x = 0) ∧ A.length ≤ En ∧ (∀ j x, A[j]? = some x → mm_I μ' (q + 17) j = nI x)) (rmX2_arrange).cells (rmX2_arrange).slots) ν2 0 0 29 [some (.ref (q + 1)), some (.int (nI A.length)), some (.int (nI s)), some (.int (nI ((rkF μ q Rd En) s))), some (.int (nI pl))] [] := by
            intro mz
            induction mz using Nat.strongRecOn with
            | ind mz ih2 =>
              intro pl ν2 hz2 hJ
              obtain ⟨hpl, hT, hF, hH⟩ := hJ
              have hb3 : Bs ν2 := hb.fr hT.1
              have hr3 : Rc ν2 q L := hr.fr hT.1
              have he : ∀ x k, ¬ Sar q x → mm_I ν2 x k = mm_I μ x k := fun x k hx => hT.2.1 x k hx
              have ha3 : Ra ν2 q En Rd := ⟨by rw [he _ _ (by unfold Sar; omega)]; exact ha.1, by rw [he _ _ (by unfold Sar; omega)]; exact ha.2.1, hE, hR⟩
              have hlg : ∀ k, mm_I ν2 (q + 15) k = mm_I μ (q + 15) k := fun k => he _ _ (by unfold Sar; omega)
              have hrs : (rkF μ q Rd En) s ≤ 600 := rkN_top _ _ hR hE
              refine am_iload fx dX2_arrange_29 rfl ?_
              refine am_if_le fx 85 dX2_arrange_31 (by decide) (fun c31 => ?_) (fun c31 => ?_)
              · try simp (disch := omega) only [bz_0, Classical.not_not, Int32.not_le, Int32.not_lt, Nat.not_le, Nat.not_lt, nI_leI, nI_ltI, nI_eq, nI_le0, nI_lt0] at c31
                have hlo : 0 < pl → ∀ x, A[pl - 1]? = some x → (rkF μ q Rd En) x ≤ (rkF μ q Rd En) s := fun h => by omega
                refine am_aload_n fx dX2_arrange_85 rfl ?_
                refine am_getR fx dX2_arrange_86 fkX2_23 (by decide) (by decide) rfl (so2 hr3) (rf2_8 hr3) ?_
                refine am_iload fx dX2_arrange_89 rfl ?_
                refine am_iload_n fx dX2_arrange_91 rfl ?_
                refine am_iast  fx dX2_arrange_92 (sa2_8 hr3) rfl (by omega) (by decide) ?_
                refine am_aload_n fx dX2_arrange_93 rfl ?_
                refine am_getR fx dX2_arrange_94 fkX2_26 (by decide) (by decide) rfl (so2 hr3) (rf2_9 hr3) ?_
                refine am_iload fx dX2_arrange_97 rfl ?_
                refine am_iload_n fx dX2_arrange_99 rfl ?_
                refine am_iast  fx dX2_arrange_100 (sa2_9 hr3) rfl (by omega) (by decide) ?_
                first | refine am_iinc fx dX2_arrange_101 rfl (nI_inc _) (by decide) rfl ?_ | refine am_iinc fx dX2_arrange_101 rfl rfl (by decide) rfl ?_
                first | refine am_iinc fx dX2_arrange_104 rfl (nI_inc _) (by decide) rfl ?_ | refine am_iinc fx dX2_arrange_104 rfl rfl (by decide) rfl ?_
                refine am_goto fx 4 dX2_arrange_107 (by decide) ?_
                refine am_sub [true, true, true, false, false] rfl ?_
                have hnew := ih (En - (s + 1)) (by omega) (s + 1) (insA A pl s) (mm_sI (mm_sI ν2 (q + 17) pl (nI s)) (q + 18) pl (nI ((rkF μ q Rd En) s))) rfl ⟨by omega, hT.tr ((Sm.sI _ (Or.inl rfl)).tr (Sm.sI _ (Or.inr rfl))), insA_srt hpl hP (fun x hx => ((hM x).mp hx).1) hlo hH, fun x => insA_mem.trans ⟨fun z => by rcases z with rfl | z; exact ⟨by omega, c17⟩; exact ⟨by have := ((hM x).mp z).1; omega, ((hM x).mp z).2⟩, fun z => by rcases Nat.lt_or_ge x s with y | y; exact Or.inr ((hM x).mpr ⟨y, z.2⟩); exact Or.inl (by omega)⟩, by rw [insA_len A pl s hpl]; omega, arr_at (rk := (rkF μ q Rd En)) hpl hF hG⟩
                rw [insA_len A pl s hpl] at hnew
                exact hnew
              · try simp (disch := omega) only [bz_0, Classical.not_not, Int32.not_le, Int32.not_lt, Nat.not_le, Nat.not_lt, nI_leI, nI_ltI, nI_eq, nI_le0, nI_lt0] at c31
                refine am_aload_n fx dX2_arrange_34 rfl ?_
                obtain ⟨x0, hx0⟩ : ∃ x, A[pl - 1]? = some x := ⟨A[pl - 1]'(by omega), List.getElem?_eq_getElem (by omega)⟩
                have hrx : (rkF μ q Rd En) x0 ≤ 600 := rkN_top _ _ hR hE
                refine am_getR fx dX2_arrange_35 fkX2_26 (by decide) (by decide) rfl (so2 hr3) (rf2_9 hr3) ?_
                refine am_iload fx dX2_arrange_38 rfl ?_
                refine am_iconst (v := 1) fx dX2_arrange_40 (by decide) ?_
                refine am_isub fx dX2_arrange_41 ?_
                refine am_topi (nI_pred1 (by omega)) ?_
                refine am_iald  fx dX2_arrange_42 (sa2_9 hr3) rfl (by omega) (by decide) (show _ = nI ((rkF μ q Rd En) x0) by rw [(hF _).2, shf, if_neg (by omega)]; exact (hG _ _ hx0).2) ?_
                refine am_iload_n fx dX2_arrange_43 rfl ?_
                refine am_icmp_le fx 85 dX2_arrange_44 (by decide) (fun c44 => ?_) (fun c44 => ?_)
                · try simp (disch := omega) only [bz_0, Classical.not_not, Int32.not_le, Int32.not_lt, Nat.not_le, Nat.not_lt, nI_leI, nI_ltI, nI_eq, nI_le0, nI_lt0] at c44
                  have hlo : 0 < pl → ∀ x, A[pl - 1]? = some x → (rkF μ q Rd En) x ≤ (rkF μ q Rd En) s := fun _ x hx => by rw [hx0] at hx; cases hx; exact c44
                  refine am_aload_n fx dX2_arrange_85 rfl ?_
                  refine am_getR fx dX2_arrange_86 fkX2_23 (by decide) (by decide) rfl (so2 hr3) (rf2_8 hr3) ?_
                  refine am_iload fx dX2_arrange_89 rfl ?_
                  refine am_iload_n fx dX2_arrange_91 rfl ?_
                  refine am_iast  fx dX2_arrange_92 (sa2_8 hr3) rfl (by omega) (by decide) ?_
                  refine am_aload_n fx dX2_arrange_93 rfl ?_
                  refine am_getR fx dX2_arrange_94 fkX2_26 (by decide) (by decide) rfl (so2 hr3) (rf2_9 hr3) ?_
                  refine am_iload fx dX2_arrange_97 rfl ?_
                  refine am_iload_n fx dX2_arrange_99 rfl ?_
                  refine am_iast  fx dX2_arrange_100 (sa2_9 hr3) rfl (by omega) (by decide) ?_
                  first | refine am_iinc fx dX2_arrange_101 rfl (nI_inc _) (by decide) rfl ?_ | refine am_iinc fx dX2_arrange_101 rfl rfl (by decide) rfl ?_
                  first | refine am_iinc fx dX2_arrange_104 rfl (nI_inc _) (by decide) rfl ?_ | refine am_iinc fx dX2_arrange_104 rfl rfl (by decide) rfl ?_
                  refine am_goto fx 4 dX2_arrange_107 (by decide) ?_
                  refine am_sub [true, true, true, false, false] rfl ?_
                  have hnew := ih (En - (s + 1)) (by omega) (s + 1) (insA A pl s) (mm_sI (mm_sI ν2 (q + 17) pl (nI s)) (q + 18) pl (nI ((rkF μ q Rd En) s))) rfl ⟨by omega, hT.tr ((Sm.sI _ (Or.inl rfl)).tr (Sm.sI _ (Or.inr rfl))), insA_srt hpl hP (fun x hx => ((hM x).mp hx).1) hlo hH, fun x => insA_mem.trans ⟨fun z => by rcases z with rfl | z; exact ⟨by omega, c17⟩; exact ⟨by have := ((hM x).mp z).1; omega, ((hM x).mp z).2⟩, fun z => by rcases Nat.lt_or_ge x s with y | y; exact Or.inr ((hM x).mpr ⟨y, z.2⟩); exact Or.inl (by omega)⟩, by rw [insA_len A pl s hpl]; omega, arr_at (rk := (rkF μ q Rd En)) hpl hF hG⟩
                  rw [insA_len A pl s hpl] at hnew
                  exact hnew
                · try simp (disch := omega) only [bz_0, Classical.not_not, Int32.not_le, Int32.not_lt, Nat.not_le, Nat.not_lt, nI_leI, nI_ltI, nI_eq, nI_le0, nI_lt0] at c44
                  have hgt : (rkF μ q Rd En) s < (rkF μ q Rd En) x0 := c44
                  refine am_aload_n fx dX2_arrange_47 rfl ?_
                  refine am_getR fx dX2_arrange_48 fkX2_23 (by decide) (by decide) rfl (so2 hr3) (rf2_8 hr3) ?_
                  refine am_iload fx dX2_arrange_51 rfl ?_
                  refine am_aload_n fx dX2_arrange_53 rfl ?_
                  refine am_getR fx dX2_arrange_54 fkX2_23 (by decide) (by decide) rfl (so2 hr3) (rf2_8 hr3) ?_
                  refine am_iload fx dX2_arrange_57 rfl ?_
                  refine am_iconst (v := 1) fx dX2_arrange_59 (by decide) ?_
                  refine am_isub fx dX2_arrange_60 ?_
                  refine am_topi (nI_pred1 (by omega)) ?_
                  refine am_iald  fx dX2_arrange_61 (sa2_8 hr3) rfl (by omega) (by decide) ((hF _).1) ?_
                  refine am_iast  fx dX2_arrange_62 (sa2_8 hr3) rfl (by omega) (by decide) ?_
                  refine am_aload_n fx dX2_arrange_63 rfl ?_
                  refine am_getR fx dX2_arrange_64 fkX2_26 (by decide) (by decide) rfl (so2 hr3) (rf2_9 hr3) ?_
                  refine am_iload fx dX2_arrange_67 rfl ?_
                  refine am_aload_n fx dX2_arrange_69 rfl ?_
                  refine am_getR fx dX2_arrange_70 fkX2_26 (by decide) (by decide) rfl (so2 hr3) (rf2_9 hr3) ?_
                  refine am_iload fx dX2_arrange_73 rfl ?_
                  refine am_iconst (v := 1) fx dX2_arrange_75 (by decide) ?_
                  refine am_isub fx dX2_arrange_76 ?_
                  refine am_topi (nI_pred1 (by omega)) ?_
                  refine am_iald  fx dX2_arrange_77 (sa2_9 hr3) rfl (by omega) (by decide) (show _ = shf (mm_I ν (q + 18)) pl A.length (pl - 1) by rw [mI_ne (Or.inl (by omega))]; exact (hF _).2) ?_
                  refine am_iast  fx dX2_arrange_78 (sa2_9 hr3) rfl (by omega) (by decide) ?_
                  have sh2 := arr_sh (q := q) (by omega) hpl hF
                  first | refine am_iinc fx dX2_arrange_79 rfl (nI_dec (by omega)) (by decide) rfl ?_ | refine am_iinc fx dX2_arrange_79 rfl rfl (by decide) rfl ?_
                  refine am_goto fx 29 dX2_arrange_82 (by decide) ?_
                  exact ih2 (pl - 1) (by omega) (pl - 1) _ rfl ⟨by omega, hT.tr ((Sm.sI _ (Or.inl rfl)).tr (Sm.sI _ (Or.inr rfl))), sh2, fun j x h1 h2 => by rcases Nat.lt_or_ge j pl with y | y; rw [show j = pl - 1 by omega] at h2; rw [hx0] at h2; cases h2; exact hgt; exact hH j x y h2⟩
          exact lp29 _ A.length ν rfl ⟨Nat.le_refl _, hS, fun j => ⟨by rw [shf_0], by rw [shf_0]⟩, fun j x h1 h2 => by have := (List.getElem?_eq_some_iff.mp h2).1; omega⟩
  refine am_sub [true, true, true, false, false] rfl ?_
  exact lp4 _ 0 [] μ rfl ⟨by omega, Sm.rf _ _, List.Pairwise.nil, fun x => by simp, Nat.le_refl _, fun j x h => by simp at h⟩
end
section
theorem nI_sub1 {n : Nat} (h : 0 < n) : nI n - 1 = nI (n - 1) := nI_pred1 h
set_option maxRecDepth 100000 in
set_option maxHeartbeats 4000000 in
theorem ct_X2_leader {E : am_E} {μ : am_M} (hb : Bs μ) {q L : Nat} (hr : Rc μ q L) {En Rd : Nat} (ha : Ra μ q En Rd) : am_Ct E yX2_leader cX2_leader 1 (some .int) rmX2_leader [.ref (q + 1)] μ (fun v μ' => ∃ A : List Nat, v = some (.int (enO (-1) A.head?)) ∧ Sm (Sar q) μ μ' ∧ A.Pairwise (lexR (rkF μ q Rd En)) ∧ (∀ x, x ∈ A ↔ x < En ∧ mm_I μ (q + 15) x = 0) ∧ A.length ≤ En) := by
  refine am_Ct.of (ls := [some (.ref (q + 1))]) (by decide) (Nat.le_of_ble_eq_true rfl) rfl (fun C fx hnm => ?_)
  have hE := ha.e
  have hR := ha.r
  have hL := hr.l
  have hq := hr.qq
  refine am_aload_n fx dX2_leader_0 rfl ?_
  refine am_callV fx dX2_leader_1 mkX2_109 (ct_X2_arrange hb hr ha) (so2 hr) ⟨by decide, rfl⟩ rfl (Nat.le_of_ble_eq_true rfl) ⟨by decide, by decide⟩ ⟨Nat.le_of_ble_eq_true rfl, Nat.le_of_ble_eq_true rfl⟩ rfl ?_
  rintro _ ν ⟨A, rfl, hS, hP, hM, hl, hG⟩
  have hb2 : Bs ν := hb.fr hS.1
  have hr2 : Rc ν q L := hr.fr hS.1
  refine am_if_ne fx 11 dX2_leader_4 (by decide) (fun c4 => ?_) (fun c4 => ?_)
  · skip
    have hne : A ≠ [] := fun e => c4 (by rw [e]; rfl)
    obtain ⟨x, B, rfl⟩ : ∃ x B, A = x :: B := by
      cases A with
      | nil => exact absurd rfl hne
      | cons x B => exact ⟨x, B, rfl⟩
    refine am_aload_n fx dX2_leader_11 rfl ?_
    refine am_getR fx dX2_leader_12 fkX2_23 (by decide) (by decide) rfl (so2 hr2) (rf2_8 hr2) ?_
    refine am_iconst (v := 0) fx dX2_leader_15 (by decide) ?_
    refine am_iald (j := 0) fx dX2_leader_16 (sa2_8 hr2) rfl (by omega) (by decide) (hG 0 x rfl) ?_
    exact am_iret fx dX2_leader_17 ⟨x :: B, rfl, hS, hP, hM, hl⟩
  · skip
    have hne : A = [] := by
      have h9 : nI A.length = nI 0 := c4
      rw [nI_eq (by omega) (by omega)] at h9
      exact List.length_eq_zero_iff.mp h9
    refine am_iconst (v := (-1)) fx dX2_leader_7 (by decide) ?_
    refine am_goto fx 17 dX2_leader_8 (by decide) ?_
    exact am_iret fx dX2_leader_17 ⟨A, by rw [hne]; rfl, hS, hP, hM, hl⟩
/-- who drops out, one behind another -/
def dropL (bad : Nat → Bool) (least : Nat) (rd : Int32) : List Nat → (Nat → Int32) × Nat → (Nat → Int32) × Nat
  | [], st => st
  | x :: l, st => if least < st.2 ∧ bad x = true then dropL bad least rd l (upd st.1 x rd, st.2 - 1) else dropL bad least rd l st
theorem dropL_stop {bad : Nat → Bool} {least : Nat} {rd : Int32} : ∀ {l : List Nat} {st : (Nat → Int32) × Nat}, st.2 ≤ least → dropL bad least rd l st = st
  | [], _, _ => rfl
  | x :: l, st, h => by
    simp only [dropL]
    rw [if_neg (by omega)]
    exact dropL_stop h
def todo (A : List Nat) (p : Nat) : List Nat := ((A.take (p + 1)).drop 1).reverse
theorem todo_s {A : List Nat} {p x : Nat} (h : A[p + 1]? = some x) : todo A (p + 1) = x :: todo A p := by
  unfold todo
  have hl := (List.getElem?_eq_some_iff.mp h).1
  rw [List.take_add_one, h]
  rw [List.drop_append_of_le_length (by simp; omega)]
  simp
theorem todo_0 (A : List Nat) : todo A 0 = [] := by
  unfold todo
  cases A <;> simp
def Sdw (q a : Nat) : Prop := a = q + 1 ∨ a = q + 15 ∨ a = q + 17 ∨ a = q + 18 ∨ Sod a
theorem Sdw.ar {q a : Nat} (h : Sar q a) : Sdw q a := by unfold Sar at h; unfold Sdw; rcases h with h | h <;> simp [h]
theorem Sdw.od {q a : Nat} (h : Sod a) : Sdw q a := Or.inr (Or.inr (Or.inr (Or.inr h)))
abbrev badF (μ : am_M) (q Rd ld : Nat) : Nat → Bool := fun x => decide (¬ ((mm_I μ q 2).toInt64 * pw (odN (tkn μ q ld) (tkn μ q x) Rd) < odU (mm_I μ q 0) (tkn μ q ld) (tkn μ q x) Rd * (mm_I μ q 3).toInt64))
theorem srt_ne {rk : Nat → Nat} {A : List Nat} (h : A.Pairwise (lexR rk)) {i j x y : Nat} (hi : A[i]? = some x) (hj : A[j]? = some y) (hij : i < j) : x ≠ y := by
  rw [List.pairwise_iff_getElem] at h
  obtain ⟨a1, a2⟩ := List.getElem?_eq_some_iff.mp hi
  obtain ⟨b1, b2⟩ := List.getElem?_eq_some_iff.mp hj
  have := h i j a1 b1 hij
  rw [a2, b2] at this
  intro e
  rw [e] at this
  exact lexR.irr this
set_option maxRecDepth 100000 in
set_option maxHeartbeats 4000000 in
theorem ct_X2_dropWorse {E : am_E} {μ : am_M} (hb : Bs μ) {q L : Nat} (hr : Rc μ q L) {En Rd : Nat} (ha : Ra μ q En Rd) {rem least : Nat} (hrem : mm_I μ (q + 1) 10 = nI rem) (hr12 : rem ≤ 12) (hls : mm_I μ q 4 = nI least) (hl12 : least ≤ 12) (hran : ∀ s, s < En → mm_I μ (q + 15) s = 0 → mm_I μ (q + 16) s = nI Rd) (hex : ∃ s, s < En ∧ mm_I μ (q + 15) s = 0) : am_Ct E yX2_dropWorse cX2_dropWorse 5 none rmX2_dropWorse [.ref (q + 1)] μ (fun v μ' => ∃ (A : List Nat) (ld : Nat), v = none ∧ A.head? = some ld ∧ Sm (Sdw q) μ μ' ∧ A.Pairwise (lexR (rkF μ q Rd En)) ∧ (∀ x, x ∈ A ↔ x < En ∧ mm_I μ (q + 15) x = 0) ∧ A.length ≤ En ∧ mm_I μ' (q + 15) = (dropL (badF μ q Rd ld) least (nI Rd) (todo A (A.length - 1)) (mm_I μ (q + 15), rem)).1 ∧ mm_I μ' (q + 1) 10 = nI (dropL (badF μ q Rd ld) least (nI Rd) (todo A (A.length - 1)) (mm_I μ (q + 15), rem)).2 ∧ (∀ k, k ≠ 10 → mm_I μ' (q + 1) k = mm_I μ (q + 1) k) ∧ (dropL (badF μ q Rd ld) least (nI Rd) (todo A (A.length - 1)) (mm_I μ (q + 15), rem)).2 ≤ rem) := by
  refine am_Ct.of (ls := [some (.ref (q + 1)), none, none, none, none]) (by decide) (Nat.le_of_ble_eq_true rfl) rfl (fun C fx hnm => ?_)
  have hE := ha.e
  have hR := ha.r
  have hL := hr.l
  have hq := hr.qq
  refine am_aload_n fx dX2_dropWorse_0 rfl ?_
  refine am_callV fx dX2_dropWorse_1 mkX2_109 (ct_X2_arrange hb hr ha) (so2 hr) ⟨by decide, rfl⟩ rfl (Nat.le_of_ble_eq_true rfl) ⟨by decide, by decide⟩ ⟨Nat.le_of_ble_eq_true rfl, Nat.le_of_ble_eq_true rfl⟩ rfl ?_
  rintro _ ν0 ⟨A, rfl, hS0, hP, hM, hAl, hG⟩
  have hb0 : Bs ν0 := hb.fr hS0.1
  have hr0 : Rc ν0 q L := hr.fr hS0.1
  have hd0 : ∀ x k, ¬ Sar q x → mm_I ν0 x k = mm_I μ x k := fun x k hx => hS0.2.1 x k hx
  have h150 : mm_I ν0 (q + 15) = mm_I μ (q + 15) := funext fun k => hd0 _ _ (by unfold Sar; omega)
  have hne : A ≠ [] := by
    obtain ⟨s, h1, h2⟩ := hex
    intro e
    have := (hM s).mpr ⟨h1, h2⟩
    rw [e] at this
    cases this
  obtain ⟨ld, hld⟩ : ∃ x, A.head? = some x := by
    cases A with
    | nil => exact absurd rfl hne
    | cons x B => exact ⟨x, rfl⟩
  have hld0 : A[0]? = some ld := by rw [← List.head?_eq_getElem?]; exact hld
  have hlen : 0 < A.length := List.length_pos_iff.mpr hne
  have hldm := (hM ld).mp (List.mem_of_getElem? hld0)
  refine am_istore_n fx dX2_dropWorse_4 (by decide) rfl ?_
  refine am_aload_n fx dX2_dropWorse_5 rfl ?_
  refine am_getR fx dX2_dropWorse_6 fkX2_23 (by decide) (by decide) rfl (so2 hr0) (rf2_8 hr0) ?_
  refine am_iconst (v := 0) fx dX2_dropWorse_9 (by decide) ?_
  refine am_iald (j := 0) fx dX2_dropWorse_10 (sa2_8 hr0) rfl (by omega) (by decide) (hG 0 ld hld0) ?_
  refine am_istore_n fx dX2_dropWorse_11 (by decide) rfl ?_
  refine am_iload_n fx dX2_dropWorse_12 rfl ?_
  refine am_iconst (v := 1) fx dX2_dropWorse_13 (by decide) ?_
  refine am_isub fx dX2_dropWorse_14 ?_
  refine am_topi (nI_pred1 hlen) ?_
  refine am_istore_n fx dX2_dropWorse_15 (by decide) rfl ?_
  have lp16 : ∀ (mz : Nat) (pl : Nat) (rm' : Nat) (ν : am_M), pl = mz → (pl < A.length ∧ Sm (Sdw q) μ ν ∧ dropL (badF μ q Rd ld) least (nI Rd) (todo A pl) (mm_I ν (q + 15), rm') = (dropL (badF μ q Rd ld) least (nI Rd) (todo A (A.length - 1)) (mm_I μ (q + 15), rem)) ∧ mm_I ν (q + 1) 10 = nI rm' ∧ rm' ≤ rem ∧ (∀ k, k ≠ 10 → mm_I ν (q + 1) k = mm_I μ (q + 1) k) ∧ (∀ j x, j ≤ pl → A[j]? = some x → mm_I ν (q + 15) x = 0) ∧ (∀ j x, A[j]? = some x → mm_I ν (q + 17) j = nI x)) → am_W E C (am_MQ E C (fun v μ' => ∃ (A : List Nat) (ld : Nat), v = none ∧ A.head? = some ld ∧ Sm (Sdw q) μ μ' ∧ A.Pairwise (lexR (rkF μ q Rd En)) ∧ (∀ x, x ∈ A ↔ x < En ∧ mm_I μ (q + 15) x = 0) ∧ A.length ≤ En ∧ mm_I μ' (q + 15) = (dropL (badF μ q Rd ld) least (nI Rd) (todo A (A.length - 1)) (mm_I μ (q + 15), rem)).1 ∧ mm_I μ' (q + 1) 10 = nI (dropL (badF μ q Rd ld) least (nI Rd) (todo A (A.length - 1)) (mm_I μ (q + 15), rem)).2 ∧ (∀ k, k ≠ 10 → mm_I μ' (q + 1) k = mm_I μ (q + 1) k) ∧ (dropL (badF μ q Rd ld) least (nI Rd) (todo A (A.length - 1)) (mm_I μ (q + 15), rem)).2 ≤ rem) (rmX2_dropWorse).cells (rmX2_dropWorse).slots) ν 0 0 16 [some (.ref (q + 1)), some (.int (nI A.length)), some (.int (nI ld)), some (.int (nI pl)), none] [] := by
    intro mz
    induction mz using Nat.strongRecOn with
    | ind mz ih =>
      intro pl rm' ν hz hI
      obtain ⟨hpl, hS, hD, h10, hrm, hk1, h15, h17⟩ := hI
      have hb2 : Bs ν := hb.fr hS.1
      have hr2 : Rc ν q L := hr.fr hS.1
      have hd : ∀ x k, ¬ Sdw q x → mm_I ν x k = mm_I μ x k := fun x k hx => hS.2.1 x k hx
      have ha2 : Ra ν q En Rd := ⟨by rw [hk1 4 (by decide)]; exact ha.1, by rw [hk1 12 (by decide)]; exact ha.2.1, hE, hR⟩
      have hq0 : ∀ k, mm_I ν q k = mm_I μ q k := fun k => hd _ _ (by unfold Sdw Sod; omega)
      have hq16 : ∀ k, mm_I ν (q + 16) k = mm_I μ (q + 16) k := fun k => hd _ _ (by unfold Sdw Sod; omega)
      have htk : ∀ x, x < 12 → tkn ν q x = tkn μ q x := fun x hx => funext fun k => hd _ _ (by unfold Sdw Sod; omega)
      refine am_iload_n fx dX2_dropWorse_16 rfl ?_
      refine am_iconst (v := 1) fx dX2_dropWorse_17 (by decide) ?_
      refine am_icmp_lt fx 110 dX2_dropWorse_18 (by decide) (fun c18 => ?_) (fun c18 => ?_)
      · skip
        have c18 : pl = 0 := by
          have h9 : nI pl < nI 1 := c18
          rw [nI_ltI (by omega) (by omega)] at h9
          omega
        exact am_vret fx dX2_dropWorse_110 ⟨A, ld, rfl, hld, hS, hP, hM, hAl, by rw [← hD, c18, todo_0]; rfl, by rw [← hD, c18, todo_0]; exact h10, hk1, by rw [← hD, c18, todo_0]; exact hrm⟩
      · skip
        have c18 : 0 < pl := by
          have h9 : ¬ nI pl < nI 1 := c18
          rw [nI_ltI (by omega) (by omega)] at h9
          omega
        refine am_aload_n fx dX2_dropWorse_21 rfl ?_
        refine am_getI fx dX2_dropWorse_22 fkX2_69 (by decide) (by decide) rfl (so2 hr2) h10 ?_
        refine am_aload_n fx dX2_dropWorse_25 rfl ?_
        refine am_getR fx dX2_dropWorse_26 fkX2_50 (by decide) (by decide) rfl (so2 hr2) (rf2_2 hr2) ?_
        refine am_getI fx dX2_dropWorse_29 fkX2_77 (by decide) (by decide) rfl (so3 hr2) ((hq0 4).trans hls) ?_
        refine am_icmp_le fx 110 dX2_dropWorse_32 (by decide) (fun c32 => ?_) (fun c32 => ?_)
        · try simp (disch := omega) only [bz_0, Classical.not_not, Int32.not_le, Int32.not_lt, Nat.not_le, Nat.not_lt, nI_leI, nI_ltI, nI_eq, nI_le0, nI_lt0] at c32
          exact am_vret fx dX2_dropWorse_110 ⟨A, ld, rfl, hld, hS, hP, hM, hAl, by rw [← hD, dropL_stop (show rm' ≤ least by omega)], by rw [← hD, dropL_stop (show rm' ≤ least by omega)]; exact h10, hk1, by rw [← hD, dropL_stop (show rm' ≤ least by omega)]; exact hrm⟩
        · try simp (disch := omega) only [bz_0, Classical.not_not, Int32.not_le, Int32.not_lt, Nat.not_le, Nat.not_lt, nI_leI, nI_ltI, nI_eq, nI_le0, nI_lt0] at c32
          obtain ⟨x0, hx0⟩ : ∃ x, A[pl]? = some x := ⟨A[pl]'(by omega), List.getElem?_eq_getElem (by omega)⟩
          have hx0m := (hM x0).mp (List.mem_of_getElem? hx0)
          obtain ⟨p1, rfl⟩ : ∃ p1, pl = p1 + 1 := ⟨pl - 1, by omega⟩
          rw [todo_s hx0] at hD
          refine am_aload_n fx dX2_dropWorse_35 rfl ?_
          refine am_getR fx dX2_dropWorse_36 fkX2_23 (by decide) (by decide) rfl (so2 hr2) (rf2_8 hr2) ?_
          refine am_iload_n fx dX2_dropWorse_39 rfl ?_
          refine am_iald  fx dX2_dropWorse_40 (sa2_8 hr2) rfl (by omega) (by decide) (h17 _ _ hx0) ?_
          refine am_istore fx dX2_dropWorse_41 (by decide) rfl ?_
          refine am_aload_n fx dX2_dropWorse_43 rfl ?_
          refine am_iload_n fx dX2_dropWorse_44 rfl ?_
          refine am_iload fx dX2_dropWorse_45 rfl ?_
          refine am_callV fx dX2_dropWorse_47 mkX2_112 (ct_X2_countOdds hb2 hr2 ha2 ld x0 Rd Rd hldm.1 hx0m.1 ((hq16 ld).trans (hran ld hldm.1 hldm.2)) ((hq16 x0).trans (hran x0 hx0m.1 hx0m.2)) hR hR) (so2 hr2) ⟨by decide, rfl⟩ rfl (Nat.le_of_ble_eq_true rfl) ⟨by decide, by decide⟩ ⟨Nat.le_of_ble_eq_true rfl, Nat.le_of_ble_eq_true rfl⟩ rfl ?_
          rintro _ ν3 ⟨rfl, hS3, hlo, hup⟩
          have hb3 : Bs ν3 := hb2.fr hS3.1
          have hr3 : Rc ν3 q L := hr2.fr hS3.1
          have h3 : ∀ x k, 57 ≤ x → mm_I ν3 x k = mm_I ν x k := fun x k hx => hS3.2.1 x k (Sod.d x hx)
          have ha3 : Ra ν3 q En Rd := ⟨by rw [h3 _ _ (by omega)]; exact ha2.1, by rw [h3 _ _ (by omega)]; exact ha2.2.1, hE, hR⟩
          have hst : mm_I ν3 (q + 15) = mm_I ν (q + 15) := funext fun k => h3 _ _ (by omega)
          rw [Nat.min_self, Nat.min_self, htk ld (by omega), htk x0 (by omega)] at hlo hup
          rw [hq0] at hup
          refine am_aload_n fx dX2_dropWorse_50 rfl ?_
          refine am_iload fx dX2_dropWorse_51 rfl ?_
          refine am_callV fx dX2_dropWorse_53 mkX2_85 (ct_X2_isLeftN hb3 hr3 ha3 x0 hx0m.1) (so2 hr3) ⟨by decide, rfl⟩ rfl (Nat.le_of_ble_eq_true rfl) ⟨by decide, by decide⟩ ⟨Nat.le_of_ble_eq_true rfl, Nat.le_of_ble_eq_true rfl⟩ rfl ?_
          rintro _ _ ⟨rfl, rfl⟩
          refine am_if_eq fx 104 dX2_dropWorse_56 (by decide) (fun c56 => ?_) (fun c56 => ?_)
          · try simp (disch := omega) only [bz_0, Classical.not_not, Int32.not_le, Int32.not_lt, Nat.not_le, Nat.not_lt, nI_leI, nI_ltI, nI_eq, nI_le0, nI_lt0] at c56
            exact absurd (by rw [h3 _ _ (by omega)]; exact h15 _ _ (Nat.le_refl _) hx0) c56
          · try simp (disch := omega) only [bz_0, Classical.not_not, Int32.not_le, Int32.not_lt, Nat.not_le, Nat.not_lt, nI_leI, nI_ltI, nI_eq, nI_le0, nI_lt0] at c56
            refine am_aload_n fx dX2_dropWorse_59 rfl ?_
            refine am_getR fx dX2_dropWorse_60 fkX2_46 (by decide) (by decide) rfl (so2 hr3) (rf2_1 hr3) ?_
            refine am_aload_n fx dX2_dropWorse_63 rfl ?_
            refine am_getR fx dX2_dropWorse_64 fkX2_50 (by decide) (by decide) rfl (so2 hr3) (rf2_2 hr3) ?_
            refine am_getI fx dX2_dropWorse_67 fkX2_116 (by decide) (by decide) rfl (so3 hr3) ((h3 _ _ (by omega)).trans (hq0 2)) ?_
            refine am_aload_n fx dX2_dropWorse_70 rfl ?_
            refine am_getR fx dX2_dropWorse_71 fkX2_50 (by decide) (by decide) rfl (so2 hr3) (rf2_2 hr3) ?_
            refine am_getI fx dX2_dropWorse_74 fkX2_119 (by decide) (by decide) rfl (so3 hr3) ((h3 _ _ (by omega)).trans (hq0 3)) ?_
            refine am_callV fx dX2_dropWorse_77 mkX2_122 (ct_X0_areAbove hb3 _ _) (so0 hb3) ⟨by decide, rfl⟩ rfl (Nat.le_of_ble_eq_true rfl) ⟨by decide, by decide⟩ ⟨Nat.le_of_ble_eq_true rfl, Nat.le_of_ble_eq_true rfl⟩ rfl ?_
            rintro _ _ ⟨rfl, rfl⟩
            refine am_if_ne fx 104 dX2_dropWorse_80 (by decide) (fun c80 => ?_) (fun c80 => ?_)
            · try simp (disch := omega) only [bz_0, Classical.not_not, Int32.not_le, Int32.not_lt, Nat.not_le, Nat.not_lt, nI_leI, nI_ltI, nI_eq, nI_le0, nI_lt0] at c80
              rw [hlo, hup] at c80
              have hDn : dropL (badF μ q Rd ld) least (nI Rd) (todo A p1) (mm_I ν3 (q + 15), rm') = (dropL (badF μ q Rd ld) least (nI Rd) (todo A (A.length - 1)) (mm_I μ (q + 15), rem)) := by
                rw [hst, ← hD]
                simp only [dropL]
                rw [if_neg (fun z => by simpa [badF, c80] using z.2)]
              first | refine am_iinc fx dX2_dropWorse_104 rfl (nI_dec (by omega)) (by decide) rfl ?_ | refine am_iinc fx dX2_dropWorse_104 rfl rfl (by decide) rfl ?_
              refine am_goto fx 16 dX2_dropWorse_107 (by decide) ?_
              refine am_sub [true, true, true, true, false] rfl ?_
              exact ih p1 (by omega) p1 rm' ν3 rfl ⟨by omega, hS.tr (hS3.mono (fun _ => Sdw.od)), hDn, by rw [h3 _ _ (by omega)]; exact h10, hrm, fun k hk => by rw [h3 _ _ (by omega)]; exact hk1 k hk, fun j x hj hx => by rw [h3 _ _ (by omega)]; exact h15 j x (by omega) hx, fun j x hx => by rw [h3 _ _ (by omega)]; exact h17 j x hx⟩
            · try simp (disch := omega) only [bz_0, Classical.not_not, Int32.not_le, Int32.not_lt, Nat.not_le, Nat.not_lt, nI_leI, nI_ltI, nI_eq, nI_le0, nI_lt0] at c80
              rw [hlo, hup] at c80
              have hDd : dropL (badF μ q Rd ld) least (nI Rd) (todo A p1) (mm_I (mm_sI (mm_sI ν3 (q + 15) x0 (nI Rd)) (q + 1) 10 (nI (rm' - 1))) (q + 15), rm' - 1) = (dropL (badF μ q Rd ld) least (nI Rd) (todo A (A.length - 1)) (mm_I μ (q + 15), rem)) := by
                rw [← hD]
                simp only [dropL]
                rw [if_pos ⟨by omega, by simp only [badF]; exact decide_eq_true c80⟩]
                congr 2
                funext k
                rw [mI_ne (Or.inl (by omega)), mI_sI, hst]
                unfold upd
                by_cases e : k = x0
                · rw [if_pos ⟨rfl, e⟩, if_pos e]
                · rw [if_neg (fun z => e z.2), if_neg e]
              refine am_aload_n fx dX2_dropWorse_83 rfl ?_
              refine am_getR fx dX2_dropWorse_84 fkX2_16 (by decide) (by decide) rfl (so2 hr3) (rf2_6 hr3) ?_
              refine am_iload fx dX2_dropWorse_87 rfl ?_
              refine am_aload_n fx dX2_dropWorse_89 rfl ?_
              refine am_getI fx dX2_dropWorse_90 fkX2_33 (by decide) (by decide) rfl (so2 hr3) ha3.2.1 ?_
              refine am_iast  fx dX2_dropWorse_93 (sa2_6 hr3) rfl (by omega) (by decide) ?_
              refine am_aload_n fx dX2_dropWorse_94 rfl ?_
              refine am_dup_ref fx dX2_dropWorse_95 ?_
              refine am_getI fx dX2_dropWorse_96 fkX2_69 (by decide) (by decide) rfl (so2 hr3) ((mI_ne (Or.inl (by omega))).trans ((h3 _ _ (by omega)).trans h10)) ?_
              refine am_iconst (v := 1) fx dX2_dropWorse_99 (by decide) ?_
              refine am_isub fx dX2_dropWorse_100 ?_
              refine am_topi (nI_pred1 (by omega)) ?_
              refine am_putI fx dX2_dropWorse_101 fkX2_69 (by decide) (by decide) rfl rfl (so2 hr3) ?_
              first | refine am_iinc fx dX2_dropWorse_104 rfl (nI_dec (by omega)) (by decide) rfl ?_ | refine am_iinc fx dX2_dropWorse_104 rfl rfl (by decide) rfl ?_
              refine am_goto fx 16 dX2_dropWorse_107 (by decide) ?_
              refine am_sub [true, true, true, true, false] rfl ?_
              exact ih p1 (by omega) p1 (rm' - 1) (mm_sI (mm_sI ν3 (q + 15) x0 (nI Rd)) (q + 1) 10 (nI (rm' - 1))) rfl ⟨by omega, (hS.tr (hS3.mono (fun _ => Sdw.od))).tr ((Sm.sI _ (Or.inr (Or.inl rfl))).tr (Sm.sI _ (Or.inl rfl))), hDd, mI_same _ _ _ _, by omega, fun k hk => by rw [mI_ne (Or.inr hk), mI_ne (Or.inl (by omega)), h3 _ _ (by omega)]; exact hk1 k hk, fun j x hj hx => by rw [mI_ne (Or.inl (by omega)), mI_ne (Or.inr (srt_ne hP hx hx0 (by omega))), h3 _ _ (by omega)]; exact h15 j x (by omega) hx, fun j x hx => by rw [mI_ne (Or.inl (by omega)), mI_ne (Or.inl (by omega)), h3 _ _ (by omega)]; exact h17 j x hx⟩
  refine am_sub [true, true, true, true, false] rfl ?_
  exact lp16 _ (A.length - 1) rem _ rfl ⟨by omega, hS0.mono (fun _ => Sdw.ar), by rw [h150], by rw [hd0 _ _ (by unfold Sar; omega)]; exact hrem, Nat.le_refl _, fun k _ => hd0 _ _ (by unfold Sar; omega), fun j x _ hx => by rw [h150]; exact ((hM x).mp (List.mem_of_getElem? hx)).2, hG⟩
end
section
theorem dropL_congr {bad bad' : Nat → Bool} {least : Nat} {rd : Int32} : ∀ {l : List Nat} {st : (Nat → Int32) × Nat}, (∀ x ∈ l, bad x = bad' x) → dropL bad' least rd l st = dropL bad least rd l st
  | [], _, _ => rfl
  | x :: l, st, h => by
    simp only [dropL]
    rw [h x List.mem_cons_self]
    rw [dropL_congr (l := l) (fun y hy => h y (List.mem_cons_of_mem _ hy)), dropL_congr (l := l) (fun y hy => h y (List.mem_cons_of_mem _ hy))]
theorem todo_mem {A : List Nat} {p x : Nat} (h : x ∈ todo A p) : x ∈ A := by
  unfold todo at h
  exact List.mem_of_mem_take (List.mem_of_mem_drop (List.mem_reverse.mp h))
/-- what dropping does behind round Rd -/
def DrP (μ : am_M) (q En Rd least : Nat) (first : Int32) (rem : Nat) (dr' : Nat → Int32) (rem' : Nat) : Prop :=
  (nI Rd < first ∧ dr' = mm_I μ (q + 15) ∧ rem' = rem) ∨ (first ≤ nI Rd ∧ ∃ (A : List Nat) (ld : Nat), A.head? = some ld ∧ A.Pairwise (lexR (rkF μ q Rd En)) ∧ (∀ x, x ∈ A ↔ x < En ∧ mm_I μ (q + 15) x = 0) ∧ A.length ≤ En ∧ dropL (badF μ q Rd ld) least (nI Rd) (todo A (A.length - 1)) (mm_I μ (q + 15), rem) = (dr', rem') ∧ rem' ≤ rem)
def EndP (μ μ' : am_M) (q L En Rd rem least : Nat) : Prop := ∃ (dr' : Nat → Int32) (rem' : Nat), DrP μ q En (Rd + 1) least (mm_I μ q 1) rem dr' rem' ∧ rem' ≤ rem ∧ Sm (Sdw q) μ μ' ∧ mm_I μ' (q + 15) = dr' ∧ mm_I μ' (q + 1) 10 = nI rem' ∧ mm_I μ' (q + 1) 12 = nI (Rd + 1) ∧ mm_I μ' (q + 1) 11 = enO (-1) (frst (fun s => decide (dr' s = 0)) En 0) ∧ mm_I μ' (q + 1) 14 = woF (nI rem') (mm_I μ q 4) (nI (Rd + 1)) (nI L) (mm_I μ q 5) (mm_I μ (q + 1) 13) ∧ (∀ k, k ≠ 10 → k ≠ 11 → k ≠ 12 → k ≠ 14 → mm_I μ' (q + 1) k = mm_I μ (q + 1) k)
theorem DrP.of {μ ν : am_M} {q En Rd least rem : Nat} {first : Int32} {dr' : Nat → Int32} {rem' : Nat} (h : DrP ν q En Rd least first rem dr' rem') (hE : En ≤ 12) (h15 : mm_I ν (q + 15) = mm_I μ (q + 15)) (htk : ∀ x, x < 12 → tkn ν q x = tkn μ q x) (hq : ∀ k, mm_I ν q k = mm_I μ q k) : DrP μ q En Rd least first rem dr' rem' := by
  rcases h with h | ⟨h0, A, ld, h1, h2, h3, h4, h5, h6⟩
  · exact Or.inl (by rw [← h15]; exact h)
  · have hlt : ∀ x ∈ A, x < 12 := fun x hx => by have := ((h3 x).mp hx).1; omega
    have hld : ld < 12 := hlt ld (List.mem_of_mem_head? h1)
    have hrk : ∀ x, x < 12 → rkF ν q Rd En x = rkF μ q Rd En x := fun x hx => rkF_eq (fun k => congrFun h15 k) (fun y k hy => congrFun (htk y hy) k) hE hx
    refine Or.inr ⟨h0, A, ld, h1, ?_, by rw [← h15]; exact h3, h4, ?_, h6⟩
    · refine List.Pairwise.imp_of_mem ?_ h2
      intro a b ha hb hab
      unfold lexR at *
      rw [← hrk a (hlt a ha), ← hrk b (hlt b hb)]
      exact hab
    · rw [← h5, h15]
      refine dropL_congr (fun x hx => ?_)
      have hx12 : x < 12 := hlt x (todo_mem hx)
      simp only [badF]
      rw [htk ld hld, htk x hx12, hq, hq, hq]
set_option maxRecDepth 100000 in
set_option maxHeartbeats 4000000 in
theorem ct_X2_endRound {E : am_E} {μ : am_M} (hb : Bs μ) {q L : Nat} (hr : Rc μ q L) {En Rd : Nat} (ha : Ra μ q En Rd) {rem least : Nat} (hrem : mm_I μ (q + 1) 10 = nI rem) (hr12 : rem ≤ 12) (hls : mm_I μ q 4 = nI least) (hl12 : least ≤ 12) (hRd : Rd < 24) (hran : ∀ s, s < En → mm_I μ (q + 15) s = 0 → mm_I μ (q + 16) s = nI (Rd + 1)) (hex : ∃ s, s < En ∧ mm_I μ (q + 15) s = 0) : am_Ct E yX2_endRound cX2_endRound 1 none rmX2_endRound [.ref (q + 1)] μ (fun v μ' => v = none ∧ EndP μ μ' q L En Rd rem least) := by
  refine am_Ct.of (ls := [some (.ref (q + 1))]) (by decide) (Nat.le_of_ble_eq_true rfl) rfl (fun C fx hnm => ?_)
  have hE := ha.e
  have hR := ha.r
  have hL := hr.l
  have hq := hr.qq
  refine am_aload_n fx dX2_endRound_0 rfl ?_
  refine am_dup_ref fx dX2_endRound_1 ?_
  refine am_getI fx dX2_endRound_2 fkX2_33 (by decide) (by decide) rfl (so2 hr) ha.2.1 ?_
  refine am_iconst (v := 1) fx dX2_endRound_5 (by decide) ?_
  refine am_iadd fx dX2_endRound_6 ?_
  refine am_topi (nI_1 Rd) ?_
  refine am_putI fx dX2_endRound_7 fkX2_33 (by decide) (by decide) rfl rfl (so2 hr) ?_
  have hb1 : Bs (mm_sI μ (q + 1) 12 (nI (Rd + 1))) := hb.fr (Fr.sI _ _ _ _)
  have hr1 : Rc (mm_sI μ (q + 1) 12 (nI (Rd + 1))) q L := hr.fr (Fr.sI _ _ _ _)
  have h1 : ∀ x k, x ≠ q + 1 → mm_I (mm_sI μ (q + 1) 12 (nI (Rd + 1))) x k = mm_I μ x k := fun x k hx => mI_ne (Or.inl hx)
  have ha1 : Ra (mm_sI μ (q + 1) 12 (nI (Rd + 1))) q En (Rd + 1) := ⟨by rw [mI_ne (Or.inr (by decide))]; exact ha.1, mI_same _ _ _ _, hE, by omega⟩
  have ct28 : ∀ (ν : am_M) (dr' : Nat → Int32) (rem' : Nat), (DrP μ q En (Rd + 1) least (mm_I μ q 1) rem dr' rem' ∧ rem' ≤ rem ∧ Sm (Sdw q) μ ν ∧ mm_I ν (q + 15) = dr' ∧ mm_I ν (q + 1) 10 = nI rem' ∧ mm_I ν (q + 1) 12 = nI (Rd + 1) ∧ (∀ k, k ≠ 10 → k ≠ 12 → mm_I ν (q + 1) k = mm_I μ (q + 1) k)) → am_W E C (am_MQ E C (fun v μ' => v = none ∧ EndP μ μ' q L En Rd rem least) (rmX2_endRound).cells (rmX2_endRound).slots) ν 0 0 28 [some (.ref (q + 1))] [] := by
    intro ν dr' rem' hI
    refine am_aload_n fx dX2_endRound_28 rfl ?_
    refine am_aload_n fx dX2_endRound_29 rfl ?_
    obtain ⟨hDr, hre, hS, h15, h10, h12, hk⟩ := hI
    have hb2 : Bs ν := hb.fr hS.1
    have hr2 : Rc ν q L := hr.fr hS.1
    have ha2 : Ra ν q En (Rd + 1) := ⟨by rw [hk 4 (by decide) (by decide)]; exact ha.1, h12, hE, by omega⟩
    have hq0 : ∀ k, mm_I ν q k = mm_I μ q k := fun k => hS.2.1 _ _ (by unfold Sdw Sod; omega)
    refine am_iconst (v := 0) fx dX2_endRound_30 (by decide) ?_
    refine am_callV fx dX2_endRound_31 mkX2_97 (ct_X2_leftFrom hb2 hr2 ha2 0 (by decide)) (so2 hr2) ⟨by decide, rfl⟩ rfl (Nat.le_of_ble_eq_true rfl) ⟨by decide, by decide⟩ ⟨Nat.le_of_ble_eq_true rfl, Nat.le_of_ble_eq_true rfl⟩ rfl ?_
    rintro _ _ ⟨rfl, rfl⟩
    refine am_putI fx dX2_endRound_34 fkX2_29 (by decide) (by decide) rfl rfl (so2 hr2) ?_
    refine am_aload_n fx dX2_endRound_37 rfl ?_
    refine am_aload_n fx dX2_endRound_38 rfl ?_
    refine am_callV fx dX2_endRound_39 mkX2_73 (ct_X2_whyOver (hb2.fr (Fr.sI _ _ _ _)) (hr2.fr (Fr.sI _ _ _ _))) (so2 hr2) ⟨by decide, rfl⟩ rfl (Nat.le_of_ble_eq_true rfl) ⟨by decide, by decide⟩ ⟨Nat.le_of_ble_eq_true rfl, Nat.le_of_ble_eq_true rfl⟩ rfl ?_
    rintro _ _ ⟨rfl, rfl⟩
    refine am_putI fx dX2_endRound_42 fkX2_39 (by decide) (by decide) rfl rfl (so2 hr2) ?_
    exact am_vret fx dX2_endRound_45 ⟨rfl, dr', rem', hDr, hre, hS.tr ((Sm.sI _ (Or.inl rfl)).tr (Sm.sI _ (Or.inl rfl))), funext fun k => by rw [mI_ne (Or.inl (by omega)), mI_ne (Or.inl (by omega))]; exact congrFun h15 k, by rw [mI_ne (Or.inr (by decide)), mI_ne (Or.inr (by decide))]; exact h10, by rw [mI_ne (Or.inr (by decide)), mI_ne (Or.inr (by decide))]; exact h12, by rw [mI_ne (Or.inr (by decide)), mI_same, h15], by rw [mI_same, mI_ne (Or.inr (by decide)), mI_ne (Or.inl (by omega)), mI_ne (Or.inr (by decide)), mI_ne (Or.inl (by omega)), mI_ne (Or.inr (by decide)), h10, h12, hq0, hq0, hk 13 (by decide) (by decide)], fun k a b c d => by rw [mI_ne (Or.inr d), mI_ne (Or.inr b)]; exact hk k a c⟩
  refine am_aload_n fx dX2_endRound_10 rfl ?_
  refine am_getI fx dX2_endRound_11 fkX2_33 (by decide) (by decide) rfl (so2 hr1) ha1.2.1 ?_
  refine am_aload_n fx dX2_endRound_14 rfl ?_
  refine am_getR fx dX2_endRound_15 fkX2_50 (by decide) (by decide) rfl (so2 hr1) (rf2_2 hr1) ?_
  refine am_getI fx dX2_endRound_18 fkX2_103 (by decide) (by decide) rfl (so3 hr1) (h1 _ _ (by omega)) ?_
  refine am_icmp_lt fx 28 dX2_endRound_21 (by decide) (fun c21 => ?_) (fun c21 => ?_)
  · skip
    exact ct28 _ _ _ ⟨Or.inl ⟨c21, rfl, rfl⟩, Nat.le_refl _, Sm.sI _ (Or.inl rfl), funext fun k => h1 _ _ (by omega), by rw [mI_ne (Or.inr (by decide))]; exact hrem, mI_same _ _ _ _, fun k _ h12 => mI_ne (Or.inr h12)⟩
  · skip
    have c21 := Int32.not_lt.mp c21
    refine am_aload_n fx dX2_endRound_24 rfl ?_
    refine am_callV fx dX2_endRound_25 mkX2_106 (ct_X2_dropWorse hb1 hr1 ha1 (rem := rem) (least := least) (by rw [mI_ne (Or.inr (by decide))]; exact hrem) hr12 (by rw [h1 _ _ (by omega)]; exact hls) hl12 (fun s hs hl => by rw [h1 _ _ (by omega)]; exact hran s hs (by rw [← h1 _ _ (show q + 15 ≠ q + 1 by omega)]; exact hl)) (by obtain ⟨s, hs, hl⟩ := hex; exact ⟨s, hs, by rw [h1 _ _ (by omega)]; exact hl⟩)) (so2 hr1) ⟨by decide, rfl⟩ rfl (Nat.le_of_ble_eq_true rfl) ⟨by decide, by decide⟩ ⟨Nat.le_of_ble_eq_true rfl, Nat.le_of_ble_eq_true rfl⟩ rfl ?_
    rintro _ ν2 ⟨A, ld, rfl, hld, hS2, hP, hM, hAl, h15, h10, hk1, hFr⟩
    have hDr : DrP μ q En (Rd + 1) least (mm_I μ q 1) rem _ _ := DrP.of (ν := (mm_sI μ (q + 1) 12 (nI (Rd + 1)))) (Or.inr ⟨c21, A, ld, hld, hP, hM, hAl, rfl, hFr⟩) hE (funext fun k => h1 _ _ (by omega)) (fun x hx => funext fun k => h1 _ _ (by omega)) (fun k => h1 _ _ (by omega))
    exact ct28 _ _ _ ⟨hDr, hFr, (Sm.sI _ (Or.inl rfl)).tr hS2, h15, h10, (hk1 12 (by decide)).trans (mI_same _ _ _ _), fun k h9 h12 => (hk1 k h9).trans (mI_ne (Or.inr h12))⟩
end
section
set_option maxRecDepth 100000 in
set_option maxHeartbeats 4000000 in
theorem ct_X2_runNextN {E : am_E} {μ : am_M} (hb : Bs μ) {q L : Nat} (hr : Rc μ q L) {En Rd : Nat} (ha : Ra μ q En Rd) {S N : Nat} (ht : Tb μ S N) (hno : ¬ mm_I μ (q + 1) 14 = 0 ∨ co μ S N (mm_I μ (q + 1) 11) (if 0 ≤ nI Rd ∧ nI Rd < nI L then mm_I μ (q + 19) (nI Rd).toNatClampNeg else -1) = -1) : am_Ct E yX2_runNext cX2_runNext 2 (some .int) rmX2_runNext [.ref (q + 1)] μ (fun v μ' => v = some (.int (-3)) ∧ μ = μ') := by
  refine am_Ct.of (ls := [some (.ref (q + 1)), none]) (by decide) (Nat.le_of_ble_eq_true rfl) rfl (fun C fx hnm => ?_)
  have hE := ha.e
  have hR := ha.r
  have hL := hr.l
  have hq := hr.qq
  refine am_aload_n fx dX2_runNext_0 rfl ?_
  refine am_getR fx dX2_runNext_1 fkX2_42 (by decide) (by decide) rfl (so2 hr) (rf2_0 hr) ?_
  refine am_aload_n fx dX2_runNext_4 rfl ?_
  refine am_getI fx dX2_runNext_5 fkX2_29 (by decide) (by decide) rfl (so2 hr) rfl ?_
  refine am_aload_n fx dX2_runNext_8 rfl ?_
  refine am_aload_n fx dX2_runNext_9 rfl ?_
  refine am_getI fx dX2_runNext_10 fkX2_33 (by decide) (by decide) rfl (so2 hr) ha.2.1 ?_
  refine am_callV fx dX2_runNext_13 mkX2_89 (ct_X2_instanceAt hb hr _) (so2 hr) ⟨by decide, rfl⟩ rfl (Nat.le_of_ble_eq_true rfl) ⟨by decide, by decide⟩ ⟨Nat.le_of_ble_eq_true rfl, Nat.le_of_ble_eq_true rfl⟩ rfl ?_
  rintro _ _ ⟨rfl, rfl⟩
  refine am_callV fx dX2_runNext_16 mkX2_93 (ct_X5_costAt hb ht _ _) (so5 hb) ⟨by decide, rfl⟩ rfl (Nat.le_of_ble_eq_true rfl) ⟨by decide, by decide⟩ ⟨Nat.le_of_ble_eq_true rfl, Nat.le_of_ble_eq_true rfl⟩ rfl ?_
  rintro _ _ ⟨rfl, rfl⟩
  refine am_istore_n fx dX2_runNext_19 (by decide) rfl ?_
  refine am_aload_n fx dX2_runNext_20 rfl ?_
  refine am_getI fx dX2_runNext_21 fkX2_39 (by decide) (by decide) rfl (so2 hr) rfl ?_
  refine am_if_ne fx 43 dX2_runNext_24 (by decide) (fun c24 => ?_) (fun c24 => ?_)
  · skip
    refine am_bipush (v := (-3)) fx dX2_runNext_43 (by decide) ?_
    exact am_iret fx dX2_runNext_45 ⟨rfl, rfl⟩
  · skip
    refine am_iload_n fx dX2_runNext_27 rfl ?_
    refine am_iconst (v := (-1)) fx dX2_runNext_28 (by decide) ?_
    refine am_icmp_eq fx 43 dX2_runNext_29 (by decide) (fun c29 => ?_) (fun c29 => ?_)
    · skip
      refine am_bipush (v := (-3)) fx dX2_runNext_43 (by decide) ?_
      exact am_iret fx dX2_runNext_45 ⟨rfl, rfl⟩
    · skip
      exact absurd (hno.resolve_left (fun z => z c24)) c29
abbrev rnM (μ : am_M) (q nx Rd rn En : Nat) (c : Int32) : am_M := (mm_sI (mm_sI (mm_sI (mm_sI μ (q + 3 + nx) Rd c) (q + 16) nx (nI (Rd + 1))) (q + 1) 13 (nI (rn + 1))) (q + 1) 11 (enO (-1) (frst (fun s => decide (mm_I μ (q + 15) s = 0)) En (nx + 1))))
theorem frst_some {b : Nat → Bool} {n i y : Nat} (h : frst b n i = some y) : i ≤ y ∧ y < n ∧ b y = true ∧ ∀ j, i ≤ j → j < y → b j = false := by
  unfold frst at h
  have h1 := List.find?_some h
  have h2 := List.mem_range.mp (List.mem_of_find?_eq_some h)
  simp only [Bool.and_eq_true, decide_eq_true_eq] at h1
  refine ⟨h1.1, h2, h1.2, fun j hj hy => ?_⟩
  cases hb : b j with
  | false => rfl
  | true =>
    exfalso
    have hf := find_up (p := fun s => decide (i ≤ s) && b s) (n := n) (r := y) h2 (by simp [h1.1, h1.2])
    obtain ⟨m, hm1, hm2⟩ := pk_least (fun k => i ≤ k ∧ b k = true) ⟨j, hj, hb⟩
    have hmy : m < y := by
      rcases Nat.lt_or_ge m y with z | z
      · exact z
      · exact absurd ⟨hj, hb⟩ (hm2 j (by omega))
    have hg := find_up (p := fun s => decide (i ≤ s) && b s) (n := n) (r := m) (by omega) (by simp [hm1.1, hm1.2]) (fun k hk => by
      have := hm2 k hk
      by_cases hik : i ≤ k
      · cases hbk : b k with
        | false => simp
        | true => exact absurd ⟨hik, hbk⟩ this
      · simp [hik])
    rw [hg] at h
    cases h
    omega
theorem frst_none {b : Nat → Bool} {n i : Nat} (h : frst b n i = none) : ∀ j, i ≤ j → j < n → b j = false := by
  intro j h1 h2
  unfold frst at h
  have := List.find?_eq_none.mp h j (List.mem_range.mpr h2)
  simp only [Bool.and_eq_true, decide_eq_true_eq, not_and, Bool.not_eq_true] at this
  exact this h1
theorem rn_ran {μ : am_M} {q L En Rd nx rn : Nat} {c : Int32} (hr : Rc μ q L) (hxE : nx < En) (hE : En ≤ 12) (hran : ∀ s, s < En → mm_I μ (q + 15) s = 0 → mm_I μ (q + 16) s = nI (if s < nx then Rd + 1 else Rd)) (hfn : (frst (fun s => decide (mm_I μ (q + 15) s = 0)) En (nx + 1)) = none) (s : Nat) (hs : s < En) (hl : mm_I (rnM μ q nx Rd rn En c) (q + 15) s = 0) : mm_I (rnM μ q nx Rd rn En c) (q + 16) s = nI (Rd + 1) := by
  rw [mI_ne (Or.inl (by omega)), mI_ne (Or.inl (by omega)), mI_ne (Or.inl (by omega)), mI_ne (Or.inl (by omega))] at hl
  rw [mI_ne (Or.inl (by omega)), mI_ne (Or.inl (by omega)), mI_sI]
  by_cases e : s = nx
  · rw [if_pos ⟨rfl, e⟩]
  · rw [if_neg (fun z => e z.2), mI_ne (Or.inl (by omega)), hran s hs hl]
    rcases Nat.lt_or_ge s nx with z | z
    · rw [if_pos z]
    · have := frst_none hfn s (by omega) hs
      simp [hl] at this
set_option maxRecDepth 100000 in
set_option maxHeartbeats 4000000 in
theorem ct_X2_runNext {E : am_E} {μ : am_M} (hb : Bs μ) {q L : Nat} (hr : Rc μ q L) {En Rd : Nat} (ha : Ra μ q En Rd) {S N : Nat} (ht : Tb μ S N) {rem least nx io rn : Nat} {c : Int32} (hrem : mm_I μ (q + 1) 10 = nI rem) (hr12 : rem ≤ 12) (hls : mm_I μ q 4 = nI least) (hl12 : least ≤ 12) (hw : mm_I μ (q + 1) 14 = 0) (hnx : mm_I μ (q + 1) 11 = nI nx) (hxE : nx < En) (hES : En ≤ S) (hxl : mm_I μ (q + 15) nx = 0) (hRd : Rd < L) (hio : mm_I μ (q + 19) Rd = nI io) (hioN : io < N) (hc : mm_I μ (4 + nx) io = c) (hct : ¬ c = -1) (hrn : mm_I μ (q + 1) 13 = nI rn) (hrn2 : rn < 65536) (hran : ∀ s, s < En → mm_I μ (q + 15) s = 0 → mm_I μ (q + 16) s = nI (if s < nx then Rd + 1 else Rd)) : am_Ct E yX2_runNext cX2_runNext 2 (some .int) rmX2_runNext [.ref (q + 1)] μ (fun v μ' => v = some (.int (nI (rn + 1))) ∧ (((frst (fun s => decide (mm_I μ (q + 15) s = 0)) En (nx + 1)) ≠ none ∧ μ' = rnM μ q nx Rd rn En c) ∨ ((frst (fun s => decide (mm_I μ (q + 15) s = 0)) En (nx + 1)) = none ∧ EndP (rnM μ q nx Rd rn En c) μ' q L En Rd rem least))) := by
  refine am_Ct.of (ls := [some (.ref (q + 1)), none]) (by decide) (Nat.le_of_ble_eq_true rfl) rfl (fun C fx hnm => ?_)
  have hE := ha.e
  have hR := ha.r
  have hL := hr.l
  have hq := hr.qq
  have hS := ht.s
  have hN := ht.n
  refine am_aload_n fx dX2_runNext_0 rfl ?_
  refine am_getR fx dX2_runNext_1 fkX2_42 (by decide) (by decide) rfl (so2 hr) (rf2_0 hr) ?_
  refine am_aload_n fx dX2_runNext_4 rfl ?_
  refine am_getI fx dX2_runNext_5 fkX2_29 (by decide) (by decide) rfl (so2 hr) hnx ?_
  refine am_aload_n fx dX2_runNext_8 rfl ?_
  refine am_aload_n fx dX2_runNext_9 rfl ?_
  refine am_getI fx dX2_runNext_10 fkX2_33 (by decide) (by decide) rfl (so2 hr) ha.2.1 ?_
  refine am_callV fx dX2_runNext_13 mkX2_89 (ct_X2_instanceAt hb hr _) (so2 hr) ⟨by decide, rfl⟩ rfl (Nat.le_of_ble_eq_true rfl) ⟨by decide, by decide⟩ ⟨Nat.le_of_ble_eq_true rfl, Nat.le_of_ble_eq_true rfl⟩ rfl ?_
  rintro _ _ ⟨rfl, rfl⟩
  refine am_topi (show _ = nI io by rw [if_pos ⟨nI_pos' (by omega), nI_lt hRd (by omega)⟩, nI_clamp (by omega), hio]) ?_
  refine am_callV fx dX2_runNext_16 mkX2_93 (ct_X5_costAt hb ht _ _) (so5 hb) ⟨by decide, rfl⟩ rfl (Nat.le_of_ble_eq_true rfl) ⟨by decide, by decide⟩ ⟨Nat.le_of_ble_eq_true rfl, Nat.le_of_ble_eq_true rfl⟩ rfl ?_
  rintro _ _ ⟨rfl, rfl⟩
  refine am_topi (show _ = c by rw [co_in (by omega) hioN hS hN, hc]) ?_
  refine am_istore_n fx dX2_runNext_19 (by decide) rfl ?_
  refine am_aload_n fx dX2_runNext_20 rfl ?_
  refine am_getI fx dX2_runNext_21 fkX2_39 (by decide) (by decide) rfl (so2 hr) hw ?_
  refine am_if_ne fx 43 dX2_runNext_24 (by decide) (fun c24 => ?_) (fun c24 => ?_)
  · skip
    exact absurd rfl c24
  · skip
    refine am_iload_n fx dX2_runNext_27 rfl ?_
    refine am_iconst (v := (-1)) fx dX2_runNext_28 (by decide) ?_
    refine am_icmp_eq fx 43 dX2_runNext_29 (by decide) (fun c29 => ?_) (fun c29 => ?_)
    · skip
      exact absurd c29 hct
    · skip
      refine am_aload_n fx dX2_runNext_32 rfl ?_
      refine am_aload_n fx dX2_runNext_33 rfl ?_
      refine am_getI fx dX2_runNext_34 fkX2_29 (by decide) (by decide) rfl (so2 hr) hnx ?_
      refine am_callV fx dX2_runNext_37 mkX2_85 (ct_X2_isLeftN hb hr ha _ hxE) (so2 hr) ⟨by decide, rfl⟩ rfl (Nat.le_of_ble_eq_true rfl) ⟨by decide, by decide⟩ ⟨Nat.le_of_ble_eq_true rfl, Nat.le_of_ble_eq_true rfl⟩ rfl ?_
      rintro _ _ ⟨rfl, rfl⟩
      refine am_if_ne fx 46 dX2_runNext_40 (by decide) (fun c40 => ?_) (fun c40 => ?_)
      · try simp (disch := omega) only [bz_0, Classical.not_not, Int32.not_le, Int32.not_lt, Nat.not_le, Nat.not_lt, nI_leI, nI_ltI, nI_eq, nI_le0, nI_lt0] at c40
        refine am_aload_n fx dX2_runNext_46 rfl ?_
        refine am_getR fx dX2_runNext_47 fkX2_11 (by decide) (by decide) rfl (so2 hr) (rf2_5 hr) ?_
        refine am_aload_n fx dX2_runNext_50 rfl ?_
        refine am_getI fx dX2_runNext_51 fkX2_29 (by decide) (by decide) rfl (so2 hr) hnx ?_
        refine am_aald  fx dX2_runNext_54 (sa2_5 hr) rfl (by omega) (by decide) (rg2_5 hr (by omega)) ?_
        refine am_aload_n fx dX2_runNext_55 rfl ?_
        refine am_getI fx dX2_runNext_56 fkX2_33 (by decide) (by decide) rfl (so2 hr) ha.2.1 ?_
        refine am_iload_n fx dX2_runNext_59 rfl ?_
        refine am_iast  fx dX2_runNext_60 (sg2_5 hr (by omega)) rfl (by omega) (by decide) ?_
        have ed : ∀ x k, x ≠ q + 3 + nx → mm_I (mm_sI μ (q + 3 + nx) Rd c) x k = mm_I μ x k := fun x k hx => mI_ne (Or.inl hx)
        refine am_aload_n fx dX2_runNext_61 rfl ?_
        refine am_getR fx dX2_runNext_62 fkX2_20 (by decide) (by decide) rfl (so2 hr) (rf2_7 hr) ?_
        refine am_aload_n fx dX2_runNext_65 rfl ?_
        refine am_getI fx dX2_runNext_66 fkX2_29 (by decide) (by decide) rfl (so2 hr) ((ed _ _ (by omega)).trans hnx) ?_
        refine am_dup2 fx dX2_runNext_69 ?_
        refine am_iald  fx dX2_runNext_70 (sa2_7 hr) rfl (by omega) (by decide) ((ed _ _ (by omega)).trans ((hran nx hxE hxl).trans (by rw [if_neg (by omega)]))) ?_
        refine am_iconst (v := 1) fx dX2_runNext_71 (by decide) ?_
        refine am_iadd fx dX2_runNext_72 ?_
        refine am_topi (nI_1 Rd) ?_
        refine am_iast  fx dX2_runNext_73 (sa2_7 hr) rfl (by omega) (by decide) ?_
        refine am_aload_n fx dX2_runNext_74 rfl ?_
        refine am_dup_ref fx dX2_runNext_75 ?_
        refine am_getI fx dX2_runNext_76 fkX2_36 (by decide) (by decide) rfl (so2 hr) ((mI_ne (Or.inl (by omega))).trans ((ed _ _ (by omega)).trans hrn)) ?_
        refine am_iconst (v := 1) fx dX2_runNext_79 (by decide) ?_
        refine am_iadd fx dX2_runNext_80 ?_
        refine am_topi (nI_1 rn) ?_
        refine am_putI fx dX2_runNext_81 fkX2_36 (by decide) (by decide) rfl rfl (so2 hr) ?_
        have e1 : ∀ x k, x ≠ q + 3 + nx → x ≠ q + 16 → x ≠ q + 1 → mm_I (mm_sI (mm_sI (mm_sI μ (q + 3 + nx) Rd c) (q + 16) nx (nI (Rd + 1))) (q + 1) 13 (nI (rn + 1))) x k = mm_I μ x k := fun x k a b c => by rw [mI_ne (Or.inl c), mI_ne (Or.inl b), mI_ne (Or.inl a)]
        have ef : ∀ k, k ≠ 13 → mm_I (mm_sI (mm_sI (mm_sI μ (q + 3 + nx) Rd c) (q + 16) nx (nI (Rd + 1))) (q + 1) 13 (nI (rn + 1))) (q + 1) k = mm_I μ (q + 1) k := fun k hk => by rw [mI_ne (Or.inr hk), mI_ne (Or.inl (by omega)), mI_ne (Or.inl (by omega))]
        have hb1 : Bs (mm_sI (mm_sI (mm_sI μ (q + 3 + nx) Rd c) (q + 16) nx (nI (Rd + 1))) (q + 1) 13 (nI (rn + 1))) := hb.fr ⟨rfl, rfl, rfl⟩
        have hr1 : Rc (mm_sI (mm_sI (mm_sI μ (q + 3 + nx) Rd c) (q + 16) nx (nI (Rd + 1))) (q + 1) 13 (nI (rn + 1))) q L := hr.fr ⟨rfl, rfl, rfl⟩
        have ha1 : Ra (mm_sI (mm_sI (mm_sI μ (q + 3 + nx) Rd c) (q + 16) nx (nI (Rd + 1))) (q + 1) 13 (nI (rn + 1))) q En Rd := ⟨by rw [ef 4 (by decide)]; exact ha.1, by rw [ef 12 (by decide)]; exact ha.2.1, hE, hR⟩
        have e15 : mm_I (mm_sI (mm_sI (mm_sI μ (q + 3 + nx) Rd c) (q + 16) nx (nI (Rd + 1))) (q + 1) 13 (nI (rn + 1))) (q + 15) = mm_I μ (q + 15) := funext fun k => e1 _ _ (by omega) (by omega) (by omega)
        refine am_aload_n fx dX2_runNext_84 rfl ?_
        refine am_aload_n fx dX2_runNext_85 rfl ?_
        refine am_aload_n fx dX2_runNext_86 rfl ?_
        refine am_getI fx dX2_runNext_87 fkX2_29 (by decide) (by decide) rfl (so2 hr1) ((ef 11 (by decide)).trans hnx) ?_
        refine am_iconst (v := 1) fx dX2_runNext_90 (by decide) ?_
        refine am_iadd fx dX2_runNext_91 ?_
        refine am_topi (nI_1 nx) ?_
        refine am_callV fx dX2_runNext_92 mkX2_97 (ct_X2_leftFrom hb1 hr1 ha1 (nx + 1) (by omega)) (so2 hr1) ⟨by decide, rfl⟩ rfl (Nat.le_of_ble_eq_true rfl) ⟨by decide, by decide⟩ ⟨Nat.le_of_ble_eq_true rfl, Nat.le_of_ble_eq_true rfl⟩ rfl ?_
        rintro _ _ ⟨rfl, rfl⟩
        rw [e15]
        refine am_putI fx dX2_runNext_95 fkX2_29 (by decide) (by decide) rfl rfl (so2 hr1) ?_
        have hb2 : Bs (rnM μ q nx Rd rn En c) := hb.fr ⟨rfl, rfl, rfl⟩
        have hr2 : Rc (rnM μ q nx Rd rn En c) q L := hr.fr ⟨rfl, rfl, rfl⟩
        have eg : ∀ k, k ≠ 13 → k ≠ 11 → mm_I (rnM μ q nx Rd rn En c) (q + 1) k = mm_I μ (q + 1) k := fun k hk h11 => by rw [mI_ne (Or.inr h11)]; exact ef k hk
        have e2 : ∀ x k, x ≠ q + 3 + nx → x ≠ q + 16 → x ≠ q + 1 → mm_I (rnM μ q nx Rd rn En c) x k = mm_I μ x k := fun x k a b c => by rw [mI_ne (Or.inl c)]; exact e1 x k a b c
        have ha2 : Ra (rnM μ q nx Rd rn En c) q En Rd := ⟨by rw [eg 4 (by decide) (by decide)]; exact ha.1, by rw [eg 12 (by decide) (by decide)]; exact ha.2.1, hE, hR⟩
        refine am_aload_n fx dX2_runNext_98 rfl ?_
        refine am_getI fx dX2_runNext_99 fkX2_29 (by decide) (by decide) rfl (so2 hr2) (mI_same _ _ _ _) ?_
        refine am_iconst (v := (-1)) fx dX2_runNext_102 (by decide) ?_
        refine am_icmp_ne fx 110 dX2_runNext_103 (by decide) (fun c103 => ?_) (fun c103 => ?_)
        · skip
          have hfn : (frst (fun s => decide (mm_I μ (q + 15) s = 0)) En (nx + 1)) ≠ none := fun e => c103 (by rw [e]; rfl)
          refine am_aload_n fx dX2_runNext_110 rfl ?_
          refine am_getI fx dX2_runNext_111 fkX2_36 (by decide) (by decide) rfl (so2 hr2) (by rw [mI_ne (Or.inr (by decide)), mI_same]) ?_
          exact am_iret fx dX2_runNext_114 ⟨rfl, Or.inl ⟨hfn, rfl⟩⟩
        · skip
          have hfn : (frst (fun s => decide (mm_I μ (q + 15) s = 0)) En (nx + 1)) = none := by
            cases hf : (frst (fun s => decide (mm_I μ (q + 15) s = 0)) En (nx + 1)) with
            | none => rfl
            | some y =>
              rw [hf] at c103
              have := (frst_some hf).2.1
              exact absurd c103 (fun z => by have h9 : nI y < 0 := by rw [show nI y = -1 from z]; decide
                                             exact nI_pos (by omega) h9)
          refine am_aload_n fx dX2_runNext_106 rfl ?_
          refine am_callV fx dX2_runNext_107 mkX2_100 (ct_X2_endRound hb2 hr2 ha2 (rem := rem) (least := least) (by rw [eg 10 (by decide) (by decide)]; exact hrem) hr12 (by rw [e2 _ _ (by omega) (by omega) (by omega)]; exact hls) hl12 (by omega) (fun s hs hl => rn_ran hr hxE (by omega) hran hfn s hs hl) ⟨nx, hxE, by rw [e2 _ _ (by omega) (by omega) (by omega)]; exact hxl⟩) (so2 hr2) ⟨by decide, rfl⟩ rfl (Nat.le_of_ble_eq_true rfl) ⟨by decide, by decide⟩ ⟨Nat.le_of_ble_eq_true rfl, Nat.le_of_ble_eq_true rfl⟩ rfl ?_
          rintro _ ν2 ⟨rfl, hEnd⟩
          have hr3 : Rc ν2 q L := by
            obtain ⟨dr, re, h1, h2, h3, h4⟩ := hEnd
            exact hr2.fr h3.1
          have h13 : mm_I ν2 (q + 1) 13 = nI (rn + 1) := by
            obtain ⟨dr, re, h1, h2, h3, h4, h5, h6, h7, h8, h9⟩ := hEnd
            rw [h9 13 (by decide) (by decide) (by decide) (by decide), mI_ne (Or.inr (by decide)), mI_same]
          refine am_aload_n fx dX2_runNext_110 rfl ?_
          refine am_getI fx dX2_runNext_111 fkX2_36 (by decide) (by decide) rfl (so2 hr3) h13 ?_
          exact am_iret fx dX2_runNext_114 ⟨rfl, Or.inr ⟨hfn, hEnd⟩⟩
      · try simp (disch := omega) only [bz_0, Classical.not_not, Int32.not_le, Int32.not_lt, Nat.not_le, Nat.not_lt, nI_leI, nI_ltI, nI_eq, nI_le0, nI_lt0] at c40
        exact absurd hxl c40
end
section
/-! the order of a race -/
def stX (x : Int32) : Int32 := x * 1103515245 + 12345
def poX (x : Int32) (k : Nat) : Nat := (x.toBitVec.toNat / 65536) % k
def shuf : Nat → Int32 → (Nat → Int32) → (Nat → Int32)
  | 0, _, g => g
  | k + 1, x, g => shuf k (stX x) (upd (upd g (k + 1) (g (poX (stX x) (k + 2)))) (poX (stX x) (k + 2)) (g (k + 1)))
theorem kk_lt : ∀ kk, kk < 25 → (nI kk - 1 < 1 ↔ kk ≤ 1) := by decide
theorem ush16 (x : Int32) : (x.toUInt32 >>> ((nI 16).toUInt32 &&& Int32.toUInt32 31)).toInt32 = nI (x.toBitVec.toNat / 65536) := by
  have h := pk_ushr x (nI 16) 16 (by decide)
  have hx : x.toBitVec.toNat < 2 ^ 32 := x.toBitVec.isLt
  have h2 : (nI (x.toBitVec.toNat / 65536)).toBitVec.toNat = x.toBitVec.toNat / 65536 := pk_tn (by omega)
  exact Int32.toBitVec_inj.mp (BitVec.eq_of_toNat_eq (by rw [h, h2]))
theorem nI_m1p1 {n : Nat} (h : 0 < n) : nI n - 1 + 1 = nI n := by rw [nI_pred1 h, nI_1, Nat.sub_add_cancel h]
theorem nI_m1m1 {n : Nat} (h : 1 < n) : nI n - 1 + Int32.ofInt (-1) = nI (n - 1) - 1 := by rw [nI_pred1 (by omega), nI_dec (by omega), nI_pred1 (by omega)]
theorem ush_lt (x : Int32) : x.toBitVec.toNat / 65536 < 2 ^ 31 := by
  have hx : x.toBitVec.toNat < 2 ^ 32 := x.toBitVec.isLt
  omega
set_option maxRecDepth 100000 in
set_option maxHeartbeats 4000000 in
theorem ct_X2_begin {E : am_E} {μ : am_M} (hb : Bs μ) {q L : Nat} (hr : Rc μ q L) (seed : Int32) : am_Ct E yX2_begin cX2_begin 6 none rmX2_begin [.ref (q + 1), .int seed] μ (fun v μ' => v = none ∧ μ' = mm_sI (mm_fI μ (q + 19) (shuf (L - 1) seed (mm_I μ (q + 19)))) (q + 1) 14 (woF (mm_I μ (q + 1) 10) (mm_I μ q 4) (mm_I μ (q + 1) 12) (nI L) (mm_I μ q 5) (mm_I μ (q + 1) 13))) := by
  refine am_Ct.of (ls := [some (.ref (q + 1)), some (.int seed), none, none, none, none]) (by decide) (Nat.le_of_ble_eq_true rfl) rfl (fun C fx hnm => ?_)
  have hL := hr.l
  have hq := hr.qq
  refine am_iload_n fx dX2_begin_0 rfl ?_
  refine am_istore_n fx dX2_begin_1 (by decide) rfl ?_
  refine am_aload_n fx dX2_begin_2 rfl ?_
  refine am_getR fx dX2_begin_3 fkX2_60 (by decide) (by decide) rfl (so2 hr) (rf2_3 hr) ?_
  refine am_alen fx dX2_begin_6 (sa2_3 hr) (by decide) rfl ?_
  refine am_iconst (v := 1) fx dX2_begin_7 (by decide) ?_
  refine am_isub fx dX2_begin_8 ?_
  refine am_istore_n fx dX2_begin_9 (by decide) rfl ?_
  have lp10 : ∀ (mz : Nat) (kk : Nat) (x : Int32) (g : Nat → Int32), kk = mz → kk ≤ L → shuf (kk - 1) x g = shuf (L - 1) seed (mm_I μ (q + 19)) → am_W E C (am_MQ E C (fun v μ' => v = none ∧ μ' = mm_sI (mm_fI μ (q + 19) (shuf (L - 1) seed (mm_I μ (q + 19)))) (q + 1) 14 (woF (mm_I μ (q + 1) 10) (mm_I μ q 4) (mm_I μ (q + 1) 12) (nI L) (mm_I μ q 5) (mm_I μ (q + 1) 13))) (rmX2_begin).cells (rmX2_begin).slots) (mm_fI μ (q + 19) g) 0 0 10 [some (.ref (q + 1)), some (.int seed), some (.int x), some (.int (nI kk - 1)), none, none] [] := by
    intro mz
    induction mz using Nat.strongRecOn with
    | ind mz ih =>
      intro kk x g hz hk hg
      have hb2 : Bs (mm_fI μ (q + 19) g) := hb.fr (Fr.fI _ _ _)
      have hr2 : Rc (mm_fI μ (q + 19) g) q L := hr.fr (Fr.fI _ _ _)
      have eo : ∀ k, mm_I (mm_fI μ (q + 19) g) (q + 19) k = g k := fun k => mI_fIs _ _ _ _
      refine am_iload_n fx dX2_begin_10 rfl ?_
      refine am_iconst (v := 1) fx dX2_begin_11 (by decide) ?_
      refine am_icmp_lt fx 70 dX2_begin_12 (by decide) (fun c12 => ?_) (fun c12 => ?_)
      · skip
        have c12 := (kk_lt kk (by omega)).mp c12
        refine am_aload_n fx dX2_begin_70 rfl ?_
        refine am_aload_n fx dX2_begin_71 rfl ?_
        refine am_callV fx dX2_begin_72 mkX2_73 (ct_X2_whyOver hb2 hr2) (so2 hr2) ⟨by decide, rfl⟩ rfl (Nat.le_of_ble_eq_true rfl) ⟨by decide, by decide⟩ ⟨Nat.le_of_ble_eq_true rfl, Nat.le_of_ble_eq_true rfl⟩ rfl ?_
        rintro _ _ ⟨rfl, rfl⟩
        refine am_putI fx dX2_begin_75 fkX2_39 (by decide) (by decide) rfl rfl (so2 hr2) ?_
        exact am_vret fx dX2_begin_78 ⟨rfl, by rw [← hg, show shuf (kk - 1) x g = g by rcases (show kk = 0 ∨ kk = 1 by omega) with rfl | rfl <;> rfl, mI_fIn (by omega), mI_fIn (by omega), mI_fIn (by omega), mI_fIn (by omega), mI_fIn (by omega)]⟩
      · skip
        have c12 : 1 < kk := by
          rcases Nat.lt_or_ge 1 kk with z | z
          · exact z
          · exact absurd ((kk_lt kk (by omega)).mpr z) c12
        refine am_iload_n fx dX2_begin_15 rfl ?_
        refine am_ldc fx dX2_begin_16 kdX2_72 ?_
        refine am_imul fx dX2_begin_18 ?_
        refine am_sipush (v := (nI 12345)) fx dX2_begin_19 (by decide) ?_
        refine am_iadd fx dX2_begin_22 ?_
        refine am_istore_n fx dX2_begin_23 (by decide) rfl ?_
        refine am_iload_n fx dX2_begin_24 rfl ?_
        refine am_bipush (v := (nI 16)) fx dX2_begin_25 (by decide) ?_
        refine am_iushr fx dX2_begin_27 (ush16 _) ?_
        refine am_iload_n fx dX2_begin_28 rfl ?_
        refine am_iconst (v := 1) fx dX2_begin_29 (by decide) ?_
        refine am_iadd fx dX2_begin_30 ?_
        refine am_topi (nI_m1p1 (by omega)) ?_
        refine am_irem fx dX2_begin_31 (nI_ne0 (by omega) (by omega)) ?_
        refine am_topi (pk_rem (ush_lt _) (by omega) (by omega)) ?_
        have ho : poX (stX x) kk < kk := Nat.mod_lt _ (by omega)
        refine am_istore fx dX2_begin_32 (by decide) rfl ?_
        refine am_aload_n fx dX2_begin_34 rfl ?_
        refine am_getR fx dX2_begin_35 fkX2_60 (by decide) (by decide) rfl (so2 hr2) (rf2_3 hr2) ?_
        refine am_iload_n fx dX2_begin_38 rfl ?_
        refine am_iald  fx dX2_begin_39 (sa2_3 hr2) (nI_pred1 (by omega)) (by omega) (by omega) (eo _) ?_
        refine am_istore fx dX2_begin_40 (by decide) rfl ?_
        refine am_aload_n fx dX2_begin_42 rfl ?_
        refine am_getR fx dX2_begin_43 fkX2_60 (by decide) (by decide) rfl (so2 hr2) (rf2_3 hr2) ?_
        refine am_iload_n fx dX2_begin_46 rfl ?_
        refine am_aload_n fx dX2_begin_47 rfl ?_
        refine am_getR fx dX2_begin_48 fkX2_60 (by decide) (by decide) rfl (so2 hr2) (rf2_3 hr2) ?_
        refine am_iload fx dX2_begin_51 rfl ?_
        refine am_iald (j := (poX (stX x) kk)) fx dX2_begin_53 (sa2_3 hr2) rfl (by omega) (by omega) (eo _) ?_
        refine am_iast  fx dX2_begin_54 (sa2_3 hr2) (nI_pred1 (by omega)) (by omega) (by omega) ?_
        refine am_aload_n fx dX2_begin_55 rfl ?_
        refine am_getR fx dX2_begin_56 fkX2_60 (by decide) (by decide) rfl (so2 hr2) (rf2_3 hr2) ?_
        refine am_iload fx dX2_begin_59 rfl ?_
        refine am_iload fx dX2_begin_61 rfl ?_
        refine am_iast (j := (poX (stX x) kk)) fx dX2_begin_63 (sa2_3 hr2) rfl (by omega) (by omega) ?_
        have hg2 : shuf (kk - 1 - 1) (stX x) (upd (upd g (kk - 1) (g (poX (stX x) kk))) (poX (stX x) kk) (g (kk - 1))) = shuf (L - 1) seed (mm_I μ (q + 19)) := by
          rw [← hg]
          obtain ⟨k, rfl⟩ : ∃ k, kk = k + 2 := ⟨kk - 2, by omega⟩
          rfl
        refine am_iinc fx dX2_begin_64 rfl (nI_m1m1 (by omega)) (by decide) rfl ?_
        refine am_goto fx 10 dX2_begin_67 (by decide) ?_
        refine am_sub [true, true, true, true, false, false] rfl ?_
        exact am_mem (by rw [sI_fI, sI_fI]) (ih (kk - 1) (by omega) (kk - 1) _ _ rfl (by omega) hg2)
  refine am_sub [true, true, true, true, false, false] rfl ?_
  refine am_mem (fI_self μ (q + 19)).symm ?_
  exact lp10 _ L _ _ rfl (Nat.le_refl _) rfl
end
section
/-- the sum of c over those with P among the first i -/
def smQ (P : Nat → Bool) (c : Nat → Int32) : Nat → Int32
  | 0 => 0
  | i + 1 => smQ P c i + (if P i = true then c i else 0)
theorem i32_ss (a b c : Int32) : a - b - c = a - (b + c) := by
  rw [Int32.sub_eq_add_neg, Int32.sub_eq_add_neg, Int32.sub_eq_add_neg, Int32.neg_add, Int32.add_assoc]
  first | rfl | rw [Int32.sub_eq_add_neg]
def S45 (a : Nat) : Prop := a = 44 ∨ a = 45
def S3s (a : Nat) : Prop := a = 43 ∨ a = 44 ∨ a = 45
theorem Tb.sm {S : Nat → Prop} {μ ν : am_M} {s n : Nat} (h : Tb μ s n) (hS : Sm S μ ν) (h2 : ¬ S 2) : Tb ν s n := ⟨(hS.2.1 2 4 h2).trans h.1, (hS.2.1 2 5 h2).trans h.2.1, h.2.2⟩
abbrev cst (μ : am_M) (s : Nat) : Nat → Int32 := fun i => mm_I μ (4 + s) i
set_option maxRecDepth 100000 in
set_option maxHeartbeats 4000000 in
theorem ct_X4_settingFor {E : am_E} {μ : am_M} (hb : Bs μ) {S N : Nat} (ht : Tb μ S N) (i fe : Nat) (hi : i < N) (hf : mm_I μ 43 2 = nI fe) (hf2 : fe < 2) : am_Ct E yX4_settingFor cX4_settingFor 3 (some .int) rmX4_settingFor [.ref 43, .ref 2, .int (nI i)] μ (fun v μ' => v = some (.int (if mm_I μ (18 + fe) i < mm_I μ 43 3 then mm_I μ 43 4 else mm_I μ 43 5)) ∧ μ = μ') := by
  refine am_Ct.of (ls := [some (.ref 43), some (.ref 2), some (.int (nI i))]) (by decide) (Nat.le_of_ble_eq_true rfl) rfl (fun C fx hnm => ?_)
  have hS := ht.s
  have hN := ht.n
  refine am_aload_n fx dX4_settingFor_0 rfl ?_
  refine am_aload_n fx dX4_settingFor_1 rfl ?_
  refine am_getI fx dX4_settingFor_2 fkX4_18 (by decide) (by decide) rfl (so4 hb) hf ?_
  refine am_iload_n fx dX4_settingFor_5 rfl ?_
  refine am_callV fx dX4_settingFor_6 mkX4_48 (ct_X5_featureAt hb ht fe i hf2 hi) (so5 hb) ⟨by decide, rfl⟩ rfl (Nat.le_of_ble_eq_true rfl) ⟨by decide, by decide⟩ ⟨Nat.le_of_ble_eq_true rfl, Nat.le_of_ble_eq_true rfl⟩ rfl ?_
  rintro _ _ ⟨rfl, rfl⟩
  refine am_aload_n fx dX4_settingFor_9 rfl ?_
  refine am_getI fx dX4_settingFor_10 fkX4_22 (by decide) (by decide) rfl (so4 hb) rfl ?_
  refine am_icmp_ge fx 23 dX4_settingFor_13 (by decide) (fun c13 => ?_) (fun c13 => ?_)
  · skip
    refine am_aload_n fx dX4_settingFor_23 rfl ?_
    refine am_getI fx dX4_settingFor_24 fkX4_28 (by decide) (by decide) rfl (so4 hb) rfl ?_
    exact am_iret fx dX4_settingFor_27 ⟨by rw [if_neg (Int32.not_lt.mpr c13)], rfl⟩
  · skip
    refine am_aload_n fx dX4_settingFor_16 rfl ?_
    refine am_getI fx dX4_settingFor_17 fkX4_25 (by decide) (by decide) rfl (so4 hb) rfl ?_
    refine am_goto fx 27 dX4_settingFor_20 (by decide) ?_
    exact am_iret fx dX4_settingFor_27 ⟨by rw [if_pos (Int32.not_le.mp c13)], rfl⟩
theorem mv_st {μ ν2 : am_M} {S fe i r : Nat} {val : Int32} (hPi : (fun i => decide (¬ mm_I μ 20 i = 0) && decide (mm_I μ (18 + fe) i = val)) i = true) (h45 : mm_I ν2 45 r = mm_I μ 45 r - smQ (fun i => decide (¬ mm_I μ 20 i = 0) && decide (mm_I μ (18 + fe) i = val)) (cst μ r) i) (h44 : mm_I ν2 44 r = mm_I μ 44 r + smQ (fun i => decide (¬ mm_I μ 20 i = 0) && decide (mm_I μ (18 + fe) i = val)) (cst μ r) i) (hF2 : (∀ s, s < S → mm_I ν2 44 s = mm_I μ 44 s + smQ (fun i => decide (¬ mm_I μ 20 i = 0) && decide (mm_I μ (18 + fe) i = val)) (cst μ s) (if s < r then i + 1 else i) ∧ mm_I ν2 45 s = mm_I μ 45 s - smQ (fun i => decide (¬ mm_I μ 20 i = 0) && decide (mm_I μ (18 + fe) i = val)) (cst μ s) (if s < r then i + 1 else i))) (hr : r < S) :
    ∀ s, s < S → mm_I (mm_sI (mm_sI ν2 45 r (mm_I μ 45 r - (smQ (fun i => decide (¬ mm_I μ 20 i = 0) && decide (mm_I μ (18 + fe) i = val)) (cst μ r) i + mm_I μ (4 + r) i))) 44 r (mm_I μ 44 r + (smQ (fun i => decide (¬ mm_I μ 20 i = 0) && decide (mm_I μ (18 + fe) i = val)) (cst μ r) i + mm_I μ (4 + r) i))) 44 s = mm_I μ 44 s + smQ (fun i => decide (¬ mm_I μ 20 i = 0) && decide (mm_I μ (18 + fe) i = val)) (cst μ s) (if s < r + 1 then i + 1 else i) ∧ mm_I (mm_sI (mm_sI ν2 45 r (mm_I μ 45 r - (smQ (fun i => decide (¬ mm_I μ 20 i = 0) && decide (mm_I μ (18 + fe) i = val)) (cst μ r) i + mm_I μ (4 + r) i))) 44 r (mm_I μ 44 r + (smQ (fun i => decide (¬ mm_I μ 20 i = 0) && decide (mm_I μ (18 + fe) i = val)) (cst μ r) i + mm_I μ (4 + r) i))) 45 s = mm_I μ 45 s - smQ (fun i => decide (¬ mm_I μ 20 i = 0) && decide (mm_I μ (18 + fe) i = val)) (cst μ s) (if s < r + 1 then i + 1 else i) := by
  intro s hs
  have hstep : smQ (fun i => decide (¬ mm_I μ 20 i = 0) && decide (mm_I μ (18 + fe) i = val)) (cst μ r) (i + 1) = smQ (fun i => decide (¬ mm_I μ 20 i = 0) && decide (mm_I μ (18 + fe) i = val)) (cst μ r) i + mm_I μ (4 + r) i := by
    simp only [smQ]
    rw [if_pos hPi]
  by_cases e : s = r
  · subst e
    rw [mI_same, mI_ne (Or.inl (by decide)), mI_same, if_pos (by omega), hstep]
    exact ⟨rfl, rfl⟩
  · rw [mI_ne (Or.inr e), mI_ne (Or.inl (by decide)), mI_ne (Or.inl (by decide)), mI_ne (Or.inr e)]
    have := hF2 s hs
    by_cases h : s < r
    · rw [if_pos h] at this; rw [if_pos (by omega)]; exact this
    · rw [if_neg h] at this; rw [if_neg (by omega)]; exact this
set_option maxRecDepth 100000 in
set_option maxHeartbeats 4000000 in
theorem ct_X4_moveBelow {E : am_E} {μ : am_M} (hb : Bs μ) {S N : Nat} (ht : Tb μ S N) (fe : Nat) (hf2 : fe < 2) (val : Int32) : am_Ct E yX4_moveBelow cX4_moveBelow 6 none rmX4_moveBelow [.ref 43, .ref 2, .int (nI fe), .int val] μ (fun v μ' => v = none ∧ Sm S45 μ μ' ∧ (∀ s, s < S → mm_I μ' 44 s = mm_I μ 44 s + smQ (fun i => decide (¬ mm_I μ 20 i = 0) && decide (mm_I μ (18 + fe) i = val)) (cst μ s) N ∧ mm_I μ' 45 s = mm_I μ 45 s - smQ (fun i => decide (¬ mm_I μ 20 i = 0) && decide (mm_I μ (18 + fe) i = val)) (cst μ s) N)) := by
  refine am_Ct.of (ls := [some (.ref 43), some (.ref 2), some (.int (nI fe)), some (.int val), none, none]) (by decide) (Nat.le_of_ble_eq_true rfl) rfl (fun C fx hnm => ?_)
  have hS := ht.s
  have hN := ht.n
  refine am_iconst (v := 0) fx dX4_moveBelow_0 (by decide) ?_
  refine am_istore fx dX4_moveBelow_1 (by decide) rfl ?_
  have lp3 : ∀ (mz : Nat) (i : Nat) (ν : am_M), N - i = mz → (i ≤ N ∧ Sm S45 μ ν ∧ (∀ s, s < S → mm_I ν 44 s = mm_I μ 44 s + smQ (fun i => decide (¬ mm_I μ 20 i = 0) && decide (mm_I μ (18 + fe) i = val)) (cst μ s) i ∧ mm_I ν 45 s = mm_I μ 45 s - smQ (fun i => decide (¬ mm_I μ 20 i = 0) && decide (mm_I μ (18 + fe) i = val)) (cst μ s) i)) → am_W E C (am_MQ E C (fun v μ' => v = none ∧ Sm S45 μ μ' ∧ (∀ s, s < S → mm_I μ' 44 s = mm_I μ 44 s + smQ (fun i => decide (¬ mm_I μ 20 i = 0) && decide (mm_I μ (18 + fe) i = val)) (cst μ s) N ∧ mm_I μ' 45 s = mm_I μ 45 s - smQ (fun i => decide (¬ mm_I μ 20 i = 0) && decide (mm_I μ (18 + fe) i = val)) (cst μ s) N)) (rmX4_moveBelow).cells (rmX4_moveBelow).slots) ν 0 0 3 [some (.ref 43), some (.ref 2), some (.int (nI fe)), some (.int val), some (.int (nI i)), none] [] := by
    intro mz
    induction mz using Nat.strongRecOn with
    | ind mz ih =>
      intro i ν hz hI
      obtain ⟨hi, hM, hF⟩ := hI
      have hb2 : Bs ν := hb.fr hM.1
      have ht2 : Tb ν S N := ht.sm hM (by unfold S45; omega)
      have hd : ∀ x k, x ≠ 44 → x ≠ 45 → mm_I ν x k = mm_I μ x k := fun x k a b => hM.2.1 x k (by unfold S45; omega)
      refine am_iload fx dX4_moveBelow_3 rfl ?_
      refine am_aload_n fx dX4_moveBelow_5 rfl ?_
      refine am_getI fx dX4_moveBelow_6 fkX4_63 (by decide) (by decide) rfl (so5 hb2) ht2.2.1 ?_
      refine am_icmp_ge fx 92 dX4_moveBelow_9 (by decide) (fun c9 => ?_) (fun c9 => ?_)
      · try simp (disch := omega) only [bz_0, Classical.not_not, Int32.not_le, Int32.not_lt, Nat.not_le, Nat.not_lt, nI_leI, nI_ltI, nI_eq, nI_le0, nI_lt0] at c9
        exact am_vret fx dX4_moveBelow_92 ⟨rfl, hM, fun s hs => by rw [← show i = N by omega]; exact hF s hs⟩
      · try simp (disch := omega) only [bz_0, Classical.not_not, Int32.not_le, Int32.not_lt, Nat.not_le, Nat.not_lt, nI_leI, nI_ltI, nI_eq, nI_le0, nI_lt0] at c9
        refine am_aload_n fx dX4_moveBelow_12 rfl ?_
        refine am_iload fx dX4_moveBelow_13 rfl ?_
        refine am_callV fx dX4_moveBelow_15 mkX4_66 (ct_X5_isLearning hb2 ht2 i (by assumption)) (so5 hb2) ⟨by decide, rfl⟩ rfl (Nat.le_of_ble_eq_true rfl) ⟨by decide, by decide⟩ ⟨Nat.le_of_ble_eq_true rfl, Nat.le_of_ble_eq_true rfl⟩ rfl ?_
        rintro _ _ ⟨rfl, rfl⟩
        refine am_if_eq fx 86 dX4_moveBelow_18 (by decide) (fun c18 => ?_) (fun c18 => ?_)
        · try simp (disch := omega) only [bz_0, Classical.not_not, Int32.not_le, Int32.not_lt, Nat.not_le, Nat.not_lt, nI_leI, nI_ltI, nI_eq, nI_le0, nI_lt0] at c18
          rw [hd _ _ (by decide) (by decide)] at c18
          first | refine am_iinc fx dX4_moveBelow_86 rfl (nI_inc _) (by decide) rfl ?_ | refine am_iinc fx dX4_moveBelow_86 rfl rfl (by decide) rfl ?_
          refine am_goto fx 3 dX4_moveBelow_89 (by decide) ?_
          exact ih (N - (i + 1)) (by omega) (i + 1) ν rfl ⟨by omega, hM, fun s hs => by simp only [smQ]; rw [if_neg (by simp [c18]), Int32.add_zero]; exact hF s hs⟩
        · try simp (disch := omega) only [bz_0, Classical.not_not, Int32.not_le, Int32.not_lt, Nat.not_le, Nat.not_lt, nI_leI, nI_ltI, nI_eq, nI_le0, nI_lt0] at c18
          rw [hd _ _ (by decide) (by decide)] at c18
          refine am_aload_n fx dX4_moveBelow_21 rfl ?_
          refine am_iload_n fx dX4_moveBelow_22 rfl ?_
          refine am_iload fx dX4_moveBelow_23 rfl ?_
          refine am_callV fx dX4_moveBelow_25 mkX4_48 (ct_X5_featureAt hb2 ht2 fe i hf2 (by assumption)) (so5 hb2) ⟨by decide, rfl⟩ rfl (Nat.le_of_ble_eq_true rfl) ⟨by decide, by decide⟩ ⟨Nat.le_of_ble_eq_true rfl, Nat.le_of_ble_eq_true rfl⟩ rfl ?_
          rintro _ _ ⟨rfl, rfl⟩
          rw [hd _ _ (by omega) (by omega)]
          refine am_iload_n fx dX4_moveBelow_28 rfl ?_
          refine am_icmp_ne fx 86 dX4_moveBelow_29 (by decide) (fun c29 => ?_) (fun c29 => ?_)
          · skip
            first | refine am_iinc fx dX4_moveBelow_86 rfl (nI_inc _) (by decide) rfl ?_ | refine am_iinc fx dX4_moveBelow_86 rfl rfl (by decide) rfl ?_
            refine am_goto fx 3 dX4_moveBelow_89 (by decide) ?_
            exact ih (N - (i + 1)) (by omega) (i + 1) ν rfl ⟨by omega, hM, fun s hs => by simp only [smQ]; rw [if_neg (by simp [c29]), Int32.add_zero]; exact hF s hs⟩
          · skip
            have hPi : (fun i => decide (¬ mm_I μ 20 i = 0) && decide (mm_I μ (18 + fe) i = val)) i = true := by simp [c18, c29]
            refine am_iconst (v := 0) fx dX4_moveBelow_32 (by decide) ?_
            refine am_istore fx dX4_moveBelow_33 (by decide) rfl ?_
            have lp35 : ∀ (mz : Nat) (r : Nat) (ν2 : am_M), S - r = mz → (r ≤ S ∧ Sm S45 μ ν2 ∧ (∀ s, s < S → mm_I ν2 44 s = mm_I μ 44 s + smQ (fun i => decide (¬ mm_I μ 20 i = 0) && decide (mm_I μ (18 + fe) i = val)) (cst μ s) (if s < r then i + 1 else i) ∧ mm_I ν2 45 s = mm_I μ 45 s - smQ (fun i => decide (¬ mm_I μ 20 i = 0) && decide (mm_I μ (18 + fe) i = val)) (cst μ s) (if s < r then i + 1 else i))) → am_W E C (am_MQ E C (fun v μ' => v = none ∧ Sm S45 μ μ' ∧ (∀ s, s < S → mm_I μ' 44 s = mm_I μ 44 s + smQ (fun i => decide (¬ mm_I μ 20 i = 0) && decide (mm_I μ (18 + fe) i = val)) (cst μ s) N ∧ mm_I μ' 45 s = mm_I μ 45 s - smQ (fun i => decide (¬ mm_I μ 20 i = 0) && decide (mm_I μ (18 + fe) i = val)) (cst μ s) N)) (rmX4_moveBelow).cells (rmX4_moveBelow).slots) ν2 0 0 35 [some (.ref 43), some (.ref 2), some (.int (nI fe)), some (.int val), some (.int (nI i)), some (.int (nI r))] [] := by
              intro mz
              induction mz using Nat.strongRecOn with
              | ind mz ih2 =>
                intro r ν2 hz2 hJ
                obtain ⟨hr, hM2, hF2⟩ := hJ
                have hb3 : Bs ν2 := hb.fr hM2.1
                have ht3 : Tb ν2 S N := ht.sm hM2 (by unfold S45; omega)
                have he : ∀ x k, x ≠ 44 → x ≠ 45 → mm_I ν2 x k = mm_I μ x k := fun x k a b => hM2.2.1 x k (by unfold S45; omega)
                refine am_iload fx dX4_moveBelow_35 rfl ?_
                refine am_aload_n fx dX4_moveBelow_37 rfl ?_
                refine am_getI fx dX4_moveBelow_38 fkX4_60 (by decide) (by decide) rfl (so5 hb3) ht3.1 ?_
                refine am_icmp_ge fx 86 dX4_moveBelow_41 (by decide) (fun c41 => ?_) (fun c41 => ?_)
                · try simp (disch := omega) only [bz_0, Classical.not_not, Int32.not_le, Int32.not_lt, Nat.not_le, Nat.not_lt, nI_leI, nI_ltI, nI_eq, nI_le0, nI_lt0] at c41
                  first | refine am_iinc fx dX4_moveBelow_86 rfl (nI_inc _) (by decide) rfl ?_ | refine am_iinc fx dX4_moveBelow_86 rfl rfl (by decide) rfl ?_
                  refine am_goto fx 3 dX4_moveBelow_89 (by decide) ?_
                  refine am_sub [true, true, true, true, true, false] rfl ?_
                  exact ih (N - (i + 1)) (by omega) (i + 1) ν2 rfl ⟨by omega, hM2, fun s hs => by have := hF2 s hs; rw [if_pos (show s < r by omega)] at this; exact this⟩
                · try simp (disch := omega) only [bz_0, Classical.not_not, Int32.not_le, Int32.not_lt, Nat.not_le, Nat.not_lt, nI_leI, nI_ltI, nI_eq, nI_le0, nI_lt0] at c41
                  refine am_aload_n fx dX4_moveBelow_44 rfl ?_
                  have h44 := (hF2 r (by omega)).1
                  have h45 := (hF2 r (by omega)).2
                  rw [if_neg (by omega)] at h44 h45
                  refine am_getR fx dX4_moveBelow_45 fkX4_15 (by decide) (by decide) rfl (so4 hb3) (rf4_1 hb3) ?_
                  refine am_iload fx dX4_moveBelow_48 rfl ?_
                  refine am_dup2 fx dX4_moveBelow_50 ?_
                  refine am_iald  fx dX4_moveBelow_51 (sa4_1 hb3) rfl (by omega) (by decide) h45 ?_
                  refine am_aload_n fx dX4_moveBelow_52 rfl ?_
                  refine am_iload fx dX4_moveBelow_53 rfl ?_
                  refine am_iload fx dX4_moveBelow_55 rfl ?_
                  refine am_callV fx dX4_moveBelow_57 mkX4_70 (ct_X5_costAt hb3 ht3 (nI r) (nI i)) (so5 hb3) ⟨by decide, rfl⟩ rfl (Nat.le_of_ble_eq_true rfl) ⟨by decide, by decide⟩ ⟨Nat.le_of_ble_eq_true rfl, Nat.le_of_ble_eq_true rfl⟩ rfl ?_
                  rintro _ _ ⟨rfl, rfl⟩
                  rw [co_in (by omega) (by omega) hS hN, he _ _ (by omega) (by omega)]
                  refine am_isub fx dX4_moveBelow_60 ?_
                  refine am_topi (i32_ss _ _ _) ?_
                  refine am_iast  fx dX4_moveBelow_61 (sa4_1 hb3) rfl (by omega) (by decide) ?_
                  generalize hv1 : mm_I μ 45 r - (smQ (fun i => decide (¬ mm_I μ 20 i = 0) && decide (mm_I μ (18 + fe) i = val)) (cst μ r) i + mm_I μ (4 + r) i) = v1
                  have hb4 : Bs (mm_sI ν2 45 r v1) := hb3.fr (Fr.sI _ _ _ _)
                  have ht4 : Tb (mm_sI ν2 45 r v1) S N := ht3.sm (Sm.sI (S := S45) _ (Or.inr rfl)) (by unfold S45; omega)
                  refine am_aload_n fx dX4_moveBelow_62 rfl ?_
                  refine am_getR fx dX4_moveBelow_63 fkX4_9 (by decide) (by decide) rfl (so4 hb4) (rf4_0 hb4) ?_
                  refine am_iload fx dX4_moveBelow_66 rfl ?_
                  refine am_dup2 fx dX4_moveBelow_68 ?_
                  refine am_iald  fx dX4_moveBelow_69 (sa4_0 hb4) rfl (by omega) (by decide) ((mI_ne (Or.inl (by decide))).trans h44) ?_
                  refine am_aload_n fx dX4_moveBelow_70 rfl ?_
                  refine am_iload fx dX4_moveBelow_71 rfl ?_
                  refine am_iload fx dX4_moveBelow_73 rfl ?_
                  refine am_callV fx dX4_moveBelow_75 mkX4_70 (ct_X5_costAt hb4 ht4 (nI r) (nI i)) (so5 hb4) ⟨by decide, rfl⟩ rfl (Nat.le_of_ble_eq_true rfl) ⟨by decide, by decide⟩ ⟨Nat.le_of_ble_eq_true rfl, Nat.le_of_ble_eq_true rfl⟩ rfl ?_
                  rintro _ _ ⟨rfl, rfl⟩
                  rw [co_in (by omega) (by omega) hS hN, mI_ne (Or.inl (by omega)), he _ _ (by omega) (by omega)]
                  refine am_iadd fx dX4_moveBelow_78 ?_
                  refine am_topi (Int32.add_assoc _ _ _) ?_
                  refine am_iast  fx dX4_moveBelow_79 (sa4_0 hb4) rfl (by omega) (by decide) ?_
                  subst hv1
                  first | refine am_iinc fx dX4_moveBelow_80 rfl (nI_inc _) (by decide) rfl ?_ | refine am_iinc fx dX4_moveBelow_80 rfl rfl (by decide) rfl ?_
                  refine am_goto fx 35 dX4_moveBelow_83 (by decide) ?_
                  exact ih2 (S - (r + 1)) (by omega) (r + 1) _ rfl ⟨by omega, hM2.tr ((Sm.sI _ (Or.inr rfl)).tr (Sm.sI _ (Or.inl rfl))), mv_st hPi h45 h44 hF2 (by omega)⟩
            exact lp35 _ 0 ν rfl ⟨by omega, hM, fun s hs => by rw [if_neg (by omega)]; exact hF s hs⟩
  refine am_sub [true, true, true, true, true, false] rfl ?_
  exact lp3 _ 0 μ rfl ⟨by omega, Sm.rf _ _, fun s _ => ⟨by simp [smQ], by simp [smQ]⟩⟩
end
