section
-- ===== PART A: goes FIRST, ahead of the names: the tables' words, and 'selects' of the private methods out of them =====
/-- a private method of a class that the tables say can be made, by its rows of tables_1 -/
def lw_okq (q : MethodName × Nat) : Prop := (q.1.cls ≠ "java/lang/invoke/MethodHandle" ∧ q.1.cls ≠ "java/lang/invoke/VarHandle") ∧ Cond.instantiable q.1.cls q.2 ∈ tables_1 ∧ Cond.privateMethod q.1 ∈ tables_1 ∧ Cond.instanceMethod q.1 ∈ tables_1
theorem lw_p0 : lw_okq (⟨"WatchServer", "refuse", "(I)I"⟩, 11) := ⟨⟨by decide +kernel, by decide +kernel⟩, List.mem_of_getElem? (i := 21) (by decide +kernel), List.mem_of_getElem? (i := 97) (by decide +kernel), List.mem_of_getElem? (i := 98) (by decide +kernel)⟩
theorem lw_p1 : lw_okq (⟨"java/util/ArrayList", "add", "(Ljava/lang/Object;[Ljava/lang/Object;I)V"⟩, 3) := ⟨⟨by decide +kernel, by decide +kernel⟩, List.mem_of_getElem? (i := 29) (by decide +kernel), List.mem_of_getElem? (i := 129) (by decide +kernel), List.mem_of_getElem? (i := 130) (by decide +kernel)⟩
theorem lw_p2 : lw_okq (⟨"java/util/ArrayList", "grow", "()[Ljava/lang/Object;"⟩, 3) := ⟨⟨by decide +kernel, by decide +kernel⟩, List.mem_of_getElem? (i := 29) (by decide +kernel), List.mem_of_getElem? (i := 133) (by decide +kernel), List.mem_of_getElem? (i := 134) (by decide +kernel)⟩
theorem lw_p3 : lw_okq (⟨"java/util/ArrayList", "grow", "(I)[Ljava/lang/Object;"⟩, 3) := ⟨⟨by decide +kernel, by decide +kernel⟩, List.mem_of_getElem? (i := 29) (by decide +kernel), List.mem_of_getElem? (i := 137) (by decide +kernel), List.mem_of_getElem? (i := 138) (by decide +kernel)⟩
theorem lw_p4 : lw_okq (⟨"WatchServer", "nodeAt", "(I)LWatchServer$Node;"⟩, 11) := ⟨⟨by decide +kernel, by decide +kernel⟩, List.mem_of_getElem? (i := 21) (by decide +kernel), List.mem_of_getElem? (i := 187) (by decide +kernel), List.mem_of_getElem? (i := 188) (by decide +kernel)⟩
theorem lw_p5 : lw_okq (⟨"WatchServer", "variableAt", "(I)LWatchServer$Node;"⟩, 11) := ⟨⟨by decide +kernel, by decide +kernel⟩, List.mem_of_getElem? (i := 21) (by decide +kernel), List.mem_of_getElem? (i := 225) (by decide +kernel), List.mem_of_getElem? (i := 226) (by decide +kernel)⟩
theorem lw_p6 : lw_okq (⟨"WatchServer", "sampleItems", "()V"⟩, 11) := ⟨⟨by decide +kernel, by decide +kernel⟩, List.mem_of_getElem? (i := 21) (by decide +kernel), List.mem_of_getElem? (i := 234) (by decide +kernel), List.mem_of_getElem? (i := 235) (by decide +kernel)⟩
theorem lw_p7 : lw_okq (⟨"java/util/ArrayList", "fastRemove", "([Ljava/lang/Object;I)V"⟩, 3) := ⟨⟨by decide +kernel, by decide +kernel⟩, List.mem_of_getElem? (i := 29) (by decide +kernel), List.mem_of_getElem? (i := 294) (by decide +kernel), List.mem_of_getElem? (i := 295) (by decide +kernel)⟩
theorem lw_p8 : lw_okq (⟨"WatchServer", "serveSubscriptions", "()V"⟩, 11) := ⟨⟨by decide +kernel, by decide +kernel⟩, List.mem_of_getElem? (i := 21) (by decide +kernel), List.mem_of_getElem? (i := 301) (by decide +kernel), List.mem_of_getElem? (i := 302) (by decide +kernel)⟩
theorem lw_p9 : lw_okq (⟨"WatchServer", "answerRequests", "(LWatchServer$Subscription;)V"⟩, 11) := ⟨⟨by decide +kernel, by decide +kernel⟩, List.mem_of_getElem? (i := 21) (by decide +kernel), List.mem_of_getElem? (i := 321) (by decide +kernel), List.mem_of_getElem? (i := 322) (by decide +kernel)⟩
theorem lw_p10 : lw_okq (⟨"WatchServer", "fallShort", "(LWatchServer$Subscription;)V"⟩, 11) := ⟨⟨by decide +kernel, by decide +kernel⟩, List.mem_of_getElem? (i := 21) (by decide +kernel), List.mem_of_getElem? (i := 325) (by decide +kernel), List.mem_of_getElem? (i := 326) (by decide +kernel)⟩
theorem lw_p11 : lw_okq (⟨"WatchServer", "send", "(LWatchServer$Subscription;)V"⟩, 11) := ⟨⟨by decide +kernel, by decide +kernel⟩, List.mem_of_getElem? (i := 21) (by decide +kernel), List.mem_of_getElem? (i := 338) (by decide +kernel), List.mem_of_getElem? (i := 339) (by decide +kernel)⟩
theorem lw_p12 : lw_okq (⟨"WatchServer", "closeTimedOut", "()V"⟩, 11) := ⟨⟨by decide +kernel, by decide +kernel⟩, List.mem_of_getElem? (i := 21) (by decide +kernel), List.mem_of_getElem? (i := 393) (by decide +kernel), List.mem_of_getElem? (i := 394) (by decide +kernel)⟩
theorem lw_p13 : lw_okq (⟨"WatchServer", "shut", "(LWatchServer$Session;)I"⟩, 11) := ⟨⟨by decide +kernel, by decide +kernel⟩, List.mem_of_getElem? (i := 21) (by decide +kernel), List.mem_of_getElem? (i := 398) (by decide +kernel), List.mem_of_getElem? (i := 399) (by decide +kernel)⟩
theorem lw_p14 : lw_okq (⟨"WatchServer", "sessionAt", "(I)LWatchServer$Session;"⟩, 11) := ⟨⟨by decide +kernel, by decide +kernel⟩, List.mem_of_getElem? (i := 21) (by decide +kernel), List.mem_of_getElem? (i := 441) (by decide +kernel), List.mem_of_getElem? (i := 442) (by decide +kernel)⟩
theorem lw_p15 : lw_okq (⟨"WatchServer", "refuseSession", "(I)I"⟩, 11) := ⟨⟨by decide +kernel, by decide +kernel⟩, List.mem_of_getElem? (i := 21) (by decide +kernel), List.mem_of_getElem? (i := 445) (by decide +kernel), List.mem_of_getElem? (i := 446) (by decide +kernel)⟩
def lw_privs_1 : List (MethodName × Nat) := [(⟨"WatchServer", "refuse", "(I)I"⟩, 11), (⟨"java/util/ArrayList", "add", "(Ljava/lang/Object;[Ljava/lang/Object;I)V"⟩, 3), (⟨"java/util/ArrayList", "grow", "()[Ljava/lang/Object;"⟩, 3), (⟨"java/util/ArrayList", "grow", "(I)[Ljava/lang/Object;"⟩, 3), (⟨"WatchServer", "nodeAt", "(I)LWatchServer$Node;"⟩, 11), (⟨"WatchServer", "variableAt", "(I)LWatchServer$Node;"⟩, 11), (⟨"WatchServer", "sampleItems", "()V"⟩, 11), (⟨"java/util/ArrayList", "fastRemove", "([Ljava/lang/Object;I)V"⟩, 3), (⟨"WatchServer", "serveSubscriptions", "()V"⟩, 11), (⟨"WatchServer", "answerRequests", "(LWatchServer$Subscription;)V"⟩, 11), (⟨"WatchServer", "fallShort", "(LWatchServer$Subscription;)V"⟩, 11), (⟨"WatchServer", "send", "(LWatchServer$Subscription;)V"⟩, 11), (⟨"WatchServer", "closeTimedOut", "()V"⟩, 11), (⟨"WatchServer", "shut", "(LWatchServer$Session;)I"⟩, 11), (⟨"WatchServer", "sessionAt", "(I)LWatchServer$Session;"⟩, 11), (⟨"WatchServer", "refuseSession", "(I)I"⟩, 11)]
theorem lw_r1 : ∀ q ∈ lw_privs_1, lw_okq q := List.forall_mem_cons.mpr ⟨lw_p0, List.forall_mem_cons.mpr ⟨lw_p1, List.forall_mem_cons.mpr ⟨lw_p2, List.forall_mem_cons.mpr ⟨lw_p3, List.forall_mem_cons.mpr ⟨lw_p4, List.forall_mem_cons.mpr ⟨lw_p5, List.forall_mem_cons.mpr ⟨lw_p6, List.forall_mem_cons.mpr ⟨lw_p7, List.forall_mem_cons.mpr ⟨lw_p8, List.forall_mem_cons.mpr ⟨lw_p9, List.forall_mem_cons.mpr ⟨lw_p10, List.forall_mem_cons.mpr ⟨lw_p11, List.forall_mem_cons.mpr ⟨lw_p12, List.forall_mem_cons.mpr ⟨lw_p13, List.forall_mem_cons.mpr ⟨lw_p14, List.forall_mem_cons.mpr ⟨lw_p15, fun _ h => absurd h List.not_mem_nil⟩⟩⟩⟩⟩⟩⟩⟩⟩⟩⟩⟩⟩⟩⟩⟩
theorem lw_p16 : lw_okq (⟨"WatchServer", "enter", "(I)LWatchServer$Session;"⟩, 11) := ⟨⟨by decide +kernel, by decide +kernel⟩, List.mem_of_getElem? (i := 21) (by decide +kernel), List.mem_of_getElem? (i := 457) (by decide +kernel), List.mem_of_getElem? (i := 458) (by decide +kernel)⟩
theorem lw_p17 : lw_okq (⟨"WatchServer", "subscriptionOf", "(LWatchServer$Session;I)LWatchServer$Subscription;"⟩, 11) := ⟨⟨by decide +kernel, by decide +kernel⟩, List.mem_of_getElem? (i := 21) (by decide +kernel), List.mem_of_getElem? (i := 584) (by decide +kernel), List.mem_of_getElem? (i := 585) (by decide +kernel)⟩
theorem lw_p18 : lw_okq (⟨"WatchServer", "subscriptionAt", "(I)LWatchServer$Subscription;"⟩, 11) := ⟨⟨by decide +kernel, by decide +kernel⟩, List.mem_of_getElem? (i := 21) (by decide +kernel), List.mem_of_getElem? (i := 588) (by decide +kernel), List.mem_of_getElem? (i := 589) (by decide +kernel)⟩
theorem lw_p19 : lw_okq (⟨"WatchServer", "itemOfClient", "(LWatchServer$Session;I)LWatchServer$Item;"⟩, 11) := ⟨⟨by decide +kernel, by decide +kernel⟩, List.mem_of_getElem? (i := 21) (by decide +kernel), List.mem_of_getElem? (i := 696) (by decide +kernel), List.mem_of_getElem? (i := 697) (by decide +kernel)⟩
theorem lw_p20 : lw_okq (⟨"WatchServer", "itemAt", "(I)LWatchServer$Item;"⟩, 11) := ⟨⟨by decide +kernel, by decide +kernel⟩, List.mem_of_getElem? (i := 21) (by decide +kernel), List.mem_of_getElem? (i := 700) (by decide +kernel), List.mem_of_getElem? (i := 701) (by decide +kernel)⟩
theorem lw_p21 : lw_okq (⟨"WatchServer", "countSubscriptions", "(LWatchServer$Session;)I"⟩, 11) := ⟨⟨by decide +kernel, by decide +kernel⟩, List.mem_of_getElem? (i := 21) (by decide +kernel), List.mem_of_getElem? (i := 716) (by decide +kernel), List.mem_of_getElem? (i := 717) (by decide +kernel)⟩
theorem lw_p22 : lw_okq (⟨"WatchServer", "acknowledge", "(LWatchServer$Session;II)I"⟩, 11) := ⟨⟨by decide +kernel, by decide +kernel⟩, List.mem_of_getElem? (i := 21) (by decide +kernel), List.mem_of_getElem? (i := 720) (by decide +kernel), List.mem_of_getElem? (i := 721) (by decide +kernel)⟩
theorem lw_p23 : lw_okq (⟨"WatchServer", "longestLate", "(LWatchServer$Session;)LWatchServer$Subscription;"⟩, 11) := ⟨⟨by decide +kernel, by decide +kernel⟩, List.mem_of_getElem? (i := 21) (by decide +kernel), List.mem_of_getElem? (i := 728) (by decide +kernel), List.mem_of_getElem? (i := 729) (by decide +kernel)⟩
theorem lw_p24 : lw_okq (⟨"WatchServer", "firstWithMore", "(LWatchServer$Session;)LWatchServer$Subscription;"⟩, 11) := ⟨⟨by decide +kernel, by decide +kernel⟩, List.mem_of_getElem? (i := 21) (by decide +kernel), List.mem_of_getElem? (i := 732) (by decide +kernel), List.mem_of_getElem? (i := 733) (by decide +kernel)⟩
theorem lw_p25 : lw_okq (⟨"WatchServer", "messageAt", "(I)LWatchServer$Message;"⟩, 11) := ⟨⟨by decide +kernel, by decide +kernel⟩, List.mem_of_getElem? (i := 21) (by decide +kernel), List.mem_of_getElem? (i := 756) (by decide +kernel), List.mem_of_getElem? (i := 757) (by decide +kernel)⟩
theorem lw_p26 : lw_okq (⟨"WatchServer", "countOpenSessions", "()I"⟩, 11) := ⟨⟨by decide +kernel, by decide +kernel⟩, List.mem_of_getElem? (i := 21) (by decide +kernel), List.mem_of_getElem? (i := 789) (by decide +kernel), List.mem_of_getElem? (i := 790) (by decide +kernel)⟩
theorem lw_p27 : lw_okq (⟨"WatchServer", "countItems", "()I"⟩, 11) := ⟨⟨by decide +kernel, by decide +kernel⟩, List.mem_of_getElem? (i := 21) (by decide +kernel), List.mem_of_getElem? (i := 793) (by decide +kernel), List.mem_of_getElem? (i := 794) (by decide +kernel)⟩
theorem lw_p28 : lw_okq (⟨"WatchServerModel", "refuse", "(I)I"⟩, 62) := ⟨⟨by decide +kernel, by decide +kernel⟩, List.mem_of_getElem? (i := 797) (by decide +kernel), List.mem_of_getElem? (i := 1001) (by decide +kernel), List.mem_of_getElem? (i := 1002) (by decide +kernel)⟩
theorem lw_p29 : lw_okq (⟨"WatchServerModel", "isNode", "(I)Z"⟩, 62) := ⟨⟨by decide +kernel, by decide +kernel⟩, List.mem_of_getElem? (i := 797) (by decide +kernel), List.mem_of_getElem? (i := 1009) (by decide +kernel), List.mem_of_getElem? (i := 1010) (by decide +kernel)⟩
theorem lw_p30 : lw_okq (⟨"WatchServerModel", "isVariable", "(I)Z"⟩, 62) := ⟨⟨by decide +kernel, by decide +kernel⟩, List.mem_of_getElem? (i := 797) (by decide +kernel), List.mem_of_getElem? (i := 1018) (by decide +kernel), List.mem_of_getElem? (i := 1019) (by decide +kernel)⟩
theorem lw_p31 : lw_okq (⟨"WatchServerModel", "step", "()V"⟩, 62) := ⟨⟨by decide +kernel, by decide +kernel⟩, List.mem_of_getElem? (i := 797) (by decide +kernel), List.mem_of_getElem? (i := 1028) (by decide +kernel), List.mem_of_getElem? (i := 1029) (by decide +kernel)⟩
def lw_privs_2 : List (MethodName × Nat) := [(⟨"WatchServer", "enter", "(I)LWatchServer$Session;"⟩, 11), (⟨"WatchServer", "subscriptionOf", "(LWatchServer$Session;I)LWatchServer$Subscription;"⟩, 11), (⟨"WatchServer", "subscriptionAt", "(I)LWatchServer$Subscription;"⟩, 11), (⟨"WatchServer", "itemOfClient", "(LWatchServer$Session;I)LWatchServer$Item;"⟩, 11), (⟨"WatchServer", "itemAt", "(I)LWatchServer$Item;"⟩, 11), (⟨"WatchServer", "countSubscriptions", "(LWatchServer$Session;)I"⟩, 11), (⟨"WatchServer", "acknowledge", "(LWatchServer$Session;II)I"⟩, 11), (⟨"WatchServer", "longestLate", "(LWatchServer$Session;)LWatchServer$Subscription;"⟩, 11), (⟨"WatchServer", "firstWithMore", "(LWatchServer$Session;)LWatchServer$Subscription;"⟩, 11), (⟨"WatchServer", "messageAt", "(I)LWatchServer$Message;"⟩, 11), (⟨"WatchServer", "countOpenSessions", "()I"⟩, 11), (⟨"WatchServer", "countItems", "()I"⟩, 11), (⟨"WatchServerModel", "refuse", "(I)I"⟩, 62), (⟨"WatchServerModel", "isNode", "(I)Z"⟩, 62), (⟨"WatchServerModel", "isVariable", "(I)Z"⟩, 62), (⟨"WatchServerModel", "step", "()V"⟩, 62)]
theorem lw_r2 : ∀ q ∈ lw_privs_2, lw_okq q := List.forall_mem_cons.mpr ⟨lw_p16, List.forall_mem_cons.mpr ⟨lw_p17, List.forall_mem_cons.mpr ⟨lw_p18, List.forall_mem_cons.mpr ⟨lw_p19, List.forall_mem_cons.mpr ⟨lw_p20, List.forall_mem_cons.mpr ⟨lw_p21, List.forall_mem_cons.mpr ⟨lw_p22, List.forall_mem_cons.mpr ⟨lw_p23, List.forall_mem_cons.mpr ⟨lw_p24, List.forall_mem_cons.mpr ⟨lw_p25, List.forall_mem_cons.mpr ⟨lw_p26, List.forall_mem_cons.mpr ⟨lw_p27, List.forall_mem_cons.mpr ⟨lw_p28, List.forall_mem_cons.mpr ⟨lw_p29, List.forall_mem_cons.mpr ⟨lw_p30, List.forall_mem_cons.mpr ⟨lw_p31, fun _ h => absurd h List.not_mem_nil⟩⟩⟩⟩⟩⟩⟩⟩⟩⟩⟩⟩⟩⟩⟩⟩
theorem lw_p32 : lw_okq (⟨"WatchServerModel", "sample", "(I)V"⟩, 62) := ⟨⟨by decide +kernel, by decide +kernel⟩, List.mem_of_getElem? (i := 797) (by decide +kernel), List.mem_of_getElem? (i := 1032) (by decide +kernel), List.mem_of_getElem? (i := 1033) (by decide +kernel)⟩
theorem lw_p33 : lw_okq (⟨"WatchServerModel", "shift", "(I)V"⟩, 62) := ⟨⟨by decide +kernel, by decide +kernel⟩, List.mem_of_getElem? (i := 797) (by decide +kernel), List.mem_of_getElem? (i := 1036) (by decide +kernel), List.mem_of_getElem? (i := 1037) (by decide +kernel)⟩
theorem lw_p34 : lw_okq (⟨"WatchServerModel", "cycle", "(I)V"⟩, 62) := ⟨⟨by decide +kernel, by decide +kernel⟩, List.mem_of_getElem? (i := 797) (by decide +kernel), List.mem_of_getElem? (i := 1040) (by decide +kernel), List.mem_of_getElem? (i := 1041) (by decide +kernel)⟩
theorem lw_p35 : lw_okq (⟨"WatchServerModel", "isReady", "(I)Z"⟩, 62) := ⟨⟨by decide +kernel, by decide +kernel⟩, List.mem_of_getElem? (i := 797) (by decide +kernel), List.mem_of_getElem? (i := 1044) (by decide +kernel), List.mem_of_getElem? (i := 1045) (by decide +kernel)⟩
theorem lw_p36 : lw_okq (⟨"WatchServerModel", "mayMake", "(I)Z"⟩, 62) := ⟨⟨by decide +kernel, by decide +kernel⟩, List.mem_of_getElem? (i := 797) (by decide +kernel), List.mem_of_getElem? (i := 1048) (by decide +kernel), List.mem_of_getElem? (i := 1049) (by decide +kernel)⟩
theorem lw_p37 : lw_okq (⟨"WatchServerModel", "isShort", "(I)V"⟩, 62) := ⟨⟨by decide +kernel, by decide +kernel⟩, List.mem_of_getElem? (i := 797) (by decide +kernel), List.mem_of_getElem? (i := 1052) (by decide +kernel), List.mem_of_getElem? (i := 1053) (by decide +kernel)⟩
theorem lw_p38 : lw_okq (⟨"WatchServerModel", "removeSub", "(I)V"⟩, 62) := ⟨⟨by decide +kernel, by decide +kernel⟩, List.mem_of_getElem? (i := 797) (by decide +kernel), List.mem_of_getElem? (i := 1056) (by decide +kernel), List.mem_of_getElem? (i := 1057) (by decide +kernel)⟩
theorem lw_p39 : lw_okq (⟨"WatchServerModel", "dropKept", "(II)V"⟩, 62) := ⟨⟨by decide +kernel, by decide +kernel⟩, List.mem_of_getElem? (i := 797) (by decide +kernel), List.mem_of_getElem? (i := 1060) (by decide +kernel), List.mem_of_getElem? (i := 1061) (by decide +kernel)⟩
theorem lw_p40 : lw_okq (⟨"WatchServerModel", "make", "(I)V"⟩, 62) := ⟨⟨by decide +kernel, by decide +kernel⟩, List.mem_of_getElem? (i := 797) (by decide +kernel), List.mem_of_getElem? (i := 1064) (by decide +kernel), List.mem_of_getElem? (i := 1065) (by decide +kernel)⟩
theorem lw_p41 : lw_okq (⟨"WatchServerModel", "keptOf", "(I)I"⟩, 62) := ⟨⟨by decide +kernel, by decide +kernel⟩, List.mem_of_getElem? (i := 797) (by decide +kernel), List.mem_of_getElem? (i := 1068) (by decide +kernel), List.mem_of_getElem? (i := 1069) (by decide +kernel)⟩
theorem lw_p42 : lw_okq (⟨"WatchServerModel", "leftOf", "(I)Z"⟩, 62) := ⟨⟨by decide +kernel, by decide +kernel⟩, List.mem_of_getElem? (i := 797) (by decide +kernel), List.mem_of_getElem? (i := 1072) (by decide +kernel), List.mem_of_getElem? (i := 1073) (by decide +kernel)⟩
theorem lw_p43 : lw_okq (⟨"WatchServerModel", "toMail", "(II)V"⟩, 62) := ⟨⟨by decide +kernel, by decide +kernel⟩, List.mem_of_getElem? (i := 797) (by decide +kernel), List.mem_of_getElem? (i := 1076) (by decide +kernel), List.mem_of_getElem? (i := 1077) (by decide +kernel)⟩
theorem lw_p44 : lw_okq (⟨"WatchServerModel", "shut", "(I)I"⟩, 62) := ⟨⟨by decide +kernel, by decide +kernel⟩, List.mem_of_getElem? (i := 797) (by decide +kernel), List.mem_of_getElem? (i := 1080) (by decide +kernel), List.mem_of_getElem? (i := 1081) (by decide +kernel)⟩
theorem lw_p45 : lw_okq (⟨"WatchServerModel", "lacks", "(I)I"⟩, 62) := ⟨⟨by decide +kernel, by decide +kernel⟩, List.mem_of_getElem? (i := 797) (by decide +kernel), List.mem_of_getElem? (i := 1096) (by decide +kernel), List.mem_of_getElem? (i := 1097) (by decide +kernel)⟩
theorem lw_p46 : lw_okq (⟨"WatchServerModel", "set", "(IIIII)V"⟩, 62) := ⟨⟨by decide +kernel, by decide +kernel⟩, List.mem_of_getElem? (i := 797) (by decide +kernel), List.mem_of_getElem? (i := 1127) (by decide +kernel), List.mem_of_getElem? (i := 1128) (by decide +kernel)⟩
theorem lw_p47 : lw_okq (⟨"WatchServerModel", "lacksSub", "(II)I"⟩, 62) := ⟨⟨by decide +kernel, by decide +kernel⟩, List.mem_of_getElem? (i := 797) (by decide +kernel), List.mem_of_getElem? (i := 1135) (by decide +kernel), List.mem_of_getElem? (i := 1136) (by decide +kernel)⟩
def lw_privs_3 : List (MethodName × Nat) := [(⟨"WatchServerModel", "sample", "(I)V"⟩, 62), (⟨"WatchServerModel", "shift", "(I)V"⟩, 62), (⟨"WatchServerModel", "cycle", "(I)V"⟩, 62), (⟨"WatchServerModel", "isReady", "(I)Z"⟩, 62), (⟨"WatchServerModel", "mayMake", "(I)Z"⟩, 62), (⟨"WatchServerModel", "isShort", "(I)V"⟩, 62), (⟨"WatchServerModel", "removeSub", "(I)V"⟩, 62), (⟨"WatchServerModel", "dropKept", "(II)V"⟩, 62), (⟨"WatchServerModel", "make", "(I)V"⟩, 62), (⟨"WatchServerModel", "keptOf", "(I)I"⟩, 62), (⟨"WatchServerModel", "leftOf", "(I)Z"⟩, 62), (⟨"WatchServerModel", "toMail", "(II)V"⟩, 62), (⟨"WatchServerModel", "shut", "(I)I"⟩, 62), (⟨"WatchServerModel", "lacks", "(I)I"⟩, 62), (⟨"WatchServerModel", "set", "(IIIII)V"⟩, 62), (⟨"WatchServerModel", "lacksSub", "(II)I"⟩, 62)]
theorem lw_r3 : ∀ q ∈ lw_privs_3, lw_okq q := List.forall_mem_cons.mpr ⟨lw_p32, List.forall_mem_cons.mpr ⟨lw_p33, List.forall_mem_cons.mpr ⟨lw_p34, List.forall_mem_cons.mpr ⟨lw_p35, List.forall_mem_cons.mpr ⟨lw_p36, List.forall_mem_cons.mpr ⟨lw_p37, List.forall_mem_cons.mpr ⟨lw_p38, List.forall_mem_cons.mpr ⟨lw_p39, List.forall_mem_cons.mpr ⟨lw_p40, List.forall_mem_cons.mpr ⟨lw_p41, List.forall_mem_cons.mpr ⟨lw_p42, List.forall_mem_cons.mpr ⟨lw_p43, List.forall_mem_cons.mpr ⟨lw_p44, List.forall_mem_cons.mpr ⟨lw_p45, List.forall_mem_cons.mpr ⟨lw_p46, List.forall_mem_cons.mpr ⟨lw_p47, fun _ h => absurd h List.not_mem_nil⟩⟩⟩⟩⟩⟩⟩⟩⟩⟩⟩⟩⟩⟩⟩⟩
theorem lw_p48 : lw_okq (⟨"WatchServerModel", "lacksItem", "(II)I"⟩, 62) := ⟨⟨by decide +kernel, by decide +kernel⟩, List.mem_of_getElem? (i := 797) (by decide +kernel), List.mem_of_getElem? (i := 1160) (by decide +kernel), List.mem_of_getElem? (i := 1161) (by decide +kernel)⟩
theorem lw_p49 : lw_okq (⟨"WatchServerModel", "acknowledge", "(III)I"⟩, 62) := ⟨⟨by decide +kernel, by decide +kernel⟩, List.mem_of_getElem? (i := 797) (by decide +kernel), List.mem_of_getElem? (i := 1172) (by decide +kernel), List.mem_of_getElem? (i := 1173) (by decide +kernel)⟩
theorem lw_p50 : lw_okq (⟨"WatchServerModel", "findKept", "(II)I"⟩, 62) := ⟨⟨by decide +kernel, by decide +kernel⟩, List.mem_of_getElem? (i := 797) (by decide +kernel), List.mem_of_getElem? (i := 1176) (by decide +kernel), List.mem_of_getElem? (i := 1177) (by decide +kernel)⟩
def lw_privs_4 : List (MethodName × Nat) := [(⟨"WatchServerModel", "lacksItem", "(II)I"⟩, 62), (⟨"WatchServerModel", "acknowledge", "(III)I"⟩, 62), (⟨"WatchServerModel", "findKept", "(II)I"⟩, 62)]
theorem lw_r4 : ∀ q ∈ lw_privs_4, lw_okq q := List.forall_mem_cons.mpr ⟨lw_p48, List.forall_mem_cons.mpr ⟨lw_p49, List.forall_mem_cons.mpr ⟨lw_p50, fun _ h => absurd h List.not_mem_nil⟩⟩⟩
def lw_privs : List (MethodName × Nat) := lw_privs_1 ++ (lw_privs_2 ++ (lw_privs_3 ++ (lw_privs_4)))
def lw_tbl : List Cond := k2_sels lw_privs ++ tables_1
theorem lw_privs_ok : ∀ q ∈ lw_privs, lw_okq q := by
  show ∀ q ∈ lw_privs_1 ++ (lw_privs_2 ++ (lw_privs_3 ++ (lw_privs_4))), lw_okq q
  exact List.forall_mem_append.mpr ⟨lw_r1, List.forall_mem_append.mpr ⟨lw_r2, List.forall_mem_append.mpr ⟨lw_r3, lw_r4⟩⟩⟩
end
section
/-! ===== BEGIN words of one list among another's, by their places ===== -/
theorem goodIn_r {big : List Cond} (ws : List Cond) (ps : List Nat) (hp : ws = ps.filterMap (fun i => big[i]?)) (h : ws.all goodWord = true) : GoodIn big ws := by
  intro w hw
  have h1 := List.all_eq_true.mp h w hw
  rw [hp] at hw
  obtain ⟨i, -, hi⟩ := List.mem_filterMap.mp hw
  have hm : w ∈ big := by first | exact List.mem_of_getElem? hi | exact List.getElem?_mem hi
  exact ⟨hm, good_of_word h1⟩
theorem goodIn_app {big a b : List Cond} (ha : GoodIn big a) (hb : GoodIn big b) : GoodIn big (a ++ b) := fun w h => (List.mem_append.mp h).elim (ha w) (hb w)
theorem goodIn_ca {big a b : List Cond} {c : Cond} (ha : GoodIn big (c :: a)) (hb : GoodIn big b) : GoodIn big (c :: (a ++ b)) := fun w h => (List.mem_cons.mp h).elim (fun e => ha w (List.mem_cons.mpr (Or.inl e))) (fun h => (List.mem_append.mp h).elim (fun h => ha w (List.mem_cons.mpr (Or.inr h))) (hb w))
theorem goodIn_sub {big ws : List Cond} (hm : ∀ w ∈ ws, w ∈ big) (h : ws.all goodWord = true) : GoodIn big ws := fun w hw => ⟨hm w hw, good_of_word (List.all_eq_true.mp h w hw)⟩
/-! ===== END ===== -/

/-! ===== BEGIN printed: names, fields, word lists, decode rows ===== -/
def RX0 : String := "WatchServer$Entry"
def TX0 : u_T := fun k => match k with
  | 0 => ("WatchServer$Entry", "value", "J", true)
  | 1 => ("WatchServer$Entry", "item", "I", true)
  | 2 => ("WatchServer$Entry", "time", "I", true)
  | _ => ("WatchServer$Entry", "bit", "Z", false)
def tyX0 : Nat → FieldType := fun k => match k with
  | 0 => .long
  | 1 => .int
  | 2 => .int
  | _ => .boolean
abbrev wsX00 : List Cond := u_ws RX0 TX0 4
theorem nmX0 : ∀ a, a < 4 → ∀ b, b < 4 → a ≠ b → (TX0 a).2.1 ≠ (TX0 b).2.1 := by decide +kernel
theorem tyX0_ok : ∀ k, k < 4 → parseFieldDescriptor (TX0 k).2.2.1 = some (tyX0 k) := by decide +kernel
abbrev cX0_init : ByteArray := prog_2_method_1_code
def yX0_init : MethodName := ⟨RX0, "<init>", "(JII)V"⟩
def RX1 : String := "WatchServer$Item"
def TX1 : u_T := fun k => match k with
  | 0 => ("WatchServer$Item", "number", "I", true)
  | 1 => ("WatchServer$Item", "owner", "LWatchServer$Subscription;", true)
  | 2 => ("WatchServer$Item", "variable", "LWatchServer$Node;", true)
  | 3 => ("WatchServer$Item", "born", "I", true)
  | 4 => ("WatchServer$Item", "interval", "I", true)
  | 5 => ("WatchServer$Item", "band", "J", true)
  | 6 => ("WatchServer$Item", "queue", "LWatchServer$Queue;", true)
  | 7 => ("WatchServer$Item", "mode", "I", false)
  | 8 => ("WatchServer$Item", "hasTaken", "Z", false)
  | 9 => ("WatchServer$Item", "taken", "J", false)
  | _ => ("WatchServer$Item", "gone", "Z", false)
def tyX1 : Nat → FieldType := fun k => match k with
  | 0 => .int
  | 1 => .object "WatchServer$Subscription"
  | 2 => .object "WatchServer$Node"
  | 3 => .int
  | 4 => .int
  | 5 => .long
  | 6 => .object "WatchServer$Queue"
  | 7 => .int
  | 8 => .boolean
  | 9 => .long
  | _ => .boolean
abbrev wsX10 : List Cond := u_ws RX1 TX1 11
theorem nmX1 : ∀ a, a < 11 → ∀ b, b < 11 → a ≠ b → (TX1 a).2.1 ≠ (TX1 b).2.1 := by decide +kernel
theorem tyX1_ok : ∀ k, k < 11 → parseFieldDescriptor (TX1 k).2.2.1 = some (tyX1 k) := by decide +kernel
abbrev cX1_init : ByteArray := prog_3_method_1_code
def yX1_init : MethodName := ⟨RX1, "<init>", "(ILWatchServer$Subscription;LWatchServer$Node;IIJLWatchServer$Queue;)V"⟩
abbrev cX1_mayHave : ByteArray := prog_3_method_2_code
def yX1_mayHave : MethodName := ⟨RX1, "mayHave", "(IIIJ)Z"⟩
abbrev cX1_switchTo : ByteArray := prog_3_method_3_code
def yX1_switchTo : MethodName := ⟨RX1, "switchTo", "(II)V"⟩
abbrev cX1_sample : ByteArray := prog_3_method_4_code
def yX1_sample : MethodName := ⟨RX1, "sample", "(I)V"⟩
abbrev cX1_isBeyondBand : ByteArray := prog_3_method_5_code
def yX1_isBeyondBand : MethodName := ⟨RX1, "isBeyondBand", "(J)Z"⟩
def RX2 : String := "WatchServer$Message"
def TX2 : u_T := fun k => match k with
  | 0 => ("WatchServer$Message", "place", "I", true)
  | 1 => ("WatchServer$Message", "subscription", "I", true)
  | 2 => ("WatchServer$Message", "number", "I", true)
  | 3 => ("WatchServer$Message", "time", "I", true)
  | 4 => ("WatchServer$Message", "entries", "[LWatchServer$Entry;", true)
  | 5 => ("WatchServer$Message", "more", "Z", false)
  | _ => ("WatchServer$Message", "kept", "Z", false)
def tyX2 : Nat → FieldType := fun k => match k with
  | 0 => .int
  | 1 => .int
  | 2 => .int
  | 3 => .int
  | 4 => .array (.object "WatchServer$Entry")
  | 5 => .boolean
  | _ => .boolean
abbrev wsX20 : List Cond := u_ws RX2 TX2 7
theorem nmX2 : ∀ a, a < 7 → ∀ b, b < 7 → a ≠ b → (TX2 a).2.1 ≠ (TX2 b).2.1 := by decide +kernel
theorem tyX2_ok : ∀ k, k < 7 → parseFieldDescriptor (TX2 k).2.2.1 = some (tyX2 k) := by decide +kernel
abbrev cX2_init : ByteArray := prog_4_method_1_code
def yX2_init : MethodName := ⟨RX2, "<init>", "(IIII[LWatchServer$Entry;)V"⟩
def RX3 : String := "WatchServer$Node"
def TX3 : u_T := fun k => match k with
  | 0 => ("WatchServer$Node", "number", "I", true)
  | 1 => ("WatchServer$Node", "kind", "I", true)
  | _ => ("WatchServer$Node", "value", "J", false)
def tyX3 : Nat → FieldType := fun k => match k with
  | 0 => .int
  | 1 => .int
  | _ => .long
abbrev wsX30 : List Cond := u_ws RX3 TX3 3
theorem nmX3 : ∀ a, a < 3 → ∀ b, b < 3 → a ≠ b → (TX3 a).2.1 ≠ (TX3 b).2.1 := by decide +kernel
theorem tyX3_ok : ∀ k, k < 3 → parseFieldDescriptor (TX3 k).2.2.1 = some (tyX3 k) := by decide +kernel
abbrev cX3_init : ByteArray := prog_5_method_1_code
def yX3_init : MethodName := ⟨RX3, "<init>", "(II)V"⟩
def RX4 : String := "WatchServer$Queue"
def TX4 : u_T := fun k => match k with
  | 0 => ("WatchServer$Queue", "size", "I", true)
  | 1 => ("WatchServer$Queue", "oldest", "Z", true)
  | _ => ("WatchServer$Queue", "entries", "Ljava/util/ArrayList;", true)
def tyX4 : Nat → FieldType := fun k => match k with
  | 0 => .int
  | 1 => .boolean
  | _ => .object "java/util/ArrayList"
abbrev wsX40 : List Cond := u_ws RX4 TX4 3
theorem nmX4 : ∀ a, a < 3 → ∀ b, b < 3 → a ≠ b → (TX4 a).2.1 ≠ (TX4 b).2.1 := by decide +kernel
theorem tyX4_ok : ∀ k, k < 3 → parseFieldDescriptor (TX4 k).2.2.1 = some (tyX4 k) := by decide +kernel
abbrev cX4_init : ByteArray := prog_6_method_1_code
def yX4_init : MethodName := ⟨RX4, "<init>", "(IZ)V"⟩
abbrev cX4_put : ByteArray := prog_6_method_2_code
def yX4_put : MethodName := ⟨RX4, "put", "(LWatchServer$Entry;)V"⟩
abbrev cX4_firstHasBit : ByteArray := prog_6_method_3_code
def yX4_firstHasBit : MethodName := ⟨RX4, "firstHasBit", "()Z"⟩
def RX5 : String := "WatchServer$Reference"
def TX5 : u_T := fun k => match k with
  | 0 => ("WatchServer$Reference", "from", "I", true)
  | 1 => ("WatchServer$Reference", "to", "I", true)
  | _ => ("WatchServer$Reference", "type", "I", true)
def tyX5 : Nat → FieldType := fun k => match k with
  | 0 => .int
  | 1 => .int
  | _ => .int
abbrev wsX50 : List Cond := u_ws RX5 TX5 3
theorem nmX5 : ∀ a, a < 3 → ∀ b, b < 3 → a ≠ b → (TX5 a).2.1 ≠ (TX5 b).2.1 := by decide +kernel
theorem tyX5_ok : ∀ k, k < 3 → parseFieldDescriptor (TX5 k).2.2.1 = some (tyX5 k) := by decide +kernel
abbrev cX5_init : ByteArray := prog_7_method_1_code
def yX5_init : MethodName := ⟨RX5, "<init>", "(III)V"⟩
abbrev cX5_touches : ByteArray := prog_7_method_2_code
def yX5_touches : MethodName := ⟨RX5, "touches", "(II)Z"⟩
abbrev cX5_isAmong : ByteArray := prog_7_method_3_code
def yX5_isAmong : MethodName := ⟨RX5, "isAmong", "(I)Z"⟩
abbrev cX5_otherEnd : ByteArray := prog_7_method_4_code
def yX5_otherEnd : MethodName := ⟨RX5, "otherEnd", "(I)I"⟩
def RX6 : String := "WatchServer$Session"
def TX6 : u_T := fun k => match k with
  | 0 => ("WatchServer$Session", "number", "I", true)
  | 1 => ("WatchServer$Session", "timeout", "I", true)
  | 2 => ("WatchServer$Session", "mail", "Ljava/util/ArrayList;", true)
  | 3 => ("WatchServer$Session", "state", "I", false)
  | 4 => ("WatchServer$Session", "end", "I", false)
  | _ => ("WatchServer$Session", "requests", "I", false)
def tyX6 : Nat → FieldType := fun k => match k with
  | 0 => .int
  | 1 => .int
  | 2 => .object "java/util/ArrayList"
  | 3 => .int
  | 4 => .int
  | _ => .int
abbrev wsX60 : List Cond := u_ws RX6 TX6 6
theorem nmX6 : ∀ a, a < 6 → ∀ b, b < 6 → a ≠ b → (TX6 a).2.1 ≠ (TX6 b).2.1 := by decide +kernel
theorem tyX6_ok : ∀ k, k < 6 → parseFieldDescriptor (TX6 k).2.2.1 = some (tyX6 k) := by decide +kernel
abbrev cX6_init : ByteArray := prog_8_method_1_code
def yX6_init : MethodName := ⟨RX6, "<init>", "(III)V"⟩
abbrev cX6_renew : ByteArray := prog_8_method_2_code
def yX6_renew : MethodName := ⟨RX6, "renew", "(I)V"⟩
def RX7 : String := "WatchServer$Subscription"
def TX7 : u_T := fun k => match k with
  | 0 => ("WatchServer$Subscription", "number", "I", true)
  | 1 => ("WatchServer$Subscription", "items", "Ljava/util/ArrayList;", true)
  | 2 => ("WatchServer$Subscription", "kept", "Ljava/util/ArrayList;", true)
  | 3 => ("WatchServer$Subscription", "owner", "LWatchServer$Session;", false)
  | 4 => ("WatchServer$Subscription", "born", "I", false)
  | 5 => ("WatchServer$Subscription", "period", "I", false)
  | 6 => ("WatchServer$Subscription", "keep", "I", false)
  | 7 => ("WatchServer$Subscription", "life", "I", false)
  | 8 => ("WatchServer$Subscription", "most", "I", false)
  | 9 => ("WatchServer$Subscription", "on", "Z", false)
  | 10 => ("WatchServer$Subscription", "next", "I", false)
  | 11 => ("WatchServer$Subscription", "keepLeft", "I", false)
  | 12 => ("WatchServer$Subscription", "lifeLeft", "I", false)
  | 13 => ("WatchServer$Subscription", "sent", "Z", false)
  | 14 => ("WatchServer$Subscription", "more", "Z", false)
  | 15 => ("WatchServer$Subscription", "late", "Z", false)
  | 16 => ("WatchServer$Subscription", "lateOrder", "I", false)
  | _ => ("WatchServer$Subscription", "gone", "Z", false)
def tyX7 : Nat → FieldType := fun k => match k with
  | 0 => .int
  | 1 => .object "java/util/ArrayList"
  | 2 => .object "java/util/ArrayList"
  | 3 => .object "WatchServer$Session"
  | 4 => .int
  | 5 => .int
  | 6 => .int
  | 7 => .int
  | 8 => .int
  | 9 => .boolean
  | 10 => .int
  | 11 => .int
  | 12 => .int
  | 13 => .boolean
  | 14 => .boolean
  | 15 => .boolean
  | 16 => .int
  | _ => .boolean
abbrev wsX70 : List Cond := u_ws RX7 TX7 18
theorem nmX7 : ∀ a, a < 18 → ∀ b, b < 18 → a ≠ b → (TX7 a).2.1 ≠ (TX7 b).2.1 := by decide +kernel
theorem tyX7_ok : ∀ k, k < 18 → parseFieldDescriptor (TX7 k).2.2.1 = some (tyX7 k) := by decide +kernel
abbrev cX7_init : ByteArray := prog_9_method_1_code
def yX7_init : MethodName := ⟨RX7, "<init>", "(ILWatchServer$Session;)V"⟩
abbrev cX7_mayHave : ByteArray := prog_9_method_2_code
def yX7_mayHave : MethodName := ⟨RX7, "mayHave", "(IIII)Z"⟩
abbrev cX7_begin : ByteArray := prog_9_method_3_code
def yX7_begin : MethodName := ⟨RX7, "begin", "(IIIII)V"⟩
abbrev cX7_isReady : ByteArray := prog_9_method_4_code
def yX7_isReady : MethodName := ⟨RX7, "isReady", "()Z"⟩
abbrev cX7_wantsToSend : ByteArray := prog_9_method_5_code
def yX7_wantsToSend : MethodName := ⟨RX7, "wantsToSend", "()Z"⟩
abbrev cX7_countEntries : ByteArray := prog_9_method_6_code
def yX7_countEntries : MethodName := ⟨RX7, "countEntries", "()I"⟩
abbrev cX7_takeEntries : ByteArray := prog_9_method_7_code
def yX7_takeEntries : MethodName := ⟨RX7, "takeEntries", "()[LWatchServer$Entry;"⟩
abbrev cX7_keepMessage : ByteArray := prog_9_method_8_code
def yX7_keepMessage : MethodName := ⟨RX7, "keepMessage", "(LWatchServer$Message;)V"⟩
abbrev cX7_keptOf : ByteArray := prog_9_method_9_code
def yX7_keptOf : MethodName := ⟨RX7, "keptOf", "(I)LWatchServer$Message;"⟩
abbrev cX7_forget : ByteArray := prog_9_method_10_code
def yX7_forget : MethodName := ⟨RX7, "forget", "(I)Z"⟩
abbrev cX7_remove : ByteArray := prog_9_method_11_code
def yX7_remove : MethodName := ⟨RX7, "remove", "(LWatchServer$Item;)V"⟩
abbrev cX7_end : ByteArray := prog_9_method_12_code
def yX7_end : MethodName := ⟨RX7, "end", "()V"⟩
def RX8 : String := "WatchServer"
def TX8 : u_T := fun k => match k with
  | 0 => ("WatchServer", "nodes", "Ljava/util/ArrayList;", true)
  | 1 => ("WatchServer", "references", "Ljava/util/ArrayList;", true)
  | 2 => ("WatchServer", "sessions", "Ljava/util/ArrayList;", true)
  | 3 => ("WatchServer", "subscriptions", "Ljava/util/ArrayList;", true)
  | 4 => ("WatchServer", "items", "Ljava/util/ArrayList;", true)
  | 5 => ("WatchServer", "messages", "Ljava/util/ArrayList;", true)
  | 6 => ("WatchServer", "refusals", "[I", true)
  | 7 => ("WatchServer", "time", "I", false)
  | 8 => ("WatchServer", "valueRead", "J", false)
  | 9 => ("WatchServer", "acknowledgement", "I", false)
  | _ => ("WatchServer", "latenesses", "I", false)
def tyX8 : Nat → FieldType := fun k => match k with
  | 0 => .object "java/util/ArrayList"
  | 1 => .object "java/util/ArrayList"
  | 2 => .object "java/util/ArrayList"
  | 3 => .object "java/util/ArrayList"
  | 4 => .object "java/util/ArrayList"
  | 5 => .object "java/util/ArrayList"
  | 6 => .array .int
  | 7 => .int
  | 8 => .long
  | 9 => .int
  | _ => .int
abbrev wsX80 : List Cond := u_ws RX8 TX8 11
theorem nmX8 : ∀ a, a < 11 → ∀ b, b < 11 → a ≠ b → (TX8 a).2.1 ≠ (TX8 b).2.1 := by decide +kernel
theorem tyX8_ok : ∀ k, k < 11 → parseFieldDescriptor (TX8 k).2.2.1 = some (tyX8 k) := by decide +kernel
abbrev cX8_init : ByteArray := prog_1_method_1_code
def yX8_init : MethodName := ⟨RX8, "<init>", "()V"⟩
abbrev cX8_node : ByteArray := prog_1_method_2_code
def yX8_node : MethodName := ⟨RX8, "node", "(I)I"⟩
abbrev cX8_refer : ByteArray := prog_1_method_3_code
def yX8_refer : MethodName := ⟨RX8, "refer", "(III)I"⟩
abbrev cX8_change : ByteArray := prog_1_method_4_code
def yX8_change : MethodName := ⟨RX8, "change", "(IJ)I"⟩
abbrev cX8_tick : ByteArray := prog_1_method_5_code
def yX8_tick : MethodName := ⟨RX8, "tick", "(I)I"⟩
abbrev cX8_session : ByteArray := prog_1_method_6_code
def yX8_session : MethodName := ⟨RX8, "session", "(I)I"⟩
abbrev cX8_activate : ByteArray := prog_1_method_7_code
def yX8_activate : MethodName := ⟨RX8, "activate", "(I)I"⟩
abbrev cX8_close : ByteArray := prog_1_method_8_code
def yX8_close : MethodName := ⟨RX8, "close", "(I)I"⟩
abbrev cX8_browse : ByteArray := prog_1_method_9_code
def yX8_browse : MethodName := ⟨RX8, "browse", "(IIIII)I"⟩
abbrev cX8_read : ByteArray := prog_1_method_10_code
def yX8_read : MethodName := ⟨RX8, "read", "(II)I"⟩
abbrev cX8_value : ByteArray := prog_1_method_11_code
def yX8_value : MethodName := ⟨RX8, "value", "()J"⟩
abbrev cX8_write : ByteArray := prog_1_method_12_code
def yX8_write : MethodName := ⟨RX8, "write", "(IIJ)I"⟩
abbrev cX8_subscribe : ByteArray := prog_1_method_13_code
def yX8_subscribe : MethodName := ⟨RX8, "subscribe", "(IIIII)I"⟩
abbrev cX8_modify : ByteArray := prog_1_method_14_code
def yX8_modify : MethodName := ⟨RX8, "modify", "(IIIIII)I"⟩
abbrev cX8_turn : ByteArray := prog_1_method_15_code
def yX8_turn : MethodName := ⟨RX8, "turn", "(IIZ)I"⟩
abbrev cX8_transfer : ByteArray := prog_1_method_16_code
def yX8_transfer : MethodName := ⟨RX8, "transfer", "(II)I"⟩
abbrev cX8_unsubscribe : ByteArray := prog_1_method_17_code
def yX8_unsubscribe : MethodName := ⟨RX8, "unsubscribe", "(II)I"⟩
abbrev cX8_item : ByteArray := prog_1_method_18_code
def yX8_item : MethodName := ⟨RX8, "item", "(IIIIIZIJ)I"⟩
abbrev cX8_mode : ByteArray := prog_1_method_19_code
def yX8_mode : MethodName := ⟨RX8, "mode", "(III)I"⟩
abbrev cX8_drop : ByteArray := prog_1_method_20_code
def yX8_drop : MethodName := ⟨RX8, "drop", "(II)I"⟩
abbrev cX8_publish : ByteArray := prog_1_method_21_code
def yX8_publish : MethodName := ⟨RX8, "publish", "(III)I"⟩
abbrev cX8_acknowledged : ByteArray := prog_1_method_22_code
def yX8_acknowledged : MethodName := ⟨RX8, "acknowledged", "()I"⟩
abbrev cX8_again : ByteArray := prog_1_method_23_code
def yX8_again : MethodName := ⟨RX8, "again", "(III)I"⟩
abbrev cX8_mail : ByteArray := prog_1_method_24_code
def yX8_mail : MethodName := ⟨RX8, "mail", "(II)I"⟩
abbrev cX8_message : ByteArray := prog_1_method_25_code
def yX8_message : MethodName := ⟨RX8, "message", "(II)I"⟩
abbrev cX8_entry : ByteArray := prog_1_method_26_code
def yX8_entry : MethodName := ⟨RX8, "entry", "(III)J"⟩
abbrev cX8_sessionOf : ByteArray := prog_1_method_27_code
def yX8_sessionOf : MethodName := ⟨RX8, "sessionOf", "(II)I"⟩
abbrev cX8_subscription : ByteArray := prog_1_method_28_code
def yX8_subscription : MethodName := ⟨RX8, "subscription", "(II)I"⟩
abbrev cX8_itemOf : ByteArray := prog_1_method_29_code
def yX8_itemOf : MethodName := ⟨RX8, "itemOf", "(II)I"⟩
abbrev cX8_status : ByteArray := prog_1_method_30_code
def yX8_status : MethodName := ⟨RX8, "status", "(I)I"⟩
abbrev cX8_isWithin : ByteArray := prog_1_method_31_code
def yX8_isWithin : MethodName := ⟨RX8, "isWithin", "(III)Z"⟩
abbrev cX8_isMultiple : ByteArray := prog_1_method_32_code
def yX8_isMultiple : MethodName := ⟨RX8, "isMultiple", "(II)Z"⟩
abbrev cX8_asNumber : ByteArray := prog_1_method_33_code
def yX8_asNumber : MethodName := ⟨RX8, "asNumber", "(Z)I"⟩
abbrev cX8_refuse : ByteArray := prog_1_method_34_code
def yX8_refuse : MethodName := ⟨RX8, "refuse", "(I)I"⟩
abbrev cX8_refuseSession : ByteArray := prog_1_method_35_code
def yX8_refuseSession : MethodName := ⟨RX8, "refuseSession", "(I)I"⟩
abbrev cX8_enter : ByteArray := prog_1_method_36_code
def yX8_enter : MethodName := ⟨RX8, "enter", "(I)LWatchServer$Session;"⟩
abbrev cX8_nodeAt : ByteArray := prog_1_method_37_code
def yX8_nodeAt : MethodName := ⟨RX8, "nodeAt", "(I)LWatchServer$Node;"⟩
abbrev cX8_variableAt : ByteArray := prog_1_method_38_code
def yX8_variableAt : MethodName := ⟨RX8, "variableAt", "(I)LWatchServer$Node;"⟩
abbrev cX8_sessionAt : ByteArray := prog_1_method_39_code
def yX8_sessionAt : MethodName := ⟨RX8, "sessionAt", "(I)LWatchServer$Session;"⟩
abbrev cX8_messageAt : ByteArray := prog_1_method_40_code
def yX8_messageAt : MethodName := ⟨RX8, "messageAt", "(I)LWatchServer$Message;"⟩
abbrev cX8_subscriptionAt : ByteArray := prog_1_method_41_code
def yX8_subscriptionAt : MethodName := ⟨RX8, "subscriptionAt", "(I)LWatchServer$Subscription;"⟩
abbrev cX8_subscriptionOf : ByteArray := prog_1_method_42_code
def yX8_subscriptionOf : MethodName := ⟨RX8, "subscriptionOf", "(LWatchServer$Session;I)LWatchServer$Subscription;"⟩
abbrev cX8_itemAt : ByteArray := prog_1_method_43_code
def yX8_itemAt : MethodName := ⟨RX8, "itemAt", "(I)LWatchServer$Item;"⟩
abbrev cX8_itemOfClient : ByteArray := prog_1_method_44_code
def yX8_itemOfClient : MethodName := ⟨RX8, "itemOfClient", "(LWatchServer$Session;I)LWatchServer$Item;"⟩
abbrev cX8_countOpenSessions : ByteArray := prog_1_method_45_code
def yX8_countOpenSessions : MethodName := ⟨RX8, "countOpenSessions", "()I"⟩
abbrev cX8_countSubscriptions : ByteArray := prog_1_method_46_code
def yX8_countSubscriptions : MethodName := ⟨RX8, "countSubscriptions", "(LWatchServer$Session;)I"⟩
abbrev cX8_countItems : ByteArray := prog_1_method_47_code
def yX8_countItems : MethodName := ⟨RX8, "countItems", "()I"⟩
abbrev cX8_sampleItems : ByteArray := prog_1_method_48_code
def yX8_sampleItems : MethodName := ⟨RX8, "sampleItems", "()V"⟩
abbrev cX8_serveSubscriptions : ByteArray := prog_1_method_49_code
def yX8_serveSubscriptions : MethodName := ⟨RX8, "serveSubscriptions", "()V"⟩
abbrev cX8_answerRequests : ByteArray := prog_1_method_50_code
def yX8_answerRequests : MethodName := ⟨RX8, "answerRequests", "(LWatchServer$Subscription;)V"⟩
abbrev cX8_fallShort : ByteArray := prog_1_method_51_code
def yX8_fallShort : MethodName := ⟨RX8, "fallShort", "(LWatchServer$Subscription;)V"⟩
abbrev cX8_send : ByteArray := prog_1_method_52_code
def yX8_send : MethodName := ⟨RX8, "send", "(LWatchServer$Subscription;)V"⟩
abbrev cX8_closeTimedOut : ByteArray := prog_1_method_53_code
def yX8_closeTimedOut : MethodName := ⟨RX8, "closeTimedOut", "()V"⟩
abbrev cX8_shut : ByteArray := prog_1_method_54_code
def yX8_shut : MethodName := ⟨RX8, "shut", "(LWatchServer$Session;)I"⟩
abbrev cX8_acknowledge : ByteArray := prog_1_method_55_code
def yX8_acknowledge : MethodName := ⟨RX8, "acknowledge", "(LWatchServer$Session;II)I"⟩
abbrev cX8_longestLate : ByteArray := prog_1_method_56_code
def yX8_longestLate : MethodName := ⟨RX8, "longestLate", "(LWatchServer$Session;)LWatchServer$Subscription;"⟩
abbrev cX8_firstWithMore : ByteArray := prog_1_method_57_code
def yX8_firstWithMore : MethodName := ⟨RX8, "firstWithMore", "(LWatchServer$Session;)LWatchServer$Subscription;"⟩
def RX9 : String := "WatchServerModel"
def TX9 : u_T := fun k => match k with
  | 0 => ("WatchServerModel", "time", "I", false)
  | 1 => ("WatchServerModel", "nodes", "I", false)
  | 2 => ("WatchServerModel", "kind", "[I", true)
  | 3 => ("WatchServerModel", "values", "[J", true)
  | 4 => ("WatchServerModel", "references", "I", false)
  | 5 => ("WatchServerModel", "refFrom", "[I", true)
  | 6 => ("WatchServerModel", "refTo", "[I", true)
  | 7 => ("WatchServerModel", "refType", "[I", true)
  | 8 => ("WatchServerModel", "sessions", "I", false)
  | 9 => ("WatchServerModel", "timeout", "[I", true)
  | 10 => ("WatchServerModel", "end", "[I", true)
  | 11 => ("WatchServerModel", "state", "[I", true)
  | 12 => ("WatchServerModel", "requests", "[I", true)
  | 13 => ("WatchServerModel", "mailMany", "[I", true)
  | 14 => ("WatchServerModel", "mails", "[I", true)
  | 15 => ("WatchServerModel", "subs", "I", false)
  | 16 => ("WatchServerModel", "subThere", "[Z", true)
  | 17 => ("WatchServerModel", "subSession", "[I", true)
  | 18 => ("WatchServerModel", "subBorn", "[I", true)
  | 19 => ("WatchServerModel", "period", "[I", true)
  | 20 => ("WatchServerModel", "keep", "[I", true)
  | 21 => ("WatchServerModel", "life", "[I", true)
  | 22 => ("WatchServerModel", "most", "[I", true)
  | 23 => ("WatchServerModel", "on", "[Z", true)
  | 24 => ("WatchServerModel", "next", "[I", true)
  | 25 => ("WatchServerModel", "keepLeft", "[I", true)
  | 26 => ("WatchServerModel", "lifeLeft", "[I", true)
  | 27 => ("WatchServerModel", "sent", "[Z", true)
  | 28 => ("WatchServerModel", "late", "[Z", true)
  | 29 => ("WatchServerModel", "lateOrder", "[I", true)
  | 30 => ("WatchServerModel", "lateCount", "I", false)
  | 31 => ("WatchServerModel", "hadMore", "[Z", true)
  | 32 => ("WatchServerModel", "items", "I", false)
  | 33 => ("WatchServerModel", "itemThere", "[Z", true)
  | 34 => ("WatchServerModel", "itemSub", "[I", true)
  | 35 => ("WatchServerModel", "itemNode", "[I", true)
  | 36 => ("WatchServerModel", "itemBorn", "[I", true)
  | 37 => ("WatchServerModel", "interval", "[I", true)
  | 38 => ("WatchServerModel", "size", "[I", true)
  | 39 => ("WatchServerModel", "oldest", "[Z", true)
  | 40 => ("WatchServerModel", "mode", "[I", true)
  | 41 => ("WatchServerModel", "band", "[J", true)
  | 42 => ("WatchServerModel", "taken", "[Z", true)
  | 43 => ("WatchServerModel", "last", "[J", true)
  | 44 => ("WatchServerModel", "queued", "[I", true)
  | 45 => ("WatchServerModel", "queue", "[J", true)
  | 46 => ("WatchServerModel", "queueTime", "[I", true)
  | 47 => ("WatchServerModel", "queueBit", "[I", true)
  | 48 => ("WatchServerModel", "messages", "I", false)
  | 49 => ("WatchServerModel", "messageSub", "[I", true)
  | 50 => ("WatchServerModel", "messageNumber", "[I", true)
  | 51 => ("WatchServerModel", "messageMany", "[I", true)
  | 52 => ("WatchServerModel", "messageMore", "[Z", true)
  | 53 => ("WatchServerModel", "messageTime", "[I", true)
  | 54 => ("WatchServerModel", "kept", "[Z", true)
  | 55 => ("WatchServerModel", "entryValue", "[J", true)
  | 56 => ("WatchServerModel", "entryItem", "[I", true)
  | 57 => ("WatchServerModel", "entryTime", "[I", true)
  | 58 => ("WatchServerModel", "entryBit", "[I", true)
  | 59 => ("WatchServerModel", "told", "J", false)
  | 60 => ("WatchServerModel", "acknowledged", "I", false)
  | _ => ("WatchServerModel", "refused", "[I", true)
def tyX9 : Nat → FieldType := fun k => match k with
  | 0 => .int
  | 1 => .int
  | 2 => .array .int
  | 3 => .array .long
  | 4 => .int
  | 5 => .array .int
  | 6 => .array .int
  | 7 => .array .int
  | 8 => .int
  | 9 => .array .int
  | 10 => .array .int
  | 11 => .array .int
  | 12 => .array .int
  | 13 => .array .int
  | 14 => .array .int
  | 15 => .int
  | 16 => .array .boolean
  | 17 => .array .int
  | 18 => .array .int
  | 19 => .array .int
  | 20 => .array .int
  | 21 => .array .int
  | 22 => .array .int
  | 23 => .array .boolean
  | 24 => .array .int
  | 25 => .array .int
  | 26 => .array .int
  | 27 => .array .boolean
  | 28 => .array .boolean
  | 29 => .array .int
  | 30 => .int
  | 31 => .array .boolean
  | 32 => .int
  | 33 => .array .boolean
  | 34 => .array .int
  | 35 => .array .int
  | 36 => .array .int
  | 37 => .array .int
  | 38 => .array .int
  | 39 => .array .boolean
  | 40 => .array .int
  | 41 => .array .long
  | 42 => .array .boolean
  | 43 => .array .long
  | 44 => .array .int
  | 45 => .array .long
  | 46 => .array .int
  | 47 => .array .int
  | 48 => .int
  | 49 => .array .int
  | 50 => .array .int
  | 51 => .array .int
  | 52 => .array .boolean
  | 53 => .array .int
  | 54 => .array .boolean
  | 55 => .array .long
  | 56 => .array .int
  | 57 => .array .int
  | 58 => .array .int
  | 59 => .long
  | 60 => .int
  | _ => .array .int
abbrev wsX90 : List Cond := u_ws RX9 TX9 62
theorem nmX9 : ∀ a, a < 62 → ∀ b, b < 62 → a ≠ b → (TX9 a).2.1 ≠ (TX9 b).2.1 := by decide +kernel
theorem tyX9_ok : ∀ k, k < 62 → parseFieldDescriptor (TX9 k).2.2.1 = some (tyX9 k) := by decide +kernel
abbrev cX9_init : ByteArray := prog_11_method_1_code
def yX9_init : MethodName := ⟨RX9, "<init>", "()V"⟩
abbrev cX9_in : ByteArray := prog_11_method_3_code
def yX9_in : MethodName := ⟨RX9, "in", "(JJJ)Z"⟩
abbrev cX9_refuse : ByteArray := prog_11_method_4_code
def yX9_refuse : MethodName := ⟨RX9, "refuse", "(I)I"⟩
abbrev cX9_node : ByteArray := prog_11_method_5_code
def yX9_node : MethodName := ⟨RX9, "node", "(I)I"⟩
abbrev cX9_isNode : ByteArray := prog_11_method_6_code
def yX9_isNode : MethodName := ⟨RX9, "isNode", "(I)Z"⟩
abbrev cX9_isVariable : ByteArray := prog_11_method_7_code
def yX9_isVariable : MethodName := ⟨RX9, "isVariable", "(I)Z"⟩
abbrev cX9_refer : ByteArray := prog_11_method_8_code
def yX9_refer : MethodName := ⟨RX9, "refer", "(III)I"⟩
abbrev cX9_change : ByteArray := prog_11_method_9_code
def yX9_change : MethodName := ⟨RX9, "change", "(IJ)I"⟩
abbrev cX9_sample : ByteArray := prog_11_method_10_code
def yX9_sample : MethodName := ⟨RX9, "sample", "(I)V"⟩
abbrev cX9_isReady : ByteArray := prog_11_method_11_code
def yX9_isReady : MethodName := ⟨RX9, "isReady", "(I)Z"⟩
abbrev cX9_toMail : ByteArray := prog_11_method_12_code
def yX9_toMail : MethodName := ⟨RX9, "toMail", "(II)V"⟩
abbrev cX9_dropKept : ByteArray := prog_11_method_13_code
def yX9_dropKept : MethodName := ⟨RX9, "dropKept", "(II)V"⟩
abbrev cX9_keptOf : ByteArray := prog_11_method_14_code
def yX9_keptOf : MethodName := ⟨RX9, "keptOf", "(I)I"⟩
abbrev cX9_shift : ByteArray := prog_11_method_15_code
def yX9_shift : MethodName := ⟨RX9, "shift", "(I)V"⟩
abbrev cX9_make : ByteArray := prog_11_method_16_code
def yX9_make : MethodName := ⟨RX9, "make", "(I)V"⟩
abbrev cX9_leftOf : ByteArray := prog_11_method_17_code
def yX9_leftOf : MethodName := ⟨RX9, "leftOf", "(I)Z"⟩
abbrev cX9_removeSub : ByteArray := prog_11_method_18_code
def yX9_removeSub : MethodName := ⟨RX9, "removeSub", "(I)V"⟩
abbrev cX9_shut : ByteArray := prog_11_method_19_code
def yX9_shut : MethodName := ⟨RX9, "shut", "(I)I"⟩
abbrev cX9_isShort : ByteArray := prog_11_method_20_code
def yX9_isShort : MethodName := ⟨RX9, "isShort", "(I)V"⟩
abbrev cX9_mayMake : ByteArray := prog_11_method_21_code
def yX9_mayMake : MethodName := ⟨RX9, "mayMake", "(I)Z"⟩
abbrev cX9_cycle : ByteArray := prog_11_method_22_code
def yX9_cycle : MethodName := ⟨RX9, "cycle", "(I)V"⟩
abbrev cX9_step : ByteArray := prog_11_method_23_code
def yX9_step : MethodName := ⟨RX9, "step", "()V"⟩
abbrev cX9_tick : ByteArray := prog_11_method_24_code
def yX9_tick : MethodName := ⟨RX9, "tick", "(I)I"⟩
abbrev cX9_session : ByteArray := prog_11_method_25_code
def yX9_session : MethodName := ⟨RX9, "session", "(I)I"⟩
abbrev cX9_activate : ByteArray := prog_11_method_26_code
def yX9_activate : MethodName := ⟨RX9, "activate", "(I)I"⟩
abbrev cX9_lacks : ByteArray := prog_11_method_27_code
def yX9_lacks : MethodName := ⟨RX9, "lacks", "(I)I"⟩
abbrev cX9_close : ByteArray := prog_11_method_28_code
def yX9_close : MethodName := ⟨RX9, "close", "(I)I"⟩
abbrev cX9_browse : ByteArray := prog_11_method_29_code
def yX9_browse : MethodName := ⟨RX9, "browse", "(IIIII)I"⟩
abbrev cX9_read : ByteArray := prog_11_method_30_code
def yX9_read : MethodName := ⟨RX9, "read", "(II)I"⟩
abbrev cX9_value : ByteArray := prog_11_method_31_code
def yX9_value : MethodName := ⟨RX9, "value", "()J"⟩
abbrev cX9_write : ByteArray := prog_11_method_32_code
def yX9_write : MethodName := ⟨RX9, "write", "(IIJ)I"⟩
abbrev cX9_areRight : ByteArray := prog_11_method_33_code
def yX9_areRight : MethodName := ⟨RX9, "areRight", "(IIII)Z"⟩
abbrev cX9_set : ByteArray := prog_11_method_34_code
def yX9_set : MethodName := ⟨RX9, "set", "(IIIII)V"⟩
abbrev cX9_subscribe : ByteArray := prog_11_method_35_code
def yX9_subscribe : MethodName := ⟨RX9, "subscribe", "(IIIII)I"⟩
abbrev cX9_lacksSub : ByteArray := prog_11_method_36_code
def yX9_lacksSub : MethodName := ⟨RX9, "lacksSub", "(II)I"⟩
abbrev cX9_modify : ByteArray := prog_11_method_37_code
def yX9_modify : MethodName := ⟨RX9, "modify", "(IIIIII)I"⟩
abbrev cX9_turn : ByteArray := prog_11_method_38_code
def yX9_turn : MethodName := ⟨RX9, "turn", "(IIZ)I"⟩
abbrev cX9_transfer : ByteArray := prog_11_method_39_code
def yX9_transfer : MethodName := ⟨RX9, "transfer", "(II)I"⟩
abbrev cX9_unsubscribe : ByteArray := prog_11_method_40_code
def yX9_unsubscribe : MethodName := ⟨RX9, "unsubscribe", "(II)I"⟩
abbrev cX9_item : ByteArray := prog_11_method_41_code
def yX9_item : MethodName := ⟨RX9, "item", "(IIIIIZIJ)I"⟩
abbrev cX9_lacksItem : ByteArray := prog_11_method_42_code
def yX9_lacksItem : MethodName := ⟨RX9, "lacksItem", "(II)I"⟩
abbrev cX9_mode : ByteArray := prog_11_method_43_code
def yX9_mode : MethodName := ⟨RX9, "mode", "(III)I"⟩
abbrev cX9_drop : ByteArray := prog_11_method_44_code
def yX9_drop : MethodName := ⟨RX9, "drop", "(II)I"⟩
abbrev cX9_findKept : ByteArray := prog_11_method_45_code
def yX9_findKept : MethodName := ⟨RX9, "findKept", "(II)I"⟩
abbrev cX9_acknowledge : ByteArray := prog_11_method_46_code
def yX9_acknowledge : MethodName := ⟨RX9, "acknowledge", "(III)I"⟩
abbrev cX9_publish : ByteArray := prog_11_method_47_code
def yX9_publish : MethodName := ⟨RX9, "publish", "(III)I"⟩
abbrev cX9_acknowledged : ByteArray := prog_11_method_48_code
def yX9_acknowledged : MethodName := ⟨RX9, "acknowledged", "()I"⟩
abbrev cX9_again : ByteArray := prog_11_method_49_code
def yX9_again : MethodName := ⟨RX9, "again", "(III)I"⟩
abbrev cX9_mail : ByteArray := prog_11_method_50_code
def yX9_mail : MethodName := ⟨RX9, "mail", "(II)I"⟩
abbrev cX9_message : ByteArray := prog_11_method_51_code
def yX9_message : MethodName := ⟨RX9, "message", "(II)I"⟩
abbrev cX9_entry : ByteArray := prog_11_method_52_code
def yX9_entry : MethodName := ⟨RX9, "entry", "(III)J"⟩
abbrev cX9_sessionOf : ByteArray := prog_11_method_53_code
def yX9_sessionOf : MethodName := ⟨RX9, "sessionOf", "(II)I"⟩
abbrev cX9_subscription : ByteArray := prog_11_method_54_code
def yX9_subscription : MethodName := ⟨RX9, "subscription", "(II)I"⟩
abbrev cX9_itemOf : ByteArray := prog_11_method_55_code
def yX9_itemOf : MethodName := ⟨RX9, "itemOf", "(II)I"⟩
abbrev cX9_status : ByteArray := prog_11_method_56_code
def yX9_status : MethodName := ⟨RX9, "status", "(I)I"⟩
def RJx145de : String := "java/io/Serializable"
def TJx145de : u_T := fun k => match k with
  | _ => ("", "", "", false)
def tyJx145de : Nat → FieldType := fun k => match k with
  | _ => .int
abbrev wsJx145de0 : List Cond := u_ws RJx145de TJx145de 0
theorem nmJx145de : ∀ a, a < 0 → ∀ b, b < 0 → a ≠ b → (TJx145de a).2.1 ≠ (TJx145de b).2.1 := by decide +kernel
theorem tyJx145de_ok : ∀ k, k < 0 → parseFieldDescriptor (TJx145de k).2.2.1 = some (tyJx145de k) := by decide +kernel
def RJx8e188 : String := "java/lang/Cloneable"
def TJx8e188 : u_T := fun k => match k with
  | _ => ("", "", "", false)
def tyJx8e188 : Nat → FieldType := fun k => match k with
  | _ => .int
abbrev wsJx8e1880 : List Cond := u_ws RJx8e188 TJx8e188 0
theorem nmJx8e188 : ∀ a, a < 0 → ∀ b, b < 0 → a ≠ b → (TJx8e188 a).2.1 ≠ (TJx8e188 b).2.1 := by decide +kernel
theorem tyJx8e188_ok : ∀ k, k < 0 → parseFieldDescriptor (TJx8e188 k).2.2.1 = some (tyJx8e188 k) := by decide +kernel
def RJxab1ab : String := "java/lang/Iterable"
def TJxab1ab : u_T := fun k => match k with
  | _ => ("", "", "", false)
def tyJxab1ab : Nat → FieldType := fun k => match k with
  | _ => .int
abbrev wsJxab1ab0 : List Cond := u_ws RJxab1ab TJxab1ab 0
theorem nmJxab1ab : ∀ a, a < 0 → ∀ b, b < 0 → a ≠ b → (TJxab1ab a).2.1 ≠ (TJxab1ab b).2.1 := by decide +kernel
theorem tyJxab1ab_ok : ∀ k, k < 0 → parseFieldDescriptor (TJxab1ab k).2.2.1 = some (tyJxab1ab k) := by decide +kernel
def RJ9 : String := "java/lang/Math"
def TJ9 : u_T := fun k => match k with
  | _ => ("", "", "", false)
def tyJ9 : Nat → FieldType := fun k => match k with
  | _ => .int
abbrev wsJ90 : List Cond := u_ws RJ9 TJ9 0
theorem nmJ9 : ∀ a, a < 0 → ∀ b, b < 0 → a ≠ b → (TJ9 a).2.1 ≠ (TJ9 b).2.1 := by decide +kernel
theorem tyJ9_ok : ∀ k, k < 0 → parseFieldDescriptor (TJ9 k).2.2.1 = some (tyJ9 k) := by decide +kernel
abbrev cJ9_max_7cf53 : ByteArray := prog_15_method_65_code
def yJ9_max_7cf53 : MethodName := ⟨RJ9, "max", "(II)I"⟩
abbrev cJ9_max_f86c9 : ByteArray := prog_15_method_66_code
def yJ9_max_f86c9 : MethodName := ⟨RJ9, "max", "(JJ)J"⟩
abbrev cJ9_min_7cf53 : ByteArray := prog_15_method_69_code
def yJ9_min_7cf53 : MethodName := ⟨RJ9, "min", "(II)I"⟩
abbrev cJ9_min_f86c9 : ByteArray := prog_15_method_70_code
def yJ9_min_f86c9 : MethodName := ⟨RJ9, "min", "(JJ)J"⟩
def RJ10 : String := "java/lang/System"
def TJ10 : u_T := fun k => match k with
  | _ => ("", "", "", false)
def tyJ10 : Nat → FieldType := fun k => match k with
  | _ => .int
abbrev wsJ100 : List Cond := u_ws RJ10 TJ10 0
theorem nmJ10 : ∀ a, a < 0 → ∀ b, b < 0 → a ≠ b → (TJ10 a).2.1 ≠ (TJ10 b).2.1 := by decide +kernel
theorem tyJ10_ok : ∀ k, k < 0 → parseFieldDescriptor (TJ10 k).2.2.1 = some (tyJ10 k) := by decide +kernel
def RJxa1e45 : String := "java/util/AbstractCollection"
def TJxa1e45 : u_T := fun k => match k with
  | _ => ("", "", "", false)
def tyJxa1e45 : Nat → FieldType := fun k => match k with
  | _ => .int
abbrev wsJxa1e450 : List Cond := u_ws RJxa1e45 TJxa1e45 0
theorem nmJxa1e45 : ∀ a, a < 0 → ∀ b, b < 0 → a ≠ b → (TJxa1e45 a).2.1 ≠ (TJxa1e45 b).2.1 := by decide +kernel
theorem tyJxa1e45_ok : ∀ k, k < 0 → parseFieldDescriptor (TJxa1e45 k).2.2.1 = some (tyJxa1e45 k) := by decide +kernel
abbrev cJxa1e45_init_da8c8 : ByteArray := prog_17_method_1_code
def yJxa1e45_init_da8c8 : MethodName := ⟨RJxa1e45, "<init>", "()V"⟩
def RJxc12de : String := "java/util/AbstractList"
def TJxc12de : u_T := fun k => match k with
  | _ => ("", "", "", false)
def tyJxc12de : Nat → FieldType := fun k => match k with
  | _ => .int
abbrev wsJxc12de0 : List Cond := u_ws RJxc12de TJxc12de 0
theorem nmJxc12de : ∀ a, a < 0 → ∀ b, b < 0 → a ≠ b → (TJxc12de a).2.1 ≠ (TJxc12de b).2.1 := by decide +kernel
theorem tyJxc12de_ok : ∀ k, k < 0 → parseFieldDescriptor (TJxc12de k).2.2.1 = some (tyJxc12de k) := by decide +kernel
abbrev cJxc12de_init_da8c8 : ByteArray := prog_18_method_1_code
def yJxc12de_init_da8c8 : MethodName := ⟨RJxc12de, "<init>", "()V"⟩
def RJx4a65c : String := "java/util/ArrayList"
def TJx4a65c : u_T := fun k => match k with
  | 0 => ("java/util/AbstractList", "modCount", "I", false)
  | 1 => ("java/util/ArrayList", "elementData", "[Ljava/lang/Object;", false)
  | _ => ("java/util/ArrayList", "size", "I", false)
def tyJx4a65c : Nat → FieldType := fun k => match k with
  | 0 => .int
  | 1 => .array (.object "java/lang/Object")
  | _ => .int
abbrev wsJx4a65c0 : List Cond := u_ws RJx4a65c TJx4a65c 3
theorem nmJx4a65c : ∀ a, a < 3 → ∀ b, b < 3 → a ≠ b → (TJx4a65c a).2.1 ≠ (TJx4a65c b).2.1 := by decide +kernel
theorem tyJx4a65c_ok : ∀ k, k < 3 → parseFieldDescriptor (TJx4a65c k).2.2.1 = some (tyJx4a65c k) := by decide +kernel
abbrev cJx4a65c_init_da8c8 : ByteArray := prog_19_method_2_code
def yJx4a65c_init_da8c8 : MethodName := ⟨RJx4a65c, "<init>", "()V"⟩
abbrev cJx4a65c_grow_92f84 : ByteArray := prog_19_method_6_code
def yJx4a65c_grow_92f84 : MethodName := ⟨RJx4a65c, "grow", "(I)[Ljava/lang/Object;"⟩
abbrev cJx4a65c_grow_d5877 : ByteArray := prog_19_method_7_code
def yJx4a65c_grow_d5877 : MethodName := ⟨RJx4a65c, "grow", "()[Ljava/lang/Object;"⟩
abbrev cJx4a65c_size_8abf5 : ByteArray := prog_19_method_8_code
def yJx4a65c_size_8abf5 : MethodName := ⟨RJx4a65c, "size", "()I"⟩
abbrev cJx4a65c_isEmpty_aae02 : ByteArray := prog_19_method_9_code
def yJx4a65c_isEmpty_aae02 : MethodName := ⟨RJx4a65c, "isEmpty", "()Z"⟩
abbrev cJx4a65c_elementData_915e3 : ByteArray := prog_19_method_18_code
def yJx4a65c_elementData_915e3 : MethodName := ⟨RJx4a65c, "elementData", "(I)Ljava/lang/Object;"⟩
abbrev cJx4a65c_get_915e3 : ByteArray := prog_19_method_20_code
def yJx4a65c_get_915e3 : MethodName := ⟨RJx4a65c, "get", "(I)Ljava/lang/Object;"⟩
abbrev cJx4a65c_set_bcc79 : ByteArray := prog_19_method_23_code
def yJx4a65c_set_bcc79 : MethodName := ⟨RJx4a65c, "set", "(ILjava/lang/Object;)Ljava/lang/Object;"⟩
abbrev cJx4a65c_add_72be8 : ByteArray := prog_19_method_24_code
def yJx4a65c_add_72be8 : MethodName := ⟨RJx4a65c, "add", "(Ljava/lang/Object;[Ljava/lang/Object;I)V"⟩
abbrev cJx4a65c_add_9ea2d : ByteArray := prog_19_method_25_code
def yJx4a65c_add_9ea2d : MethodName := ⟨RJx4a65c, "add", "(Ljava/lang/Object;)Z"⟩
abbrev cJx4a65c_remove_915e3 : ByteArray := prog_19_method_29_code
def yJx4a65c_remove_915e3 : MethodName := ⟨RJx4a65c, "remove", "(I)Ljava/lang/Object;"⟩
abbrev cJx4a65c_fastRemove_b59b0 : ByteArray := prog_19_method_39_code
def yJx4a65c_fastRemove_b59b0 : MethodName := ⟨RJx4a65c, "fastRemove", "([Ljava/lang/Object;I)V"⟩
abbrev cJx4a65c_clear_da8c8 : ByteArray := prog_19_method_40_code
def yJx4a65c_clear_da8c8 : MethodName := ⟨RJx4a65c, "clear", "()V"⟩
def RJ7 : String := "java/util/Arrays"
def TJ7 : u_T := fun k => match k with
  | _ => ("", "", "", false)
def tyJ7 : Nat → FieldType := fun k => match k with
  | _ => .int
abbrev wsJ70 : List Cond := u_ws RJ7 TJ7 0
theorem nmJ7 : ∀ a, a < 0 → ∀ b, b < 0 → a ≠ b → (TJ7 a).2.1 ≠ (TJ7 b).2.1 := by decide +kernel
theorem tyJ7_ok : ∀ k, k < 0 → parseFieldDescriptor (TJ7 k).2.2.1 = some (tyJ7 k) := by decide +kernel
abbrev cJ7_copyOf_1904c : ByteArray := prog_20_method_119_code
def yJ7_copyOf_1904c : MethodName := ⟨RJ7, "copyOf", "([Ljava/lang/Object;I)[Ljava/lang/Object;"⟩
abbrev cJ7_copyOf_6403c : ByteArray := prog_20_method_120_code
def yJ7_copyOf_6403c : MethodName := ⟨RJ7, "copyOf", "([Ljava/lang/Object;ILjava/lang/Class;)[Ljava/lang/Object;"⟩
def RJx5ef63 : String := "java/util/Collection"
def TJx5ef63 : u_T := fun k => match k with
  | _ => ("", "", "", false)
def tyJx5ef63 : Nat → FieldType := fun k => match k with
  | _ => .int
abbrev wsJx5ef630 : List Cond := u_ws RJx5ef63 TJx5ef63 0
theorem nmJx5ef63 : ∀ a, a < 0 → ∀ b, b < 0 → a ≠ b → (TJx5ef63 a).2.1 ≠ (TJx5ef63 b).2.1 := by decide +kernel
theorem tyJx5ef63_ok : ∀ k, k < 0 → parseFieldDescriptor (TJx5ef63 k).2.2.1 = some (tyJx5ef63 k) := by decide +kernel
def RJxbd725 : String := "java/util/List"
def TJxbd725 : u_T := fun k => match k with
  | _ => ("", "", "", false)
def tyJxbd725 : Nat → FieldType := fun k => match k with
  | _ => .int
abbrev wsJxbd7250 : List Cond := u_ws RJxbd725 TJxbd725 0
theorem nmJxbd725 : ∀ a, a < 0 → ∀ b, b < 0 → a ≠ b → (TJxbd725 a).2.1 ≠ (TJxbd725 b).2.1 := by decide +kernel
theorem tyJxbd725_ok : ∀ k, k < 0 → parseFieldDescriptor (TJxbd725 k).2.2.1 = some (tyJxbd725 k) := by decide +kernel
def RJ15 : String := "java/util/Objects"
def TJ15 : u_T := fun k => match k with
  | _ => ("", "", "", false)
def tyJ15 : Nat → FieldType := fun k => match k with
  | _ => .int
abbrev wsJ150 : List Cond := u_ws RJ15 TJ15 0
theorem nmJ15 : ∀ a, a < 0 → ∀ b, b < 0 → a ≠ b → (TJ15 a).2.1 ≠ (TJ15 b).2.1 := by decide +kernel
theorem tyJ15_ok : ∀ k, k < 0 → parseFieldDescriptor (TJ15 k).2.2.1 = some (tyJ15 k) := by decide +kernel
abbrev cJ15_checkIndex_7cf53 : ByteArray := prog_23_method_17_code
def yJ15_checkIndex_7cf53 : MethodName := ⟨RJ15, "checkIndex", "(II)I"⟩
def RJxf0a74 : String := "java/util/RandomAccess"
def TJxf0a74 : u_T := fun k => match k with
  | _ => ("", "", "", false)
def tyJxf0a74 : Nat → FieldType := fun k => match k with
  | _ => .int
abbrev wsJxf0a740 : List Cond := u_ws RJxf0a74 TJxf0a74 0
theorem nmJxf0a74 : ∀ a, a < 0 → ∀ b, b < 0 → a ≠ b → (TJxf0a74 a).2.1 ≠ (TJxf0a74 b).2.1 := by decide +kernel
theorem tyJxf0a74_ok : ∀ k, k < 0 → parseFieldDescriptor (TJxf0a74 k).2.2.1 = some (tyJxf0a74 k) := by decide +kernel
def RJxa66e6 : String := "java/util/SequencedCollection"
def TJxa66e6 : u_T := fun k => match k with
  | _ => ("", "", "", false)
def tyJxa66e6 : Nat → FieldType := fun k => match k with
  | _ => .int
abbrev wsJxa66e60 : List Cond := u_ws RJxa66e6 TJxa66e6 0
theorem nmJxa66e6 : ∀ a, a < 0 → ∀ b, b < 0 → a ≠ b → (TJxa66e6 a).2.1 ≠ (TJxa66e6 b).2.1 := by decide +kernel
theorem tyJxa66e6_ok : ∀ k, k < 0 → parseFieldDescriptor (TJxa66e6 k).2.2.1 = some (tyJxa66e6 k) := by decide +kernel
def RJ8 : String := "jdk/internal/util/ArraysSupport"
def TJ8 : u_T := fun k => match k with
  | _ => ("", "", "", false)
def tyJ8 : Nat → FieldType := fun k => match k with
  | _ => .int
abbrev wsJ80 : List Cond := u_ws RJ8 TJ8 0
theorem nmJ8 : ∀ a, a < 0 → ∀ b, b < 0 → a ≠ b → (TJ8 a).2.1 ≠ (TJ8 b).2.1 := by decide +kernel
theorem tyJ8_ok : ∀ k, k < 0 → parseFieldDescriptor (TJ8 k).2.2.1 = some (tyJ8 k) := by decide +kernel
abbrev cJ8_newLength_cabcc : ByteArray := prog_26_method_27_code
def yJ8_newLength_cabcc : MethodName := ⟨RJ8, "newLength", "(III)I"⟩
abbrev cJ8_hugeLength_7cf53 : ByteArray := prog_26_method_28_code
def yJ8_hugeLength_7cf53 : MethodName := ⟨RJ8, "hugeLength", "(II)I"⟩
def RJ3 : String := "jdk/internal/util/Preconditions"
def TJ3 : u_T := fun k => match k with
  | _ => ("", "", "", false)
def tyJ3 : Nat → FieldType := fun k => match k with
  | _ => .int
abbrev wsJ30 : List Cond := u_ws RJ3 TJ3 0
theorem nmJ3 : ∀ a, a < 0 → ∀ b, b < 0 → a ≠ b → (TJ3 a).2.1 ≠ (TJ3 b).2.1 := by decide +kernel
theorem tyJ3_ok : ∀ k, k < 0 → parseFieldDescriptor (TJ3 k).2.2.1 = some (tyJ3 k) := by decide +kernel
abbrev cJ3_checkIndex_8e157 : ByteArray := prog_27_method_11_code
def yJ3_checkIndex_8e157 : MethodName := ⟨RJ3, "checkIndex", "(IILjava/util/function/BiFunction;)I"⟩
def RL : String := "WatchServerLaw"
abbrev cL_law : ByteArray := code
def yL_law : MethodName := ⟨RL, "law", "([I)Z"⟩
abbrev vwCl : List vw_C := [(RJx4a65c, TJx4a65c, 3), (RX0, TX0, 4), (RX1, TX1, 11), (RX2, TX2, 7), (RX3, TX3, 3), (RX4, TX4, 3), (RX5, TX5, 3), (RX6, TX6, 6), (RX7, TX7, 18), (RX8, TX8, 11), (RX9, TX9, 62)]
end
section
/-! THE WORDS: all of the tables' that keep over a call -/
def wsA : List Cond := lw_tbl.filter goodWord
theorem inA {w : Cond} (h : w ∈ tables_1) (g : goodWord w = true) : w ∈ wsA := List.mem_filter.mpr ⟨List.mem_append_right _ h, g⟩
theorem inP {w : Cond} (h : w ∈ k2_sels lw_privs) (g : goodWord w = true) : w ∈ wsA := List.mem_filter.mpr ⟨List.mem_append_left _ h, g⟩
theorem inA1 {w : Cond} (i : Nat) (h : tables_1_1[i]? = some w) (g : goodWord w = true) : w ∈ wsA := inA (List.mem_append_left _ (List.mem_of_getElem? h)) g
theorem inA2 {w : Cond} (i : Nat) (h : tables_1_2[i]? = some w) (g : goodWord w = true) : w ∈ wsA := inA (List.mem_append_right _ (List.mem_append_left _ (List.mem_of_getElem? h))) g
theorem inA3 {w : Cond} (i : Nat) (h : tables_1_3[i]? = some w) (g : goodWord w = true) : w ∈ wsA := inA (List.mem_append_right _ (List.mem_append_right _ (List.mem_append_left _ (List.mem_of_getElem? h)))) g
theorem inA4 {w : Cond} (i : Nat) (h : tables_1_4[i]? = some w) (g : goodWord w = true) : w ∈ wsA := inA (List.mem_append_right _ (List.mem_append_right _ (List.mem_append_right _ (List.mem_append_left _ (List.mem_of_getElem? h))))) g
theorem inA5 {w : Cond} (i : Nat) (h : tables_1_5[i]? = some w) (g : goodWord w = true) : w ∈ wsA := inA (List.mem_append_right _ (List.mem_append_right _ (List.mem_append_right _ (List.mem_append_right _ (List.mem_append_left _ (List.mem_of_getElem? h)))))) g
theorem inA6 {w : Cond} (i : Nat) (h : tables_1_6[i]? = some w) (g : goodWord w = true) : w ∈ wsA := inA (List.mem_append_right _ (List.mem_append_right _ (List.mem_append_right _ (List.mem_append_right _ (List.mem_append_right _ (List.mem_of_getElem? h)))))) g
theorem inQ {w : Cond} (i : Nat) (h : (k2_sels lw_privs)[i]? = some w) (g : goodWord w = true) : w ∈ wsA := inP (List.mem_of_getElem? h) g
theorem wsA_good : GoodIn wsA wsA := fun w h => ⟨h, good_of_word (List.mem_filter.mp h).2⟩
theorem wsA_code {w : Cond} (h : w ∈ wsA) : GoodIn wsA (w :: wsA) := fun u hu => (List.mem_cons.mp hu).elim (fun e => e ▸ wsA_good w h) (wsA_good u)
/-! THE IDEAL HEAP. Objects and arrays stand at ideal addresses kd kind index generation; a renaming ρ takes them to the machine's. -/
theorem kd_pw : ∀ (a b x y : Nat), 2 ^ a * (2 * x + 1) = 2 ^ b * (2 * y + 1) → a = b ∧ x = y
  | 0, 0, x, y, h => by simp at h; omega
  | 0, b + 1, x, y, h => by
    exfalso
    have e : 2 ^ (b + 1) * (2 * y + 1) = 2 * (2 ^ b * (2 * y + 1)) := by rw [Nat.pow_succ, Nat.mul_comm (2 ^ b) 2, Nat.mul_assoc]
    rw [e] at h
    simp at h
    omega
  | a + 1, 0, x, y, h => by
    exfalso
    have e : 2 ^ (a + 1) * (2 * x + 1) = 2 * (2 ^ a * (2 * x + 1)) := by rw [Nat.pow_succ, Nat.mul_comm (2 ^ a) 2, Nat.mul_assoc]
    rw [e] at h
    simp at h
    omega
  | a + 1, b + 1, x, y, h => by
    have e : 2 ^ (a + 1) * (2 * x + 1) = 2 * (2 ^ a * (2 * x + 1)) := by rw [Nat.pow_succ, Nat.mul_comm (2 ^ a) 2, Nat.mul_assoc]
    have f : 2 ^ (b + 1) * (2 * y + 1) = 2 * (2 ^ b * (2 * y + 1)) := by rw [Nat.pow_succ, Nat.mul_comm (2 ^ b) 2, Nat.mul_assoc]
    rw [e, f] at h
    obtain ⟨h1, h2⟩ := kd_pw a b x y (Nat.eq_of_mul_eq_mul_left (by decide) h)
    exact ⟨by rw [h1], h2⟩
def kd (k i g : Nat) : Nat := 2 ^ k * (2 * (2 ^ i * (2 * g + 1)) + 1)
theorem kd_eq {k i g k' i' g' : Nat} : kd k i g = kd k' i' g' ↔ k = k' ∧ i = i' ∧ g = g' := by
  constructor
  · intro h
    obtain ⟨h1, h2⟩ := kd_pw _ _ _ _ h
    obtain ⟨h3, h4⟩ := kd_pw _ _ _ _ h2
    exact ⟨h1, h3, h4⟩
  · rintro ⟨rfl, rfl, rfl⟩
    rfl
theorem kd_ne {k i g k' i' g' : Nat} (h : ¬ (k = k' ∧ i = i' ∧ g = g')) : kd k i g ≠ kd k' i' g' := fun q => h (kd_eq.mp q)
theorem kd_nk {k i g k' i' g' : Nat} (h : k ≠ k') : kd k i g ≠ kd k' i' g' := kd_ne fun q => h q.1
theorem kd_ni {k i g k' i' g' : Nat} (h : i ≠ i') : kd k i g ≠ kd k' i' g' := kd_ne fun q => h q.2.1
theorem kd_ng {k i g k' i' g' : Nat} (h : g ≠ g') : kd k i g ≠ kd k' i' g' := kd_ne fun q => h q.2.2
abbrev aO : Type := (Nat × vp_A) ⊕ (Nat × List Value)
abbrev aH : Type := Nat → Option aO
/-- a heap with one more, or another, cell -/
def hu (I : aH) (α : Nat) (o : aO) : aH := fun β => if β = α then some o else I β
theorem hu_s {I : aH} {α : Nat} {o : aO} : hu I α o α = some o := if_pos rfl
theorem hu_n {I : aH} {α β : Nat} {o : aO} (h : β ≠ α) : hu I α o β = I β := if_neg h
def zed : Nat := kd 0 0 0
def mirr : Nat := kd 0 1 0
def scr : Nat := kd 0 2 0
def ro (α : Nat) : Prop := α = zed ∨ α = scr
theorem ro_k {k i g : Nat} (h : k ≠ 0) : ¬ ro (kd k i g) := fun q => q.elim (kd_nk h) (kd_nk h)
def cv (ρ : Nat → Nat) : Value → Value
  | .ref a => .ref (ρ a)
  | v => v
def cA (ρ : Nat → Nat) (a : vp_A) : vp_A := (a.1, match a.2 with
  | .inr (.inr (.inr (.inr f))) => .inr (.inr (.inr (.inr (fun j => (f j).map ρ))))
  | x => x)
def cE (tC : Nat → ClassId) (ρ : Nat → Nat) : aO → va_E
  | .inl a => .inl (tC a.1, cA ρ a.2)
  | .inr o => .inr (o.1, o.2.map (cv ρ))
def dm (I : aH) (α : Nat) : Prop := I α ≠ none ∨ α = mirr
def clV (I : aH) (v : Value) : Prop := ∀ α, v = .ref α → dm I α
def clO (I : aH) (o : aO) : Prop := (∀ (t n : Nat) (f : Nat → Option Nat), o = .inl (t, n, .inr (.inr (.inr (.inr f)))) → ∀ (j α : Nat), f j = some α → dm I α) ∧ (∀ (c : Nat) (fs : List Value), o = .inr (c, fs) → ∀ v ∈ fs, clV I v)
abbrev aR (n : Nat) (f : Nat → Option Nat) : vp_A := (n, .inr (.inr (.inr (.inr f))))
abbrev aI (n : Nat) (f : Nat → Int32) : vp_A := (n, .inl f)
abbrev aL (n : Nat) (f : Nat → Int64) : vp_A := (n, .inr (.inl f))
abbrev sOb : String := "java/lang/Object"
def tyL (tC : Nat → ClassId) : List (ClassId × FieldType) := [(tC 0, .int), (tC 1, .long), (tC 2, .boolean), (tC 3, .object sOb), (tC 4, .object RX0)]
def nwL : List Cond := [.castable RX0 sOb, .castable RX1 sOb, .castable RX2 sOb, .castable RX3 sOb, .castable RX5 sOb, .castable RX6 sOb, .castable RX7 sOb, .methodLinkNest RX7 49 yX8_isWithin RX8, .methodLinkNest RX1 48 yX8_isWithin RX8, .declares ⟨sOb, "getClass", "()Ljava/lang/Class;"⟩]
/-- what the machine's tables say, at any state -/
def okU (D : va_G) (tC : Nat → ClassId) (mi : Nat) (U : State) : Prop := va_K D vwCl (tyL tC) U ∧ (∀ w ∈ nwL, va_Nw w U) ∧ va_AO sOb U ∧ va_AO RX0 U ∧ va_Mi "[Ljava/lang/Object;" mi U
theorem okU.warm {D : va_G} {tC : Nat → ClassId} {mi : Nat} {s U : State} (hW : s.WarmedH U.vm) (h : okU D tC mi s) : okU D tC mi U := by
  obtain ⟨h1, h2, h3, h4, h5⟩ := h
  refine ⟨va_K.moved hW.alike h1, ?_, va_AO.moved hW.alike h3, va_AO.moved hW.alike h4, va_Mi.moved hW.alike h5⟩
  intro w hw
  have hz := h2 w hw
  simp only [nwL, List.mem_cons, List.not_mem_nil, or_false] at hw
  rcases hw with rfl | rfl | rfl | rfl | rfl | rfl | rfl | rfl | rfl | rfl
  · exact va_Nw.warmC hW hz
  · exact va_Nw.warmC hW hz
  · exact va_Nw.warmC hW hz
  · exact va_Nw.warmC hW hz
  · exact va_Nw.warmC hW hz
  · exact va_Nw.warmC hW hz
  · exact va_Nw.warmC hW hz
  · exact va_Nw.warmM hW hz
  · exact va_Nw.warmM hW hz
  · exact va_Nw.warmD hW hz
abbrev vaZ (ρ : Nat → Nat) (A : Nat → Prop) (U : State) (H : Heap) : Prop := va_Z "java/util/ArrayList" "DEFAULTCAPACITY_EMPTY_ELEMENTDATA" "[Ljava/lang/Object;" (.ref (ρ zed)) A U H
/-- the machine's heap H is the ideal heap I, by ρ; what may be written lies in A -/
def okH (D : va_G) (tC : Nat → ClassId) (A : Nat → Prop) (ρ : Nat → Nat) (I : aH) (U : State) (H : Heap) : Prop :=
  (∀ α o, I α = some o → va_at D vwCl (ρ α, cE tC ρ o) H) ∧ (∀ α β, I α ≠ none → I β ≠ none → ρ α = ρ β → α = β) ∧ (∀ α o, I α = some o → clO I o) ∧
  (∀ α, I α ≠ none → ro α ∨ A (ρ α)) ∧ (∀ q, H.size ≤ q → A q) ∧ vaZ ρ A U H ∧ I zed = some (.inl (3, aR 0 (fun _ => none))) ∧ I mirr = none
/-- ρ, I go on from ρ0, I0 -/
def ext (ρ0 : Nat → Nat) (I0 : aH) (ρ : Nat → Nat) (I : aH) : Prop := (∀ α, dm I0 α → ρ α = ρ0 α) ∧ (∀ α, I0 α ≠ none → I α ≠ none) ∧ (∀ α, ro α → I α = I0 α)
theorem ext.rf {ρ : Nat → Nat} {I : aH} : ext ρ I ρ I := ⟨fun _ _ => rfl, fun _ h => h, fun _ _ => rfl⟩
theorem ext.tr {ρ0 ρ1 ρ2 : Nat → Nat} {I0 I1 I2 : aH} (h : ext ρ0 I0 ρ1 I1) (k : ext ρ1 I1 ρ2 I2) : ext ρ0 I0 ρ2 I2 := by
  refine ⟨fun α hα => ?_, fun α hα => k.2.1 α (h.2.1 α hα), fun α hα => (k.2.2 α hα).trans (h.2.2 α hα)⟩
  rw [k.1 α (hα.elim (fun q => Or.inl (h.2.1 α q)) Or.inr), h.1 α hα]
def hasL (ρ : Nat → Nat) (nL : Nat) (ls : Array Slot) (lv : List (Option Value)) : Prop := ls.size = nL ∧ lv_wf ls ∧ ∀ (k : Nat) (v : Value), lv[k]? = some (some v) → ls[k]? = some (.val (cv ρ v))
def clL (I : aH) (lv : List (Option Value)) : Prop := ∀ v, some v ∈ lv → clV I v
def clS (I : aH) (st : List Value) : Prop := ∀ v ∈ st, clV I v
abbrev Zt : Type := Program × Launch × Env × Room × State × MethodId × Array Value × List Frame × Method × Code × (State → Prop) × va_G × (Nat → ClassId) × (Nat → Prop) × (Nat → Nat) × aH
/-- the machine comes to Z's end from here, whatever the real heap is that I stands for -/
def V (Z : Zt) (nL : Nat) (I : aH) (lv : List (Option Value)) (st : List Value) (cells slots pc : Nat) : Prop :=
  match Z with
  | (p, l, e, R, s, m, args, below, meth, c, Q, D, tC, A, ρ0, I0) => ∀ (ρ : Nat → Nat) (H : Heap) (locs : List Loc) (ls : Array Slot), okH D tC A ρ I s H → ext ρ0 I0 ρ I → (∀ q ∈ locs, A q.base) → hasL ρ nL ls lv → clL I lv → clS I st →
    W p l e R s m args below meth c H locs cells slots Q (F0 m pc ls (st.map (cv ρ)))
/-- a method's end -/
def QcV (D : va_G) (tC : Nat → ClassId) (A : Nat → Prop) (ρ0 : Nat → Nat) (I0 : aH) (Post : Option Value → aH → Prop) : Array Value → State → Outcome → State → Prop := fun _ _ o t =>
  ∃ (r : Option Value) (I : aH) (ρ : Nat → Nat), o = .returned (r.map (cv ρ)) ∧ Post r I ∧ okH D tC A ρ I t t.heap ∧ ext ρ0 I0 ρ I ∧ (∀ v, r = some v → clV I v)
/-- what stands fast in a method's walk -/
def Fx (Z : Zt) (l0 : Launch) (R0 : Room) (cc : ByteArray) (nL : Nat) (own : String) (ret : Option FieldType) (Post : Option Value → aH → Prop) : Prop :=
  match Z with
  | (p, l, _, R, s, m, args, below, meth, c, Q, D, tC, A, ρ0, I0) => (p.tables.exec = Jvm.exec ∧ c.code = cc ∧ c.maxLocals = nL ∧ s.vm.findClass own = some m.cls ∧ ∀ w ∈ wsA, w.before args s = true) ∧ okU D tC (ρ0 mirr) s ∧ meth.locks = false ∧ meth.sig.returnType = ret ∧ l = l0 ∧ R = R0 ∧
    Q = MQ below (QcV D tC A ρ0 I0 Post) args s R0.cells R0.slots A
/-- the contract of a method at given arguments and heap -/
def AM (l : Launch) (y : MethodName) (cc : ByteArray) (maxL : Nat) (ret : Option FieldType) (rm : Room) (av : List Value) (I0 : aH) (Post : Option Value → aH → Prop) : Prop :=
  ∀ (D : va_G) (tC : Nat → ClassId) (A : Nat → Prop) (ρ0 : Nat → Nat), clS I0 av → Met l y (.code y cc maxL ret :: wsA) rm (fun a U => a = (av.map (cv ρ0)).toArray ∧ okH D tC A ρ0 I0 U U.heap ∧ okU D tC (ρ0 mirr) U) (QcV D tC A ρ0 I0 Post) rm.cells rm.slots A
theorem cv_cat (ρ : Nat → Nat) (v : Value) : (cv ρ v).category = v.category := by cases v <;> rfl
theorem clS_tl {I : aH} {v : Value} {st : List Value} (h : clS I (v :: st)) : clS I st := fun w hw => h w (List.mem_cons_of_mem _ hw)
theorem clS_hd {I : aH} {v : Value} {st : List Value} (h : clS I (v :: st)) : clV I v := h v List.mem_cons_self
theorem clS_cons {I : aH} {v : Value} {st : List Value} (h1 : clV I v) (h : clS I st) : clS I (v :: st) := fun w hw => (List.mem_cons.mp hw).elim (fun e => e ▸ h1) (h w)
theorem clV_i {I : aH} {x : Int32} : clV I (.int x) := fun _ h => by cases h
theorem clV_l {I : aH} {x : Int64} : clV I (.long x) := fun _ h => by cases h
theorem clV_n {I : aH} : clV I .null := fun _ h => by cases h
theorem clV_r {I : aH} {α : Nat} (h : I α ≠ none) : clV I (.ref α) := fun _ q => by cases q; exact Or.inl h
theorem clL_at {I : aH} {lv : List (Option Value)} {k : Nat} {v : Value} (h : clL I lv) (hk : lv[k]? = some (some v)) : clV I v := h v (List.mem_of_getElem? hk)
end
section
def isR : Value → Bool
  | .ref _ => true
  | .null => true
  | _ => false
theorem isR_or {v : Value} (h : isR v = true) : v = .null ∨ ∃ a, v = .ref a := by
  cases v <;> first | exact Or.inl rfl | exact Or.inr ⟨_, rfl⟩ | cases h
section Rows
variable {Z : Zt} {l0 : Launch} {R0 : Room} {cc : ByteArray} {nL : Nat} {own : String} {ret : Option FieldType} {Post : Option Value → aH → Prop} {I : aH} {lv : List (Option Value)} {st : List Value} {cells slots pc : Nat}
theorem V_iconst {n : Int} {v : Int32} (X : Fx Z l0 R0 cc nL own ret Post) (d : decode cc pc = .ok (.iconst n, 1)) (hv : Int32.ofInt n = v) (k : V Z nL I lv (.int v :: st) cells slots (pc + 1)) : V Z nL I lv st cells slots pc := by
  obtain ⟨p, l, e, R, s, m, args, below, meth, c, Q, D, tC, A, ρ0, I0⟩ := Z
  obtain ⟨⟨hx, hb, hml, hown, hts⟩, hU, hlk, hret, rfl, rfl, rfl⟩ := X
  intro ρ H locs ls hH hE hlo hL hcL hcS
  exact lv_iconst hx hb d hv (k ρ H locs ls hH hE hlo hL hcL (clS_cons clV_i hcS))
theorem V_bipush {n : Int} {v : Int32} (X : Fx Z l0 R0 cc nL own ret Post) (d : decode cc pc = .ok (.bipush n, 2)) (hv : (Int8.ofInt n).toInt32 = v) (k : V Z nL I lv (.int v :: st) cells slots (pc + 2)) : V Z nL I lv st cells slots pc := by
  obtain ⟨p, l, e, R, s, m, args, below, meth, c, Q, D, tC, A, ρ0, I0⟩ := Z
  obtain ⟨⟨hx, hb, hml, hown, hts⟩, hU, hlk, hret, rfl, rfl, rfl⟩ := X
  intro ρ H locs ls hH hE hlo hL hcL hcS
  exact lv_bipush hx hb d hv (k ρ H locs ls hH hE hlo hL hcL (clS_cons clV_i hcS))
theorem V_sipush {n : Int} {v : Int32} (X : Fx Z l0 R0 cc nL own ret Post) (d : decode cc pc = .ok (.sipush n, 3)) (hv : (Int16.ofInt n).toInt32 = v) (k : V Z nL I lv (.int v :: st) cells slots (pc + 3)) : V Z nL I lv st cells slots pc := by
  obtain ⟨p, l, e, R, s, m, args, below, meth, c, Q, D, tC, A, ρ0, I0⟩ := Z
  obtain ⟨⟨hx, hb, hml, hown, hts⟩, hU, hlk, hret, rfl, rfl, rfl⟩ := X
  intro ρ H locs ls hH hE hlo hL hcL hcS
  exact lv_sipush hx hb d hv (k ρ H locs ls hH hE hlo hL hcL (clS_cons clV_i hcS))
theorem V_lconst {n : Fin 2} {v : Int64} (X : Fx Z l0 R0 cc nL own ret Post) (d : decode cc pc = .ok (.lconst n, 1)) (hv : Int64.ofNat (n : Nat) = v) (k : V Z nL I lv (.long v :: st) cells slots (pc + 1)) : V Z nL I lv st cells slots pc := by
  obtain ⟨p, l, e, R, s, m, args, below, meth, c, Q, D, tC, A, ρ0, I0⟩ := Z
  obtain ⟨⟨hx, hb, hml, hown, hts⟩, hU, hlk, hret, rfl, rfl, rfl⟩ := X
  intro ρ H locs ls hH hE hlo hL hcL hcS
  exact lv_lconst hx hb d hv (k ρ H locs ls hH hE hlo hL hcL (clS_cons clV_l hcS))
theorem V_ldc {i : Nat} {v : Int32} (X : Fx Z l0 R0 cc nL own ret Post) (d : decode cc pc = .ok (.ldc i, 2)) (hc : Cond.constant own i v ∈ wsA) (k : V Z nL I lv (.int v :: st) cells slots (pc + 2)) : V Z nL I lv st cells slots pc := by
  obtain ⟨p, l, e, R, s, m, args, below, meth, c, Q, D, tC, A, ρ0, I0⟩ := Z
  obtain ⟨⟨hx, hb, hml, hown, hts⟩, hU, hlk, hret, rfl, rfl, rfl⟩ := X
  intro ρ H locs ls hH hE hlo hL hcL hcS
  exact lv_ldc hx hb hown (hts _ hc) d (k ρ H locs ls hH hE hlo hL hcL (clS_cons clV_i hcS))
theorem V_ldcw {i : Nat} {v : Int32} (X : Fx Z l0 R0 cc nL own ret Post) (d : decode cc pc = .ok (.ldc_w i, 3)) (hc : Cond.constant own i v ∈ wsA) (k : V Z nL I lv (.int v :: st) cells slots (pc + 3)) : V Z nL I lv st cells slots pc := by
  obtain ⟨p, l, e, R, s, m, args, below, meth, c, Q, D, tC, A, ρ0, I0⟩ := Z
  obtain ⟨⟨hx, hb, hml, hown, hts⟩, hU, hlk, hret, rfl, rfl, rfl⟩ := X
  intro ρ H locs ls hH hE hlo hL hcL hcS
  exact lv_ldcw hx hb hown (hts _ hc) d (k ρ H locs ls hH hE hlo hL hcL (clS_cons clV_i hcS))
theorem V_ldc2 {i : Nat} {v : Int64} (X : Fx Z l0 R0 cc nL own ret Post) (d : decode cc pc = .ok (.ldc2_w i, 3)) (hc : Cond.constantLong own i v ∈ wsA) (k : V Z nL I lv (.long v :: st) cells slots (pc + 3)) : V Z nL I lv st cells slots pc := by
  obtain ⟨p, l, e, R, s, m, args, below, meth, c, Q, D, tC, A, ρ0, I0⟩ := Z
  obtain ⟨⟨hx, hb, hml, hown, hts⟩, hU, hlk, hret, rfl, rfl, rfl⟩ := X
  intro ρ H locs ls hH hE hlo hL hcL hcS
  exact lv_ldc2 hx hb hown (hts _ hc) d (k ρ H locs ls hH hE hlo hL hcL (clS_cons clV_l hcS))
theorem V_null  (X : Fx Z l0 R0 cc nL own ret Post) (d : decode cc pc = .ok (.aconst_null, 1))  (k : V Z nL I lv (.null :: st) cells slots (pc + 1)) : V Z nL I lv st cells slots pc := by
  obtain ⟨p, l, e, R, s, m, args, below, meth, c, Q, D, tC, A, ρ0, I0⟩ := Z
  obtain ⟨⟨hx, hb, hml, hown, hts⟩, hU, hlk, hret, rfl, rfl, rfl⟩ := X
  intro ρ H locs ls hH hE hlo hL hcL hcS
  exact lv_null hx hb d (k ρ H locs ls hH hE hlo hL hcL (clS_cons clV_n hcS))
theorem V_iload_n {j : Fin 4} {x : Int32} (X : Fx Z l0 R0 cc nL own ret Post) (d : decode cc pc = .ok (.iload_n j, 1)) (h : lv[(j : Nat)]? = some (some (.int x))) (k : V Z nL I lv (.int x :: st) cells slots (pc + 1)) : V Z nL I lv st cells slots pc := by
  obtain ⟨p, l, e, R, s, m, args, below, meth, c, Q, D, tC, A, ρ0, I0⟩ := Z
  obtain ⟨⟨hx, hb, hml, hown, hts⟩, hU, hlk, hret, rfl, rfl, rfl⟩ := X
  intro ρ H locs ls hH hE hlo hL hcL hcS
  exact lv_iload_n hx hb d rfl (hL.2.2 _ _ h) (k ρ H locs ls hH hE hlo hL hcL (clS_cons clV_i hcS))
theorem V_iload {i : Nat} {x : Int32} (X : Fx Z l0 R0 cc nL own ret Post) (d : decode cc pc = .ok (.iload i, 2)) (h : lv[i]? = some (some (.int x))) (k : V Z nL I lv (.int x :: st) cells slots (pc + 2)) : V Z nL I lv st cells slots pc := by
  obtain ⟨p, l, e, R, s, m, args, below, meth, c, Q, D, tC, A, ρ0, I0⟩ := Z
  obtain ⟨⟨hx, hb, hml, hown, hts⟩, hU, hlk, hret, rfl, rfl, rfl⟩ := X
  intro ρ H locs ls hH hE hlo hL hcL hcS
  exact lv_iload hx hb d (hL.2.2 _ _ h) (k ρ H locs ls hH hE hlo hL hcL (clS_cons clV_i hcS))
theorem V_lload_n {j : Fin 4} {x : Int64} (X : Fx Z l0 R0 cc nL own ret Post) (d : decode cc pc = .ok (.lload_n j, 1)) (h : lv[(j : Nat)]? = some (some (.long x))) (k : V Z nL I lv (.long x :: st) cells slots (pc + 1)) : V Z nL I lv st cells slots pc := by
  obtain ⟨p, l, e, R, s, m, args, below, meth, c, Q, D, tC, A, ρ0, I0⟩ := Z
  obtain ⟨⟨hx, hb, hml, hown, hts⟩, hU, hlk, hret, rfl, rfl, rfl⟩ := X
  intro ρ H locs ls hH hE hlo hL hcL hcS
  exact lv_lload_n hx hb d rfl (hL.2.2 _ _ h) (k ρ H locs ls hH hE hlo hL hcL (clS_cons clV_l hcS))
theorem V_lload {i : Nat} {x : Int64} (X : Fx Z l0 R0 cc nL own ret Post) (d : decode cc pc = .ok (.lload i, 2)) (h : lv[i]? = some (some (.long x))) (k : V Z nL I lv (.long x :: st) cells slots (pc + 2)) : V Z nL I lv st cells slots pc := by
  obtain ⟨p, l, e, R, s, m, args, below, meth, c, Q, D, tC, A, ρ0, I0⟩ := Z
  obtain ⟨⟨hx, hb, hml, hown, hts⟩, hU, hlk, hret, rfl, rfl, rfl⟩ := X
  intro ρ H locs ls hH hE hlo hL hcL hcS
  exact lv_lload hx hb d (hL.2.2 _ _ h) (k ρ H locs ls hH hE hlo hL hcL (clS_cons clV_l hcS))
theorem V_aload_n {j : Fin 4} {v : Value} (X : Fx Z l0 R0 cc nL own ret Post) (d : decode cc pc = .ok (.aload_n j, 1)) (h : lv[(j : Nat)]? = some (some v)) (hr : isR v = true) (k : V Z nL I lv (v :: st) cells slots (pc + 1)) : V Z nL I lv st cells slots pc := by
  obtain ⟨p, l, e, R, s, m, args, below, meth, c, Q, D, tC, A, ρ0, I0⟩ := Z
  obtain ⟨⟨hx, hb, hml, hown, hts⟩, hU, hlk, hret, rfl, rfl, rfl⟩ := X
  intro ρ H locs ls hH hE hlo hL hcL hcS
  have h1 := hL.2.2 _ _ h
  have k1 := k ρ H locs ls hH hE hlo hL hcL (clS_cons (clL_at hcL h) hcS)
  rcases isR_or hr with rfl | ⟨a, rfl⟩
  · exact lv_aload_nN hx hb d rfl h1 k1
  · exact lv_aload_n hx hb d rfl h1 k1
theorem V_aload {i : Nat} {v : Value} (X : Fx Z l0 R0 cc nL own ret Post) (d : decode cc pc = .ok (.aload i, 2)) (h : lv[i]? = some (some v)) (hr : isR v = true) (k : V Z nL I lv (v :: st) cells slots (pc + 2)) : V Z nL I lv st cells slots pc := by
  obtain ⟨p, l, e, R, s, m, args, below, meth, c, Q, D, tC, A, ρ0, I0⟩ := Z
  obtain ⟨⟨hx, hb, hml, hown, hts⟩, hU, hlk, hret, rfl, rfl, rfl⟩ := X
  intro ρ H locs ls hH hE hlo hL hcL hcS
  have h1 := hL.2.2 _ _ h
  have k1 := k ρ H locs ls hH hE hlo hL hcL (clS_cons (clL_at hcL h) hcS)
  rcases isR_or hr with rfl | ⟨a, rfl⟩
  · exact lv_aloadN hx hb d h1 k1
  · exact lv_aload hx hb d h1 k1
theorem V_iadd {x y : Int32} (X : Fx Z l0 R0 cc nL own ret Post) (d : decode cc pc = .ok (.iadd, 1))  (k : V Z nL I lv (.int (x + y) :: st) cells slots (pc + 1)) : V Z nL I lv (.int y :: .int x :: st) cells slots pc := by
  obtain ⟨p, l, e, R, s, m, args, below, meth, c, Q, D, tC, A, ρ0, I0⟩ := Z
  obtain ⟨⟨hx, hb, hml, hown, hts⟩, hU, hlk, hret, rfl, rfl, rfl⟩ := X
  intro ρ H locs ls hH hE hlo hL hcL hcS
  exact lv_iadd hx hb d (k ρ H locs ls hH hE hlo hL hcL (clS_cons clV_i (clS_tl (clS_tl hcS))))
theorem V_isub {x y : Int32} (X : Fx Z l0 R0 cc nL own ret Post) (d : decode cc pc = .ok (.isub, 1))  (k : V Z nL I lv (.int (x - y) :: st) cells slots (pc + 1)) : V Z nL I lv (.int y :: .int x :: st) cells slots pc := by
  obtain ⟨p, l, e, R, s, m, args, below, meth, c, Q, D, tC, A, ρ0, I0⟩ := Z
  obtain ⟨⟨hx, hb, hml, hown, hts⟩, hU, hlk, hret, rfl, rfl, rfl⟩ := X
  intro ρ H locs ls hH hE hlo hL hcL hcS
  exact lv_isub hx hb d (k ρ H locs ls hH hE hlo hL hcL (clS_cons clV_i (clS_tl (clS_tl hcS))))
theorem V_imul {x y : Int32} (X : Fx Z l0 R0 cc nL own ret Post) (d : decode cc pc = .ok (.imul, 1))  (k : V Z nL I lv (.int (x * y) :: st) cells slots (pc + 1)) : V Z nL I lv (.int y :: .int x :: st) cells slots pc := by
  obtain ⟨p, l, e, R, s, m, args, below, meth, c, Q, D, tC, A, ρ0, I0⟩ := Z
  obtain ⟨⟨hx, hb, hml, hown, hts⟩, hU, hlk, hret, rfl, rfl, rfl⟩ := X
  intro ρ H locs ls hH hE hlo hL hcL hcS
  exact lv_imul hx hb d (k ρ H locs ls hH hE hlo hL hcL (clS_cons clV_i (clS_tl (clS_tl hcS))))
theorem V_iand {x y : Int32} (X : Fx Z l0 R0 cc nL own ret Post) (d : decode cc pc = .ok (.iand, 1))  (k : V Z nL I lv (.int (x &&& y) :: st) cells slots (pc + 1)) : V Z nL I lv (.int y :: .int x :: st) cells slots pc := by
  obtain ⟨p, l, e, R, s, m, args, below, meth, c, Q, D, tC, A, ρ0, I0⟩ := Z
  obtain ⟨⟨hx, hb, hml, hown, hts⟩, hU, hlk, hret, rfl, rfl, rfl⟩ := X
  intro ρ H locs ls hH hE hlo hL hcL hcS
  exact lv_iand hx hb d (k ρ H locs ls hH hE hlo hL hcL (clS_cons clV_i (clS_tl (clS_tl hcS))))
theorem V_ishr {x y : Int32} (X : Fx Z l0 R0 cc nL own ret Post) (d : decode cc pc = .ok (.ishr, 1))  (k : V Z nL I lv (.int (x >>> (y &&& 31)) :: st) cells slots (pc + 1)) : V Z nL I lv (.int y :: .int x :: st) cells slots pc := by
  obtain ⟨p, l, e, R, s, m, args, below, meth, c, Q, D, tC, A, ρ0, I0⟩ := Z
  obtain ⟨⟨hx, hb, hml, hown, hts⟩, hU, hlk, hret, rfl, rfl, rfl⟩ := X
  intro ρ H locs ls hH hE hlo hL hcL hcS
  exact lv_ishr hx hb d (k ρ H locs ls hH hE hlo hL hcL (clS_cons clV_i (clS_tl (clS_tl hcS))))
theorem V_irem {x y : Int32} (X : Fx Z l0 R0 cc nL own ret Post) (d : decode cc pc = .ok (.irem, 1)) (hne : ¬ y = 0) (k : V Z nL I lv (.int (x - x / y * y) :: st) cells slots (pc + 1)) : V Z nL I lv (.int y :: .int x :: st) cells slots pc := by
  obtain ⟨p, l, e, R, s, m, args, below, meth, c, Q, D, tC, A, ρ0, I0⟩ := Z
  obtain ⟨⟨hx, hb, hml, hown, hts⟩, hU, hlk, hret, rfl, rfl, rfl⟩ := X
  intro ρ H locs ls hH hE hlo hL hcL hcS
  exact lv_irem hx hb d hne (k ρ H locs ls hH hE hlo hL hcL (clS_cons clV_i (clS_tl (clS_tl hcS))))
theorem V_iushr {x y : Int32} (X : Fx Z l0 R0 cc nL own ret Post) (d : decode cc pc = .ok (.iushr, 1))  (k : V Z nL I lv (.int ((x.toUInt32 >>> (y.toUInt32 &&& Int32.toUInt32 31)).toInt32) :: st) cells slots (pc + 1)) : V Z nL I lv (.int y :: .int x :: st) cells slots pc := by
  obtain ⟨p, l, e, R, s, m, args, below, meth, c, Q, D, tC, A, ρ0, I0⟩ := Z
  obtain ⟨⟨hx, hb, hml, hown, hts⟩, hU, hlk, hret, rfl, rfl, rfl⟩ := X
  intro ρ H locs ls hH hE hlo hL hcL hcS
  exact lv_iushr hx hb d rfl (k ρ H locs ls hH hE hlo hL hcL (clS_cons clV_i (clS_tl (clS_tl hcS))))
theorem V_ineg {x : Int32} (X : Fx Z l0 R0 cc nL own ret Post) (d : decode cc pc = .ok (.ineg, 1))  (k : V Z nL I lv (.int (-x) :: st) cells slots (pc + 1)) : V Z nL I lv (.int x :: st) cells slots pc := by
  obtain ⟨p, l, e, R, s, m, args, below, meth, c, Q, D, tC, A, ρ0, I0⟩ := Z
  obtain ⟨⟨hx, hb, hml, hown, hts⟩, hU, hlk, hret, rfl, rfl, rfl⟩ := X
  intro ρ H locs ls hH hE hlo hL hcL hcS
  exact lv_ineg hx hb d (k ρ H locs ls hH hE hlo hL hcL (clS_cons clV_i (clS_tl hcS)))
theorem V_lsub {x y : Int64} (X : Fx Z l0 R0 cc nL own ret Post) (d : decode cc pc = .ok (.lsub, 1))  (k : V Z nL I lv (.long (x - y) :: st) cells slots (pc + 1)) : V Z nL I lv (.long y :: .long x :: st) cells slots pc := by
  obtain ⟨p, l, e, R, s, m, args, below, meth, c, Q, D, tC, A, ρ0, I0⟩ := Z
  obtain ⟨⟨hx, hb, hml, hown, hts⟩, hU, hlk, hret, rfl, rfl, rfl⟩ := X
  intro ρ H locs ls hH hE hlo hL hcL hcS
  exact lv_lsub hx hb d (k ρ H locs ls hH hE hlo hL hcL (clS_cons clV_l (clS_tl (clS_tl hcS))))
theorem V_ladd {x y : Int64} (X : Fx Z l0 R0 cc nL own ret Post) (d : decode cc pc = .ok (.ladd, 1))  (k : V Z nL I lv (.long (x + y) :: st) cells slots (pc + 1)) : V Z nL I lv (.long y :: .long x :: st) cells slots pc := by
  obtain ⟨p, l, e, R, s, m, args, below, meth, c, Q, D, tC, A, ρ0, I0⟩ := Z
  obtain ⟨⟨hx, hb, hml, hown, hts⟩, hU, hlk, hret, rfl, rfl, rfl⟩ := X
  intro ρ H locs ls hH hE hlo hL hcL hcS
  exact lv_ladd hx hb d (k ρ H locs ls hH hE hlo hL hcL (clS_cons clV_l (clS_tl (clS_tl hcS))))
theorem V_land {x y : Int64} (X : Fx Z l0 R0 cc nL own ret Post) (d : decode cc pc = .ok (.land, 1))  (k : V Z nL I lv (.long (x &&& y) :: st) cells slots (pc + 1)) : V Z nL I lv (.long y :: .long x :: st) cells slots pc := by
  obtain ⟨p, l, e, R, s, m, args, below, meth, c, Q, D, tC, A, ρ0, I0⟩ := Z
  obtain ⟨⟨hx, hb, hml, hown, hts⟩, hU, hlk, hret, rfl, rfl, rfl⟩ := X
  intro ρ H locs ls hH hE hlo hL hcL hcS
  exact lv_land hx hb d (k ρ H locs ls hH hE hlo hL hcL (clS_cons clV_l (clS_tl (clS_tl hcS))))
theorem V_lor {x y : Int64} (X : Fx Z l0 R0 cc nL own ret Post) (d : decode cc pc = .ok (.lor, 1))  (k : V Z nL I lv (.long (x ||| y) :: st) cells slots (pc + 1)) : V Z nL I lv (.long y :: .long x :: st) cells slots pc := by
  obtain ⟨p, l, e, R, s, m, args, below, meth, c, Q, D, tC, A, ρ0, I0⟩ := Z
  obtain ⟨⟨hx, hb, hml, hown, hts⟩, hU, hlk, hret, rfl, rfl, rfl⟩ := X
  intro ρ H locs ls hH hE hlo hL hcL hcS
  exact lv_lor hx hb d (k ρ H locs ls hH hE hlo hL hcL (clS_cons clV_l (clS_tl (clS_tl hcS))))
theorem V_lshl {x : Int64} {y : Int32} (X : Fx Z l0 R0 cc nL own ret Post) (d : decode cc pc = .ok (.lshl, 1))  (k : V Z nL I lv (.long (x <<< (y.toInt64 &&& 63)) :: st) cells slots (pc + 1)) : V Z nL I lv (.int y :: .long x :: st) cells slots pc := by
  obtain ⟨p, l, e, R, s, m, args, below, meth, c, Q, D, tC, A, ρ0, I0⟩ := Z
  obtain ⟨⟨hx, hb, hml, hown, hts⟩, hU, hlk, hret, rfl, rfl, rfl⟩ := X
  intro ρ H locs ls hH hE hlo hL hcL hcS
  exact lv_lshl hx hb d rfl (k ρ H locs ls hH hE hlo hL hcL (clS_cons clV_l (clS_tl (clS_tl hcS))))
theorem V_i2l {x : Int32} (X : Fx Z l0 R0 cc nL own ret Post) (d : decode cc pc = .ok (.i2l, 1))  (k : V Z nL I lv (.long x.toInt64 :: st) cells slots (pc + 1)) : V Z nL I lv (.int x :: st) cells slots pc := by
  obtain ⟨p, l, e, R, s, m, args, below, meth, c, Q, D, tC, A, ρ0, I0⟩ := Z
  obtain ⟨⟨hx, hb, hml, hown, hts⟩, hU, hlk, hret, rfl, rfl, rfl⟩ := X
  intro ρ H locs ls hH hE hlo hL hcL hcS
  exact lv_i2l hx hb d rfl (k ρ H locs ls hH hE hlo hL hcL (clS_cons clV_l (clS_tl hcS)))
theorem V_dup {v : Value} (X : Fx Z l0 R0 cc nL own ret Post) (d : decode cc pc = .ok (.dup, 1)) (h1 : v.category = 1) (k : V Z nL I lv (v :: v :: st) cells slots (pc + 1)) : V Z nL I lv (v :: st) cells slots pc := by
  obtain ⟨p, l, e, R, s, m, args, below, meth, c, Q, D, tC, A, ρ0, I0⟩ := Z
  obtain ⟨⟨hx, hb, hml, hown, hts⟩, hU, hlk, hret, rfl, rfl, rfl⟩ := X
  intro ρ H locs ls hH hE hlo hL hcL hcS
  exact lv_dup hx hb d ((cv_cat ρ _).trans h1) (k ρ H locs ls hH hE hlo hL hcL (clS_cons (clS_hd hcS) hcS))
theorem V_pop {v : Value} (X : Fx Z l0 R0 cc nL own ret Post) (d : decode cc pc = .ok (.pop, 1)) (h1 : v.category = 1) (k : V Z nL I lv st cells slots (pc + 1)) : V Z nL I lv (v :: st) cells slots pc := by
  obtain ⟨p, l, e, R, s, m, args, below, meth, c, Q, D, tC, A, ρ0, I0⟩ := Z
  obtain ⟨⟨hx, hb, hml, hown, hts⟩, hU, hlk, hret, rfl, rfl, rfl⟩ := X
  intro ρ H locs ls hH hE hlo hL hcL hcS
  exact lv_pop hx hb d ((cv_cat ρ _).trans h1) (k ρ H locs ls hH hE hlo hL hcL (clS_tl hcS))
theorem V_dup_x1 {v u : Value} (X : Fx Z l0 R0 cc nL own ret Post) (d : decode cc pc = .ok (.dup_x1, 1)) (h1 : v.category = 1) (h2 : u.category = 1) (k : V Z nL I lv (v :: u :: v :: st) cells slots (pc + 1)) : V Z nL I lv (v :: u :: st) cells slots pc := by
  obtain ⟨p, l, e, R, s, m, args, below, meth, c, Q, D, tC, A, ρ0, I0⟩ := Z
  obtain ⟨⟨hx, hb, hml, hown, hts⟩, hU, hlk, hret, rfl, rfl, rfl⟩ := X
  intro ρ H locs ls hH hE hlo hL hcL hcS
  exact lv_dup_x1 hx hb d ((cv_cat ρ _).trans h1) ((cv_cat ρ _).trans h2) (k ρ H locs ls hH hE hlo hL hcL (clS_cons (clS_hd hcS) (clS_cons (clS_hd (clS_tl hcS)) (clS_cons (clS_hd hcS) (clS_tl (clS_tl hcS))))))
theorem V_dup2 {v u : Value} (X : Fx Z l0 R0 cc nL own ret Post) (d : decode cc pc = .ok (.dup2, 1)) (h1 : v.category = 1) (h2 : u.category = 1) (k : V Z nL I lv (v :: u :: v :: u :: st) cells slots (pc + 1)) : V Z nL I lv (v :: u :: st) cells slots pc := by
  obtain ⟨p, l, e, R, s, m, args, below, meth, c, Q, D, tC, A, ρ0, I0⟩ := Z
  obtain ⟨⟨hx, hb, hml, hown, hts⟩, hU, hlk, hret, rfl, rfl, rfl⟩ := X
  intro ρ H locs ls hH hE hlo hL hcL hcS
  exact lv_dup2_11 hx hb d ((cv_cat ρ _).trans h1) ((cv_cat ρ _).trans h2) (k ρ H locs ls hH hE hlo hL hcL (clS_cons (clS_hd hcS) (clS_cons (clS_hd (clS_tl hcS)) hcS)))
theorem V_dup2l {v : Value} (X : Fx Z l0 R0 cc nL own ret Post) (d : decode cc pc = .ok (.dup2, 1)) (h1 : v.category = 2) (k : V Z nL I lv (v :: v :: st) cells slots (pc + 1)) : V Z nL I lv (v :: st) cells slots pc := by
  obtain ⟨p, l, e, R, s, m, args, below, meth, c, Q, D, tC, A, ρ0, I0⟩ := Z
  obtain ⟨⟨hx, hb, hml, hown, hts⟩, hU, hlk, hret, rfl, rfl, rfl⟩ := X
  intro ρ H locs ls hH hE hlo hL hcL hcS
  exact lv_dup2_2 hx hb d ((cv_cat ρ _).trans h1) (k ρ H locs ls hH hE hlo hL hcL (clS_cons (clS_hd hcS) hcS))
theorem V_if_eq {x : Int32} {off : Int} (X : Fx Z l0 R0 cc nL own ret Post) (d : decode cc pc = .ok (.ifCond .eq off, 3)) (tgt : Nat) (ht : (pc : Int) + off = (tgt : Int)) (kt : x = 0 → V Z nL I lv st cells slots tgt) (kf : ¬ x = 0 → V Z nL I lv st cells slots (pc + 3)) : V Z nL I lv (.int x :: st) cells slots pc := by
  obtain ⟨p, l, e, R, s, m, args, below, meth, c, Q, D, tC, A, ρ0, I0⟩ := Z
  obtain ⟨⟨hx, hb, hml, hown, hts⟩, hU, hlk, hret, rfl, rfl, rfl⟩ := X
  intro ρ H locs ls hH hE hlo hL hcL hcS
  exact lv_if_eq hx hb d ht (fun q => kt q ρ H locs ls hH hE hlo hL hcL (clS_tl hcS)) (fun q => kf q ρ H locs ls hH hE hlo hL hcL (clS_tl hcS))
theorem V_icmp_eq {x y : Int32} {off : Int} (X : Fx Z l0 R0 cc nL own ret Post) (d : decode cc pc = .ok (.if_icmp .eq off, 3)) (tgt : Nat) (ht : (pc : Int) + off = (tgt : Int)) (kt : x = y → V Z nL I lv st cells slots tgt) (kf : ¬ x = y → V Z nL I lv st cells slots (pc + 3)) : V Z nL I lv (.int y :: .int x :: st) cells slots pc := by
  obtain ⟨p, l, e, R, s, m, args, below, meth, c, Q, D, tC, A, ρ0, I0⟩ := Z
  obtain ⟨⟨hx, hb, hml, hown, hts⟩, hU, hlk, hret, rfl, rfl, rfl⟩ := X
  intro ρ H locs ls hH hE hlo hL hcL hcS
  exact lv_icmp_eq hx hb d ht (fun q => kt q ρ H locs ls hH hE hlo hL hcL (clS_tl (clS_tl hcS))) (fun q => kf q ρ H locs ls hH hE hlo hL hcL (clS_tl (clS_tl hcS)))
theorem V_if_ne {x : Int32} {off : Int} (X : Fx Z l0 R0 cc nL own ret Post) (d : decode cc pc = .ok (.ifCond .ne off, 3)) (tgt : Nat) (ht : (pc : Int) + off = (tgt : Int)) (kt : ¬ x = 0 → V Z nL I lv st cells slots tgt) (kf : x = 0 → V Z nL I lv st cells slots (pc + 3)) : V Z nL I lv (.int x :: st) cells slots pc := by
  obtain ⟨p, l, e, R, s, m, args, below, meth, c, Q, D, tC, A, ρ0, I0⟩ := Z
  obtain ⟨⟨hx, hb, hml, hown, hts⟩, hU, hlk, hret, rfl, rfl, rfl⟩ := X
  intro ρ H locs ls hH hE hlo hL hcL hcS
  exact lv_if_ne hx hb d ht (fun q => kt q ρ H locs ls hH hE hlo hL hcL (clS_tl hcS)) (fun q => kf q ρ H locs ls hH hE hlo hL hcL (clS_tl hcS))
theorem V_icmp_ne {x y : Int32} {off : Int} (X : Fx Z l0 R0 cc nL own ret Post) (d : decode cc pc = .ok (.if_icmp .ne off, 3)) (tgt : Nat) (ht : (pc : Int) + off = (tgt : Int)) (kt : ¬ x = y → V Z nL I lv st cells slots tgt) (kf : x = y → V Z nL I lv st cells slots (pc + 3)) : V Z nL I lv (.int y :: .int x :: st) cells slots pc := by
  obtain ⟨p, l, e, R, s, m, args, below, meth, c, Q, D, tC, A, ρ0, I0⟩ := Z
  obtain ⟨⟨hx, hb, hml, hown, hts⟩, hU, hlk, hret, rfl, rfl, rfl⟩ := X
  intro ρ H locs ls hH hE hlo hL hcL hcS
  exact lv_icmp_ne hx hb d ht (fun q => kt q ρ H locs ls hH hE hlo hL hcL (clS_tl (clS_tl hcS))) (fun q => kf q ρ H locs ls hH hE hlo hL hcL (clS_tl (clS_tl hcS)))
theorem V_if_lt {x : Int32} {off : Int} (X : Fx Z l0 R0 cc nL own ret Post) (d : decode cc pc = .ok (.ifCond .lt off, 3)) (tgt : Nat) (ht : (pc : Int) + off = (tgt : Int)) (kt : x < 0 → V Z nL I lv st cells slots tgt) (kf : ¬ x < 0 → V Z nL I lv st cells slots (pc + 3)) : V Z nL I lv (.int x :: st) cells slots pc := by
  obtain ⟨p, l, e, R, s, m, args, below, meth, c, Q, D, tC, A, ρ0, I0⟩ := Z
  obtain ⟨⟨hx, hb, hml, hown, hts⟩, hU, hlk, hret, rfl, rfl, rfl⟩ := X
  intro ρ H locs ls hH hE hlo hL hcL hcS
  exact lv_if_lt hx hb d ht (fun q => kt q ρ H locs ls hH hE hlo hL hcL (clS_tl hcS)) (fun q => kf q ρ H locs ls hH hE hlo hL hcL (clS_tl hcS))
theorem V_icmp_lt {x y : Int32} {off : Int} (X : Fx Z l0 R0 cc nL own ret Post) (d : decode cc pc = .ok (.if_icmp .lt off, 3)) (tgt : Nat) (ht : (pc : Int) + off = (tgt : Int)) (kt : x < y → V Z nL I lv st cells slots tgt) (kf : ¬ x < y → V Z nL I lv st cells slots (pc + 3)) : V Z nL I lv (.int y :: .int x :: st) cells slots pc := by
  obtain ⟨p, l, e, R, s, m, args, below, meth, c, Q, D, tC, A, ρ0, I0⟩ := Z
  obtain ⟨⟨hx, hb, hml, hown, hts⟩, hU, hlk, hret, rfl, rfl, rfl⟩ := X
  intro ρ H locs ls hH hE hlo hL hcL hcS
  exact lv_icmp_lt hx hb d ht (fun q => kt q ρ H locs ls hH hE hlo hL hcL (clS_tl (clS_tl hcS))) (fun q => kf q ρ H locs ls hH hE hlo hL hcL (clS_tl (clS_tl hcS)))
theorem V_if_ge {x : Int32} {off : Int} (X : Fx Z l0 R0 cc nL own ret Post) (d : decode cc pc = .ok (.ifCond .ge off, 3)) (tgt : Nat) (ht : (pc : Int) + off = (tgt : Int)) (kt : 0 ≤ x → V Z nL I lv st cells slots tgt) (kf : ¬ 0 ≤ x → V Z nL I lv st cells slots (pc + 3)) : V Z nL I lv (.int x :: st) cells slots pc := by
  obtain ⟨p, l, e, R, s, m, args, below, meth, c, Q, D, tC, A, ρ0, I0⟩ := Z
  obtain ⟨⟨hx, hb, hml, hown, hts⟩, hU, hlk, hret, rfl, rfl, rfl⟩ := X
  intro ρ H locs ls hH hE hlo hL hcL hcS
  exact lv_if_ge hx hb d ht (fun q => kt q ρ H locs ls hH hE hlo hL hcL (clS_tl hcS)) (fun q => kf q ρ H locs ls hH hE hlo hL hcL (clS_tl hcS))
theorem V_icmp_ge {x y : Int32} {off : Int} (X : Fx Z l0 R0 cc nL own ret Post) (d : decode cc pc = .ok (.if_icmp .ge off, 3)) (tgt : Nat) (ht : (pc : Int) + off = (tgt : Int)) (kt : y ≤ x → V Z nL I lv st cells slots tgt) (kf : ¬ y ≤ x → V Z nL I lv st cells slots (pc + 3)) : V Z nL I lv (.int y :: .int x :: st) cells slots pc := by
  obtain ⟨p, l, e, R, s, m, args, below, meth, c, Q, D, tC, A, ρ0, I0⟩ := Z
  obtain ⟨⟨hx, hb, hml, hown, hts⟩, hU, hlk, hret, rfl, rfl, rfl⟩ := X
  intro ρ H locs ls hH hE hlo hL hcL hcS
  exact lv_icmp_ge hx hb d ht (fun q => kt q ρ H locs ls hH hE hlo hL hcL (clS_tl (clS_tl hcS))) (fun q => kf q ρ H locs ls hH hE hlo hL hcL (clS_tl (clS_tl hcS)))
theorem V_if_gt {x : Int32} {off : Int} (X : Fx Z l0 R0 cc nL own ret Post) (d : decode cc pc = .ok (.ifCond .gt off, 3)) (tgt : Nat) (ht : (pc : Int) + off = (tgt : Int)) (kt : 0 < x → V Z nL I lv st cells slots tgt) (kf : ¬ 0 < x → V Z nL I lv st cells slots (pc + 3)) : V Z nL I lv (.int x :: st) cells slots pc := by
  obtain ⟨p, l, e, R, s, m, args, below, meth, c, Q, D, tC, A, ρ0, I0⟩ := Z
  obtain ⟨⟨hx, hb, hml, hown, hts⟩, hU, hlk, hret, rfl, rfl, rfl⟩ := X
  intro ρ H locs ls hH hE hlo hL hcL hcS
  exact lv_if_gt hx hb d ht (fun q => kt q ρ H locs ls hH hE hlo hL hcL (clS_tl hcS)) (fun q => kf q ρ H locs ls hH hE hlo hL hcL (clS_tl hcS))
theorem V_icmp_gt {x y : Int32} {off : Int} (X : Fx Z l0 R0 cc nL own ret Post) (d : decode cc pc = .ok (.if_icmp .gt off, 3)) (tgt : Nat) (ht : (pc : Int) + off = (tgt : Int)) (kt : y < x → V Z nL I lv st cells slots tgt) (kf : ¬ y < x → V Z nL I lv st cells slots (pc + 3)) : V Z nL I lv (.int y :: .int x :: st) cells slots pc := by
  obtain ⟨p, l, e, R, s, m, args, below, meth, c, Q, D, tC, A, ρ0, I0⟩ := Z
  obtain ⟨⟨hx, hb, hml, hown, hts⟩, hU, hlk, hret, rfl, rfl, rfl⟩ := X
  intro ρ H locs ls hH hE hlo hL hcL hcS
  exact lv_icmp_gt hx hb d ht (fun q => kt q ρ H locs ls hH hE hlo hL hcL (clS_tl (clS_tl hcS))) (fun q => kf q ρ H locs ls hH hE hlo hL hcL (clS_tl (clS_tl hcS)))
theorem V_if_le {x : Int32} {off : Int} (X : Fx Z l0 R0 cc nL own ret Post) (d : decode cc pc = .ok (.ifCond .le off, 3)) (tgt : Nat) (ht : (pc : Int) + off = (tgt : Int)) (kt : x ≤ 0 → V Z nL I lv st cells slots tgt) (kf : ¬ x ≤ 0 → V Z nL I lv st cells slots (pc + 3)) : V Z nL I lv (.int x :: st) cells slots pc := by
  obtain ⟨p, l, e, R, s, m, args, below, meth, c, Q, D, tC, A, ρ0, I0⟩ := Z
  obtain ⟨⟨hx, hb, hml, hown, hts⟩, hU, hlk, hret, rfl, rfl, rfl⟩ := X
  intro ρ H locs ls hH hE hlo hL hcL hcS
  exact lv_if_le hx hb d ht (fun q => kt q ρ H locs ls hH hE hlo hL hcL (clS_tl hcS)) (fun q => kf q ρ H locs ls hH hE hlo hL hcL (clS_tl hcS))
theorem V_icmp_le {x y : Int32} {off : Int} (X : Fx Z l0 R0 cc nL own ret Post) (d : decode cc pc = .ok (.if_icmp .le off, 3)) (tgt : Nat) (ht : (pc : Int) + off = (tgt : Int)) (kt : x ≤ y → V Z nL I lv st cells slots tgt) (kf : ¬ x ≤ y → V Z nL I lv st cells slots (pc + 3)) : V Z nL I lv (.int y :: .int x :: st) cells slots pc := by
  obtain ⟨p, l, e, R, s, m, args, below, meth, c, Q, D, tC, A, ρ0, I0⟩ := Z
  obtain ⟨⟨hx, hb, hml, hown, hts⟩, hU, hlk, hret, rfl, rfl, rfl⟩ := X
  intro ρ H locs ls hH hE hlo hL hcL hcS
  exact lv_icmp_le hx hb d ht (fun q => kt q ρ H locs ls hH hE hlo hL hcL (clS_tl (clS_tl hcS))) (fun q => kf q ρ H locs ls hH hE hlo hL hcL (clS_tl (clS_tl hcS)))
theorem V_goto {off : Int} (X : Fx Z l0 R0 cc nL own ret Post) (d : decode cc pc = .ok (.goto off, 3)) (tgt : Nat) (ht : (pc : Int) + off = (tgt : Int)) (k : V Z nL I lv st cells slots tgt) : V Z nL I lv st cells slots pc := by
  obtain ⟨p, l, e, R, s, m, args, below, meth, c, Q, D, tC, A, ρ0, I0⟩ := Z
  obtain ⟨⟨hx, hb, hml, hown, hts⟩, hU, hlk, hret, rfl, rfl, rfl⟩ := X
  intro ρ H locs ls hH hE hlo hL hcL hcS
  exact lv_goto hx hb d ht (k ρ H locs ls hH hE hlo hL hcL hcS)
theorem V_ifnull {α : Nat} {off : Int} (X : Fx Z l0 R0 cc nL own ret Post) (d : decode cc pc = .ok (.ifnull off, 3))  (k : V Z nL I lv st cells slots (pc + 3)) : V Z nL I lv (.ref α :: st) cells slots pc := by
  obtain ⟨p, l, e, R, s, m, args, below, meth, c, Q, D, tC, A, ρ0, I0⟩ := Z
  obtain ⟨⟨hx, hb, hml, hown, hts⟩, hU, hlk, hret, rfl, rfl, rfl⟩ := X
  intro ρ H locs ls hH hE hlo hL hcL hcS
  exact lv_ifnull hx hb d (k ρ H locs ls hH hE hlo hL hcL (clS_tl hcS))
theorem V_ifnonnull {α : Nat} {off : Int} (X : Fx Z l0 R0 cc nL own ret Post) (d : decode cc pc = .ok (.ifnonnull off, 3)) (tgt : Nat) (ht : (pc : Int) + off = (tgt : Int)) (k : V Z nL I lv st cells slots tgt) : V Z nL I lv (.ref α :: st) cells slots pc := by
  obtain ⟨p, l, e, R, s, m, args, below, meth, c, Q, D, tC, A, ρ0, I0⟩ := Z
  obtain ⟨⟨hx, hb, hml, hown, hts⟩, hU, hlk, hret, rfl, rfl, rfl⟩ := X
  intro ρ H locs ls hH hE hlo hL hcL hcS
  exact lv_ifnonnull hx hb d ht (k ρ H locs ls hH hE hlo hL hcL (clS_tl hcS))
theorem V_ifnullN {off : Int} (X : Fx Z l0 R0 cc nL own ret Post) (d : decode cc pc = .ok (.ifnull off, 3)) (tgt : Nat) (ht : (pc : Int) + off = (tgt : Int)) (k : V Z nL I lv st cells slots tgt) : V Z nL I lv (.null :: st) cells slots pc := by
  obtain ⟨p, l, e, R, s, m, args, below, meth, c, Q, D, tC, A, ρ0, I0⟩ := Z
  obtain ⟨⟨hx, hb, hml, hown, hts⟩, hU, hlk, hret, rfl, rfl, rfl⟩ := X
  intro ρ H locs ls hH hE hlo hL hcL hcS
  exact lv_ifnullN hx hb d ht (k ρ H locs ls hH hE hlo hL hcL (clS_tl hcS))
theorem V_ifnonnullN {off : Int} (X : Fx Z l0 R0 cc nL own ret Post) (d : decode cc pc = .ok (.ifnonnull off, 3))  (k : V Z nL I lv st cells slots (pc + 3)) : V Z nL I lv (.null :: st) cells slots pc := by
  obtain ⟨p, l, e, R, s, m, args, below, meth, c, Q, D, tC, A, ρ0, I0⟩ := Z
  obtain ⟨⟨hx, hb, hml, hown, hts⟩, hU, hlk, hret, rfl, rfl, rfl⟩ := X
  intro ρ H locs ls hH hE hlo hL hcL hcS
  exact lv_ifnonnullN hx hb d (k ρ H locs ls hH hE hlo hL hcL (clS_tl hcS))
theorem V_acmp_eq {α β : Nat} {off : Int} (X : Fx Z l0 R0 cc nL own ret Post) (d : decode cc pc = .ok (.if_acmp .eq off, 3)) (tgt : Nat) (ht : (pc : Int) + off = (tgt : Int)) (hα : I α ≠ none ∨ α = β) (hβ : I β ≠ none ∨ α = β) (kt : α = β → V Z nL I lv st cells slots tgt) (kf : ¬ α = β → V Z nL I lv st cells slots (pc + 3)) : V Z nL I lv (.ref β :: .ref α :: st) cells slots pc := by
  obtain ⟨p, l, e, R, s, m, args, below, meth, c, Q, D, tC, A, ρ0, I0⟩ := Z
  obtain ⟨⟨hx, hb, hml, hown, hts⟩, hU, hlk, hret, rfl, rfl, rfl⟩ := X
  intro ρ H locs ls hH hE hlo hL hcL hcS
  have hi : (some (ρ α) = some (ρ β)) ↔ α = β := by
    constructor
    · intro q
      rcases hα with h1 | h1
      · rcases hβ with h2 | h2
        · exact hH.2.1 α β h1 h2 (Option.some.inj q)
        · exact h2
      · exact h1
    · rintro rfl
      rfl
  exact lv_acmp_eq (rx := some (ρ α)) (ry := some (ρ β)) hx hb d ht (fun q => kt (hi.mp q) ρ H locs ls hH hE hlo hL hcL (clS_tl (clS_tl hcS))) (fun q => kf (fun z => q (hi.mpr z)) ρ H locs ls hH hE hlo hL hcL (clS_tl (clS_tl hcS)))
theorem V_acmp_ne {α β : Nat} {off : Int} (X : Fx Z l0 R0 cc nL own ret Post) (d : decode cc pc = .ok (.if_acmp .ne off, 3)) (tgt : Nat) (ht : (pc : Int) + off = (tgt : Int)) (hα : I α ≠ none ∨ α = β) (hβ : I β ≠ none ∨ α = β) (kt : ¬ α = β → V Z nL I lv st cells slots tgt) (kf : α = β → V Z nL I lv st cells slots (pc + 3)) : V Z nL I lv (.ref β :: .ref α :: st) cells slots pc := by
  obtain ⟨p, l, e, R, s, m, args, below, meth, c, Q, D, tC, A, ρ0, I0⟩ := Z
  obtain ⟨⟨hx, hb, hml, hown, hts⟩, hU, hlk, hret, rfl, rfl, rfl⟩ := X
  intro ρ H locs ls hH hE hlo hL hcL hcS
  have hi : (some (ρ α) = some (ρ β)) ↔ α = β := by
    constructor
    · intro q
      rcases hα with h1 | h1
      · rcases hβ with h2 | h2
        · exact hH.2.1 α β h1 h2 (Option.some.inj q)
        · exact h2
      · exact h1
    · rintro rfl
      rfl
  exact lv_acmp_ne (rx := some (ρ α)) (ry := some (ρ β)) hx hb d ht (fun q => kt (fun z => q (hi.mpr z)) ρ H locs ls hH hE hlo hL hcL (clS_tl (clS_tl hcS))) (fun q => kf (hi.mp q) ρ H locs ls hH hE hlo hL hcL (clS_tl (clS_tl hcS)))
theorem V_tableOut {dflt lo hi : Int} {offs : Array Int} {len : Nat} {x : Int32} (X : Fx Z l0 R0 cc nL own ret Post) (d : decode cc pc = .ok (.tableswitch dflt lo hi offs, len)) (h : x.toInt < lo ∨ hi < x.toInt) (tgt : Nat) (ht : (pc : Int) + dflt = (tgt : Int)) (k : V Z nL I lv st cells slots tgt) : V Z nL I lv (.int x :: st) cells slots pc := by
  obtain ⟨p, l, e, R, s, m, args, below, meth, c, Q, D, tC, A, ρ0, I0⟩ := Z
  obtain ⟨⟨hx, hb, hml, hown, hts⟩, hU, hlk, hret, rfl, rfl, rfl⟩ := X
  intro ρ H locs ls hH hE hlo hL hcL hcS
  exact lv_tableOut hx hb d h ht (k ρ H locs ls hH hE hlo hL hcL (clS_tl hcS))
theorem V_tableIn {dflt lo hi : Int} {offs : Array Int} {len : Nat} {x : Int32} {off : Int} (X : Fx Z l0 R0 cc nL own ret Post) (d : decode cc pc = .ok (.tableswitch dflt lo hi offs, len)) (h1 : ¬ x.toInt < lo) (h2 : ¬ hi < x.toInt) (ho : offs[(x.toInt - lo).toNat]? = some off) (tgt : Nat) (ht : (pc : Int) + off = (tgt : Int)) (k : V Z nL I lv st cells slots tgt) : V Z nL I lv (.int x :: st) cells slots pc := by
  obtain ⟨p, l, e, R, s, m, args, below, meth, c, Q, D, tC, A, ρ0, I0⟩ := Z
  obtain ⟨⟨hx, hb, hml, hown, hts⟩, hU, hlk, hret, rfl, rfl, rfl⟩ := X
  intro ρ H locs ls hH hE hlo hL hcL hcS
  exact lv_tableIn hx hb d h1 h2 ho ht (k ρ H locs ls hH hE hlo hL hcL (clS_tl hcS))
theorem V_lcmp {x y : Int64} (X : Fx Z l0 R0 cc nL own ret Post) (d : decode cc pc = .ok (.lcmp, 1)) (k : V Z nL I lv (.int (lg_cmp x y) :: st) cells slots (pc + 1)) : V Z nL I lv (.long y :: .long x :: st) cells slots pc := by
  obtain ⟨p, l, e, R, s, m, args, below, meth, c, Q, D, tC, A, ρ0, I0⟩ := Z
  obtain ⟨⟨hx, hb, hml, hown, hts⟩, hU, hlk, hret, rfl, rfl, rfl⟩ := X
  intro ρ H locs ls hH hE hlo hL hcL hcS
  exact W.lcmp hx hb d (k ρ H locs ls hH hE hlo hL hcL (clS_cons clV_i (clS_tl (clS_tl hcS))))
end Rows
end
section
/-! locals -/
def asL (ρ : Nat → Nat) (lv : List (Option Value)) : List (Nat × Value) := (List.range lv.length).filterMap (fun k => match lv[k]? with
  | some (some v) => some (k, cv ρ v)
  | _ => none)
theorem asL_of {ρ : Nat → Nat} {lv : List (Option Value)} {q : Nat × Value} (h : q ∈ asL ρ lv) : ∃ v, lv[q.1]? = some (some v) ∧ q.2 = cv ρ v := by
  obtain ⟨k, -, hk⟩ := List.mem_filterMap.mp h
  split at hk
  · rename_i v hv
    cases hk
    exact ⟨v, hv, rfl⟩
  · cases hk
theorem asL_in {ρ : Nat → Nat} {lv : List (Option Value)} {k : Nat} {v : Value} (h : lv[k]? = some (some v)) : (k, cv ρ v) ∈ asL ρ lv := by
  refine List.mem_filterMap.mpr ⟨k, List.mem_range.mpr (List.getElem?_eq_some_iff.mp h).1, ?_⟩
  rw [h]
theorem hasL.list {ρ : Nat → Nat} {nL : Nat} {ls : Array Slot} {lv : List (Option Value)} (h : hasL ρ nL ls lv) : lv_has ls nL (asL ρ lv) := by
  refine ⟨h.1, h.2.1, fun q hq => ?_⟩
  obtain ⟨v, h1, h2⟩ := asL_of hq
  rw [h2]
  exact h.2.2 _ _ h1
/-- no long stands just ahead of place i -/
def nsl (lv : List (Option Value)) (i : Nat) : Bool := match i with
  | 0 => true
  | k + 1 => match lv[k]? with
    | some (some v) => v.category == 1
    | _ => true
theorem nsl_spec {lv : List (Option Value)} {i k : Nat} {v : Value} (h : nsl lv i = true) (hk : k + 1 = i) (hv : lv[k]? = some (some v)) : v.category = 1 := by
  subst hk
  simp only [nsl, hv] at h
  simpa using h
theorem hasL.set1 {ρ : Nat → Nat} {nL : Nat} {ls : Array Slot} {lv : List (Option Value)} {i : Nat} {v : Value} (hn : nsl lv i = true) (h : lv_has ls nL ((i, cv ρ v) :: (asL ρ lv).filter (fun q => !(q.1 == i) && !(q.1 + 1 == i && q.2.category == 2)))) : hasL ρ nL ls (lv.set i (some v)) := by
  refine ⟨h.1, h.2.1, fun k w hk => ?_⟩
  rw [List.getElem?_set] at hk
  by_cases hki : i = k
  · subst hki
    rw [if_pos rfl] at hk
    split at hk
    · cases hk
      exact h.2.2 _ List.mem_cons_self
    · cases hk
  · rw [if_neg hki] at hk
    refine h.2.2 (k, cv ρ w) (List.mem_cons_of_mem _ (List.mem_filter.mpr ⟨asL_in hk, ?_⟩))
    have h1 : (k == i) = false := by simpa using fun q => hki q.symm
    simp only [h1, Bool.not_false, Bool.true_and]
    by_cases h2 : k + 1 = i
    · have h3 := nsl_spec hn h2 hk
      simp [cv_cat, h3]
    · have h4 : (k + 1 == i) = false := by simpa using h2
      simp [h4]
theorem hasL.set2 {ρ : Nat → Nat} {nL : Nat} {ls : Array Slot} {lv : List (Option Value)} {i : Nat} {v : Value} (hn : nsl lv i = true) (h : lv_has ls nL ((i, cv ρ v) :: (asL ρ lv).filter (fun q => !(q.1 == i) && (!(q.1 == i + 1) && !(q.1 + 1 == i && q.2.category == 2))))) : hasL ρ nL ls ((lv.set i (some v)).set (i + 1) none) := by
  refine ⟨h.1, h.2.1, fun k w hk => ?_⟩
  rw [List.getElem?_set] at hk
  by_cases hki' : i + 1 = k
  · subst hki'
    rw [if_pos rfl] at hk
    split at hk <;> cases hk
  rw [if_neg hki', List.getElem?_set] at hk
  by_cases hki : i = k
  · subst hki
    rw [if_pos rfl] at hk
    split at hk
    · cases hk
      exact h.2.2 _ List.mem_cons_self
    · cases hk
  · rw [if_neg hki] at hk
    refine h.2.2 (k, cv ρ w) (List.mem_cons_of_mem _ (List.mem_filter.mpr ⟨asL_in hk, ?_⟩))
    have h1 : (k == i) = false := by simpa using fun q => hki q.symm
    have h5 : (k == i + 1) = false := by simpa using fun q => hki' q.symm
    simp only [h1, h5, Bool.not_false, Bool.true_and]
    by_cases h2 : k + 1 = i
    · have h3 := nsl_spec hn h2 hk
      simp [cv_cat, h3]
    · have h4 : (k + 1 == i) = false := by simpa using h2
      simp [h4]
theorem clL_set {I : aH} {lv : List (Option Value)} {i : Nat} {v : Value} (h : clL I lv) (hv : clV I v) : clL I (lv.set i (some v)) := by
  intro w hw
  rcases List.mem_or_eq_of_mem_set hw with q | q
  · exact h w q
  · cases q
    exact hv
theorem clL_setN {I : aH} {lv : List (Option Value)} {i : Nat} (h : clL I lv) : clL I (lv.set i none) := by
  intro w hw
  rcases List.mem_or_eq_of_mem_set hw with q | q
  · exact h w q
  · cases q
section Stores
variable {Z : Zt} {l0 : Launch} {R0 : Room} {cc : ByteArray} {nL : Nat} {own : String} {ret : Option FieldType} {Post : Option Value → aH → Prop} {I : aH} {lv : List (Option Value)} {st : List Value} {cells slots pc : Nat}
theorem V_istore_n {j : Fin 4} {x : Int32} (X : Fx Z l0 R0 cc nL own ret Post) (d : decode cc pc = .ok (.istore_n j, 1)) (hi : (j : Nat) < nL) (hn : nsl lv j = true) (k : V Z nL I (lv.set j (some (.int x))) st cells slots (pc + 1)) : V Z nL I lv (.int x :: st) cells slots pc := by
  obtain ⟨p, l, e, R, s, m, args, below, meth, c, Q, D, tC, A, ρ0, I0⟩ := Z
  obtain ⟨⟨hx, hb, hml, hown, hts⟩, hU, hlk, hret, rfl, rfl, rfl⟩ := X
  intro ρ H locs ls hH hE hlo hL hcL hcS
  exact lv_istore_n hx hb d rfl hL.list hi rfl (fun ls' h' => k ρ H locs ls' hH hE hlo (hasL.set1 (v := .int x) hn h') (clL_set hcL clV_i) (clS_tl hcS))
theorem V_istore {i : Nat} {x : Int32} (X : Fx Z l0 R0 cc nL own ret Post) (d : decode cc pc = .ok (.istore i, 2)) (hi : i < nL) (hn : nsl lv i = true) (k : V Z nL I (lv.set i (some (.int x))) st cells slots (pc + 2)) : V Z nL I lv (.int x :: st) cells slots pc := by
  obtain ⟨p, l, e, R, s, m, args, below, meth, c, Q, D, tC, A, ρ0, I0⟩ := Z
  obtain ⟨⟨hx, hb, hml, hown, hts⟩, hU, hlk, hret, rfl, rfl, rfl⟩ := X
  intro ρ H locs ls hH hE hlo hL hcL hcS
  exact lv_istore hx hb d hL.list hi rfl (fun ls' h' => k ρ H locs ls' hH hE hlo (hasL.set1 (v := .int x) hn h') (clL_set hcL clV_i) (clS_tl hcS))
theorem V_lstore_n {j : Fin 4} {x : Int64} (X : Fx Z l0 R0 cc nL own ret Post) (d : decode cc pc = .ok (.lstore_n j, 1)) (hi : (j : Nat) + 1 < nL) (hn : nsl lv j = true) (k : V Z nL I ((lv.set j (some (.long x))).set ((j : Nat) + 1) none) st cells slots (pc + 1)) : V Z nL I lv (.long x :: st) cells slots pc := by
  obtain ⟨p, l, e, R, s, m, args, below, meth, c, Q, D, tC, A, ρ0, I0⟩ := Z
  obtain ⟨⟨hx, hb, hml, hown, hts⟩, hU, hlk, hret, rfl, rfl, rfl⟩ := X
  intro ρ H locs ls hH hE hlo hL hcL hcS
  exact lv_lstore_n hx hb d rfl hL.list hi rfl (fun ls' h' => k ρ H locs ls' hH hE hlo (hasL.set2 (v := .long x) hn h') (clL_setN (clL_set hcL clV_l)) (clS_tl hcS))
theorem V_lstore {i : Nat} {x : Int64} (X : Fx Z l0 R0 cc nL own ret Post) (d : decode cc pc = .ok (.lstore i, 2)) (hi : i + 1 < nL) (hn : nsl lv i = true) (k : V Z nL I ((lv.set i (some (.long x))).set (i + 1) none) st cells slots (pc + 2)) : V Z nL I lv (.long x :: st) cells slots pc := by
  obtain ⟨p, l, e, R, s, m, args, below, meth, c, Q, D, tC, A, ρ0, I0⟩ := Z
  obtain ⟨⟨hx, hb, hml, hown, hts⟩, hU, hlk, hret, rfl, rfl, rfl⟩ := X
  intro ρ H locs ls hH hE hlo hL hcL hcS
  exact lv_lstore hx hb d hL.list hi rfl (fun ls' h' => k ρ H locs ls' hH hE hlo (hasL.set2 (v := .long x) hn h') (clL_setN (clL_set hcL clV_l)) (clS_tl hcS))
theorem V_astore_n {j : Fin 4} {v : Value} (X : Fx Z l0 R0 cc nL own ret Post) (d : decode cc pc = .ok (.astore_n j, 1)) (hi : (j : Nat) < nL) (hn : nsl lv j = true) (hr : isR v = true) (k : V Z nL I (lv.set j (some v)) st cells slots (pc + 1)) : V Z nL I lv (v :: st) cells slots pc := by
  obtain ⟨p, l, e, R, s, m, args, below, meth, c, Q, D, tC, A, ρ0, I0⟩ := Z
  obtain ⟨⟨hx, hb, hml, hown, hts⟩, hU, hlk, hret, rfl, rfl, rfl⟩ := X
  intro ρ H locs ls hH hE hlo hL hcL hcS
  rcases isR_or hr with rfl | ⟨a, rfl⟩
  · exact lv_astore_nN hx hb d rfl hL.list hi rfl (fun ls' h' => k ρ H locs ls' hH hE hlo (hasL.set1 (v := .null) hn h') (clL_set hcL clV_n) (clS_tl hcS))
  · exact lv_astore_n hx hb d rfl hL.list hi rfl (fun ls' h' => k ρ H locs ls' hH hE hlo (hasL.set1 (v := .ref a) hn h') (clL_set hcL (clS_hd hcS)) (clS_tl hcS))
theorem V_astore {i : Nat} {v : Value} (X : Fx Z l0 R0 cc nL own ret Post) (d : decode cc pc = .ok (.astore i, 2)) (hi : i < nL) (hn : nsl lv i = true) (hr : isR v = true) (k : V Z nL I (lv.set i (some v)) st cells slots (pc + 2)) : V Z nL I lv (v :: st) cells slots pc := by
  obtain ⟨p, l, e, R, s, m, args, below, meth, c, Q, D, tC, A, ρ0, I0⟩ := Z
  obtain ⟨⟨hx, hb, hml, hown, hts⟩, hU, hlk, hret, rfl, rfl, rfl⟩ := X
  intro ρ H locs ls hH hE hlo hL hcL hcS
  rcases isR_or hr with rfl | ⟨a, rfl⟩
  · exact lv_astoreN hx hb d hL.list hi rfl (fun ls' h' => k ρ H locs ls' hH hE hlo (hasL.set1 (v := .null) hn h') (clL_set hcL clV_n) (clS_tl hcS))
  · exact lv_astore hx hb d hL.list hi rfl (fun ls' h' => k ρ H locs ls' hH hE hlo (hasL.set1 (v := .ref a) hn h') (clL_set hcL (clS_hd hcS)) (clS_tl hcS))
theorem V_iinc {i : Nat} {n : Int} {x : Int32} (X : Fx Z l0 R0 cc nL own ret Post) (d : decode cc pc = .ok (.iinc i n, 3)) (h : lv[i]? = some (some (.int x))) (hi : i < nL) (hn : nsl lv i = true) (v : Int32) (hv : x + Int32.ofInt n = v) (k : V Z nL I (lv.set i (some (.int v))) st cells slots (pc + 3)) : V Z nL I lv st cells slots pc := by
  obtain ⟨p, l, e, R, s, m, args, below, meth, c, Q, D, tC, A, ρ0, I0⟩ := Z
  obtain ⟨⟨hx, hb, hml, hown, hts⟩, hU, hlk, hret, rfl, rfl, rfl⟩ := X
  intro ρ H locs ls hH hE hlo hL hcL hcS
  obtain ⟨k0, hk0⟩ := List.mem_iff_getElem?.mp (asL_in (ρ := ρ) h)
  exact lv_iinc (k := k0) hx hb d hL.list hk0 hv hi rfl (fun ls' h' => k ρ H locs ls' hH hE hlo (hasL.set1 (v := .int v) hn h') (clL_set hcL clV_i) hcS)
end Stores
end
section
/-! writing and making in the ideal heap -/
theorem cv_congr {I : aH} {ρ ρ' : Nat → Nat} (h : ∀ β, dm I β → ρ' β = ρ β) {v : Value} (hv : clV I v) : cv ρ' v = cv ρ v := by
  cases v with
  | ref a => simp only [cv]; rw [h a (hv a rfl)]
  | _ => rfl
theorem cvS_congr {I : aH} {ρ ρ' : Nat → Nat} (h : ∀ β, dm I β → ρ' β = ρ β) {st : List Value} (hv : clS I st) : st.map (cv ρ') = st.map (cv ρ) := List.map_congr_left fun v hm => cv_congr h (hv v hm)
theorem cE_congr {I : aH} {tC : Nat → ClassId} {ρ ρ' : Nat → Nat} (h : ∀ β, dm I β → ρ' β = ρ β) {o : aO} (ho : clO I o) : cE tC ρ' o = cE tC ρ o := by
  obtain ⟨t, n, f⟩ | ⟨c, fs⟩ := o
  · match f, ho with
    | .inl f, _ => rfl
    | .inr (.inl f), _ => rfl
    | .inr (.inr (.inl f)), _ => rfl
    | .inr (.inr (.inr (.inl f))), _ => rfl
    | .inr (.inr (.inr (.inr f))), ho =>
      have e : (fun j => (f j).map ρ') = (fun j => (f j).map ρ) := by
        funext j
        cases hj : f j with
        | none => rfl
        | some α => simp only [Option.map_some]; rw [h α (ho.1 t n f rfl j α hj)]
      simp only [cE, cA, e]
  · simp only [cE]
    rw [List.map_congr_left (fun v hm => cv_congr h (ho.2 c fs rfl v hm))]
theorem hasL.to {I : aH} {ρ ρ' : Nat → Nat} {nL : Nat} {ls : Array Slot} {lv : List (Option Value)} (h : ∀ β, dm I β → ρ' β = ρ β) (hc : clL I lv) (k : hasL ρ nL ls lv) : hasL ρ' nL ls lv :=
  ⟨k.1, k.2.1, fun i v hv => by rw [cv_congr h (clL_at hc hv)]; exact k.2.2 i v hv⟩
theorem clV.to {I I' : aH} (h : ∀ β, dm I β → dm I' β) {v : Value} (k : clV I v) : clV I' v := fun α q => h α (k α q)
theorem clO.to {I I' : aH} (h : ∀ β, dm I β → dm I' β) {o : aO} (k : clO I o) : clO I' o := ⟨fun t n f e j α q => h α (k.1 t n f e j α q), fun c fs e v hv => clV.to h (k.2 c fs e v hv)⟩
theorem clL.to {I I' : aH} (h : ∀ β, dm I β → dm I' β) {lv : List (Option Value)} (k : clL I lv) : clL I' lv := fun v hv => clV.to h (k v hv)
theorem clS.to {I I' : aH} (h : ∀ β, dm I β → dm I' β) {st : List Value} (k : clS I st) : clS I' st := fun v hv => clV.to h (k v hv)
theorem dm_hu {I : aH} {α : Nat} {o : aO} : ∀ β, dm I β → dm (hu I α o) β := by
  intro β h
  rcases h with h | h
  · refine Or.inl ?_
    unfold hu
    split
    · exact fun q => by cases q
    · exact h
  · exact Or.inr h
theorem ext_dm {ρ0 ρ : Nat → Nat} {I0 I : aH} (h : ext ρ0 I0 ρ I) : ∀ β, dm I0 β → dm I β := fun β q => q.elim (fun z => Or.inl (h.2.1 β z)) Or.inr
section World
variable {D : va_G} {tC : Nat → ClassId} {A : Nat → Prop} {ρ : Nat → Nat} {I : aH} {s : State} {H : Heap}
theorem okH.moved {u U : State} (hvm : u.vm.Alike U.vm) (h : okH D tC A ρ I u H) : okH D tC A ρ I U H := ⟨h.1, h.2.1, h.2.2.1, h.2.2.2.1, h.2.2.2.2.1, va_Z.moved hvm h.2.2.2.2.2.1, h.2.2.2.2.2.2⟩
theorem okH.P {α : Nat} {o : aO} (h : okH D tC A ρ I s H) (hα : I α = some o) : va_P D vwCl [(ρ α, cE tC ρ o)] H := by
  intro k q hk
  have hz : k < 1 := (List.getElem?_eq_some_iff.mp hk).1
  rw [show k = 0 by omega] at hk
  cases hk
  exact h.1 α o hα
theorem okH.lt {α : Nat} {o : aO} (h : okH D tC A ρ I s H) (hα : I α = some o) : ρ α < H.size := (h.1 α o hα).lt
theorem okH.inA {α : Nat} {o : aO} (h : okH D tC A ρ I s H) (hα : I α = some o) (hr : ¬ ro α) : A (ρ α) := (h.2.2.2.1 α (by rw [hα]; exact fun q => by cases q)).resolve_left hr
/-- a cell is written -/
theorem okH.write {α : Nat} {o o' : aO} {H' : Heap} (h : okH D tC A ρ I s H) (hα : I α = some o) (hr : ¬ ro α) (hcl : clO I o') (hat : va_at D vwCl (ρ α, cE tC ρ o') H') (hsz : H'.size = H.size) (hq : ∀ q, q ≠ ρ α → H'[q]? = H[q]?) : okH D tC A ρ (hu I α o') s H' := by
  have hA := h.inA hα hr
  have hne : I α ≠ none := by rw [hα]; exact fun q => by cases q
  obtain ⟨h1, h2, h3, h4, h5, h6, h7, h8⟩ := h
  have hdn : ∀ β, hu I α o' β ≠ none → I β ≠ none := by
    intro β hβ
    by_cases e : β = α
    · rw [e]; exact hne
    · rwa [hu_n e] at hβ
  refine ⟨?_, fun a b ha hb => h2 a b (hdn a ha) (hdn b hb), ?_, fun β hβ => h4 β (hdn β hβ), fun q hq2 => h5 q (by rw [← hsz]; exact hq2), va_Z.kept h6 (fun a ha hna => hq a (fun e => hna (e ▸ hA))), ?_, ?_⟩
  · intro β b hb
    by_cases e : β = α
    · subst e
      rw [hu_s] at hb
      cases hb
      exact hat
    · rw [hu_n e] at hb
      exact (h1 β b hb).kept (hq _ (fun q => e (h2 β α (by rw [hb]; exact fun q => by cases q) hne q)))
  · intro β b hb
    by_cases e : β = α
    · subst e
      rw [hu_s] at hb
      cases hb
      exact hcl.to dm_hu
    · rw [hu_n e] at hb
      exact (h3 β b hb).to dm_hu
  · rw [hu_n (fun e => hr (Or.inl e.symm))]
    exact h7
  · by_cases e : mirr = α
    · rw [← e] at hne
      exact absurd h8 hne
    · rw [hu_n e]
      exact h8
def ru (ρ : Nat → Nat) (α q : Nat) : Nat → Nat := fun β => if β = α then q else ρ β
theorem ru_eq {α q : Nat} (hα : I α = none) (hm : α ≠ mirr) : ∀ β, dm I β → ru ρ α q β = ρ β := by
  intro β hβ
  refine if_neg (fun e => ?_)
  subst e
  exact hβ.elim (fun z => z hα) hm
/-- a cell is made -/
theorem okH.make {α : Nat} {o : aO} {H' : Heap} (h : okH D tC A ρ I s H) (hα : I α = none) (hm : α ≠ mirr) (hr : ¬ ro α) (hcl : clO I o) (hat : va_at D vwCl (H.size, cE tC ρ o) H') (hsz : H'.size = H.size + 1) (hq : ∀ q, q < H.size → H'[q]? = H[q]?) : okH D tC A (ru ρ α H.size) (hu I α o) s H' := by
  have hru := ru_eq (ρ := ρ) (q := H.size) hα hm
  have hlt : ∀ β, I β ≠ none → ρ β < H.size := by
    intro β hβ
    cases hb : I β with
    | none => exact absurd hb hβ
    | some b => exact h.lt hb
  obtain ⟨h1, h2, h3, h4, h5, h6, h7, h8⟩ := h
  have hα' : ru ρ α H.size α = H.size := if_pos rfl
  have hβ' : ∀ β, β ≠ α → ru ρ α H.size β = ρ β := fun β e => if_neg e
  have hdn : ∀ β, β ≠ α → hu I α o β ≠ none → I β ≠ none := fun β e hβ => by rwa [hu_n e] at hβ
  refine ⟨?_, ?_, ?_, ?_, fun q hq2 => h5 q (by omega), ?_, ?_, ?_⟩
  · intro β b hb
    by_cases e : β = α
    · subst e
      rw [hu_s] at hb
      cases hb
      rw [hα', cE_congr hru hcl]
      exact hat
    · rw [hu_n e] at hb
      rw [hβ' β e, cE_congr hru (h3 β b hb)]
      exact (h1 β b hb).kept (hq _ ((h1 β b hb).lt))
  · intro a b ha hb e
    by_cases ea : a = α
    · by_cases eb : b = α
      · rw [ea, eb]
      · rw [ea, hα', hβ' b eb] at e
        have := hlt b (hdn b eb hb)
        omega
    · by_cases eb : b = α
      · rw [eb, hα', hβ' a ea] at e
        have := hlt a (hdn a ea ha)
        omega
      · rw [hβ' a ea, hβ' b eb] at e
        exact h2 a b (hdn a ea ha) (hdn b eb hb) e
  · intro β b hb
    by_cases e : β = α
    · subst e
      rw [hu_s] at hb
      cases hb
      exact hcl.to dm_hu
    · rw [hu_n e] at hb
      exact (h3 β b hb).to dm_hu
  · intro β hβ
    by_cases e : β = α
    · subst e
      rw [hα']
      exact Or.inr (h5 _ (Nat.le_refl _))
    · rw [hβ' β e]
      exact h4 β (hdn β e hβ)
  · have e : ru ρ α H.size zed = ρ zed := if_neg (fun q => hr (Or.inl q.symm))
    unfold vaZ
    rw [e]
    exact va_Z.kept h6 (fun a ha _ => hq a ha)
  · rw [hu_n (fun e => hr (Or.inl e.symm))]
    exact h7
  · rw [hu_n (fun e => hm e.symm)]
    exact h8
theorem ext_hu {ρ0 : Nat → Nat} {I0 : aH} {α : Nat} {o : aO} (h : ext ρ0 I0 ρ I) (hr : ¬ ro α) : ext ρ0 I0 ρ (hu I α o) := by
  refine ⟨h.1, fun β hβ => ?_, fun β hβ => ?_⟩
  · have := h.2.1 β hβ
    unfold hu
    split
    · exact fun q => by cases q
    · exact this
  · rw [hu_n (fun e : β = α => hr (by rw [← e]; exact hβ))]
    exact h.2.2 β hβ
theorem ext_ru {ρ0 : Nat → Nat} {I0 : aH} {α q : Nat} {o : aO} (h : ext ρ0 I0 ρ I) (hα : I α = none) (hm : α ≠ mirr) (hr : ¬ ro α) : ext ρ0 I0 (ru ρ α q) (hu I α o) := by
  have h2 := ext_hu (o := o) h hr
  refine ⟨fun β hβ => ?_, h2.2⟩
  rw [ru_eq hα hm β (ext_dm h β hβ)]
  exact h.1 β hβ
end World
theorem clO_set {I : aH} {c k : Nat} {fs : List Value} {v : Value} (h : clO I (.inr (c, fs))) (hv : clV I v) : clO I (.inr (c, fs.set k v)) := by
  refine ⟨fun t n f e => (by cases e), fun c' fs' e w hw => ?_⟩
  cases e
  rcases List.mem_or_eq_of_mem_set hw with q | q
  · exact h.2 c fs rfl w q
  · rw [q]; exact hv
theorem clO_up {I : aH} {t n i : Nat} {f : Nat → Option Nat} {x : Option Nat} (h : clO I (.inl (t, aR n f))) (hx : ∀ α, x = some α → dm I α) : clO I (.inl (t, aR n (va_up f i x))) := by
  refine ⟨fun t' n' f' e j α q => ?_, fun c fs e => (by cases e)⟩
  cases e
  unfold va_up at q
  split at q
  · exact hx α q
  · exact h.1 t n f rfl j α q
theorem clO_i {I : aH} {t n : Nat} {f : Nat → Int32} : clO I (.inl (t, aI n f)) := ⟨fun _ _ _ e => (by cases e), fun _ _ e => (by cases e)⟩
theorem clO_l {I : aH} {t n : Nat} {f : Nat → Int64} : clO I (.inl (t, aL n f)) := ⟨fun _ _ _ e => (by cases e), fun _ _ e => (by cases e)⟩
end
section
/-! rows for fields, arrays, calls, ends -/
def CI (ci : Nat) (C : String) (T : u_T) (N : Nat) (ty : Nat → FieldType) : Prop := vwCl[ci]? = some (C, T, N) ∧ (∀ w ∈ u_ws C T N, w ∈ wsA) ∧ (∀ k, k < N → parseFieldDescriptor (T k).2.2.1 = some (ty k)) ∧ (∀ a, a < N → ∀ b, b < N → a ≠ b → (T a).2.1 ≠ (T b).2.1)
theorem ws_of {C : String} {T : u_T} {N : Nat} (h : ∀ k, k < N → u_lay C T k ∈ wsA) : ∀ w ∈ u_ws C T N, w ∈ wsA := by
  intro w hw
  obtain ⟨k, hk, rfl⟩ := List.mem_map.mp hw
  exact h k (List.mem_range.mp hk)
/-- a field's entry: class ci, its field k, final or not, its type -/
def FK (own : String) (idx ci k : Nat) (fin : Bool) (fty : FieldType) : Prop := ∃ (C : String) (T : u_T) (N : Nat) (ty : Nat → FieldType) (ref : String), CI ci C T N ty ∧ k < N ∧ Cond.fieldLink own idx ref (T k).2.1 (T k).2.2.1 ∈ wsA ∧ (ref = (T k).1 ∨ Cond.sameField ref (T k).1 (T k).2.1 (T k).2.2.1 ∈ wsA) ∧ (T k).2.2.2 = fin ∧ ty k = fty
/-- a final field's entry, in its own constructor -/
def FP (own : String) (idx ci k : Nat) (fty : FieldType) : Prop := ∃ (C : String) (T : u_T) (N : Nat) (ty : Nat → FieldType) (ref : String), CI ci C T N ty ∧ k < N ∧ Cond.fieldLink own idx ref (T k).2.1 (T k).2.2.1 ∈ wsA ∧ (ref = (T k).1 ∨ Cond.sameField ref (T k).1 (T k).2.1 (T k).2.2.1 ∈ wsA) ∧ (T k).2.2.2 = true ∧ ty k = fty ∧ (T k).1 = own
/-- a made object's entry -/
def NK (own : String) (idx ci N : Nat) (fs : List Value) : Prop := ∃ (C : String) (T : u_T) (ty : Nat → FieldType), CI ci C T N ty ∧ Cond.classLink own idx C ∈ wsA ∧ Cond.instantiable C N ∈ wsA ∧ Cond.initialized C ∈ wsA ∧ (∀ j, j < N → defaultValue (ty j) = vp_V fs j) ∧ (∀ v ∈ fs, ∀ a, v ≠ .ref a)
def Nm (Z : Zt) (n : String) : Prop := match Z with
  | (_, _, _, _, _, _, _, _, meth, _) => meth.name = n
theorem nar_cv {ρ : Nat → Nat} {ty : FieldType} {v : Value} (h : narrow ty v = v) : narrow ty (cv ρ v) = cv ρ v := by
  cases v with
  | ref a => cases ty <;> rfl
  | _ => exact h
theorem fit_cv {ρ : Nat → Nat} {ty : FieldType} {v : Value} (h : fits ty v = true) : fits ty (cv ρ v) = true := by
  cases v with
  | ref a => cases ty <;> first | exact h | cases h
  | _ => exact h
theorem set_map {ρ : Nat → Nat} {fs : List Value} {k : Nat} {v : Value} : (fs.map (cv ρ)).set k (cv ρ v) = (fs.set k v).map (cv ρ) := by rw [List.map_set]
section Heap
variable {Z : Zt} {l0 : Launch} {R0 : Room} {cc : ByteArray} {nL : Nat} {own : String} {ret : Option FieldType} {Post : Option Value → aH → Prop} {I : aH} {lv : List (Option Value)} {st : List Value} {cells slots pc : Nat}
theorem V_get {idx ci k α : Nat} {fs : List Value} {v : Value} {fin : Bool} {fty : FieldType} (X : Fx Z l0 R0 cc nL own ret Post) (d : decode cc pc = .ok (.getfield idx, 3)) (F : FK own idx ci k fin fty) (h : I α = some (.inr (ci, fs))) (hv : fs[k]? = some v) (kk : V Z nL I lv (v :: st) cells slots (pc + 3)) : V Z nL I lv (.ref α :: st) cells slots pc := by
  obtain ⟨p, l, e, R, s, m, args, below, meth, c, Q, D, tC, A, ρ0, I0⟩ := Z
  obtain ⟨⟨hx, hb, hml, hown, hts⟩, hU, hlk, hret, rfl, rfl, rfl⟩ := X
  intro ρ H locs ls hH hE hlo hL hcL hcS
  obtain ⟨C, T, N, ty, ref, ⟨hc, hin, hty, hnm⟩, hk, hl, hsm, -⟩ := F
  refine va_get (ref := ref) hx hb hts hin hown hU.1 (hH.P h) 0 rfl hc k hk (hts _ hl) ?_ (v := cv ρ v) ?_ d (kk ρ H locs ls hH hE hlo hL hcL (clS_cons ((hH.2.2.1 α _ h).2 ci fs rfl v (List.mem_of_getElem? hv)) (clS_tl hcS)))
  · intro x hx
    rcases hsm with rfl | hsm
    · exact hx
    · exact u_same (hts _ hsm) x hx
  · rw [List.getElem?_map, hv]
    rfl
theorem V_put {idx ci k α : Nat} {fs : List Value} {v : Value} {fty : FieldType} (X : Fx Z l0 R0 cc nL own ret Post) (d : decode cc pc = .ok (.putfield idx, 3)) (F : FK own idx ci k false fty) (h : I α = some (.inr (ci, fs))) (hr : ¬ ro α) (hl0 : k < fs.length) (hn : narrow fty v = v) (hf : fits fty v = true) (kk : V Z nL (hu I α (.inr (ci, fs.set k v))) lv st cells slots (pc + 3)) : V Z nL I lv (v :: .ref α :: st) cells slots pc := by
  obtain ⟨p, l, e, R, s, m, args, below, meth, c, Q, D, tC, A, ρ0, I0⟩ := Z
  obtain ⟨⟨hx, hb, hml, hown, hts⟩, hU, hlk, hret, rfl, rfl, rfl⟩ := X
  intro ρ H locs ls hH hE hlo hL hcL hcS
  obtain ⟨C, T, N, ty, ref, ⟨hc, hin, hty, hnm⟩, hk, hl, hsm, hfin, rfl⟩ := F
  have hap := va_apart (own := own) hts hin ty hty hnm hU.1 hc
  obtain ⟨r, h1, cell, q1, q2, q3, q4⟩ := hH.1 α _ h
  have hrr : r = (C, T, N) := Option.some.inj (h1.symm.trans hc)
  subst hrr
  obtain ⟨hS, hfc, kC, hkC, hkind⟩ := hU.1.1 ci _ hc
  obtain ⟨cf, kf, fi, f, hi, hsl⟩ := hS k hk
  have hlay := hts _ (hin _ (u_in_lay hk))
  unfold u_lay at hlay
  rw [if_neg (by rw [hfin]; decide)] at hlay
  have hst := (u_facts hfc hkC (u_lays hts hin hk) hi).1
  have h6 := u_store hfc hkC hkind hlay hi (hty k hk) (nar_cv (ρ := ρ) hn) (fit_cv (ρ := ρ) hf)
  have hsame : s.fieldFound? ref (T k).2.1 (T k).2.2.1 = some (cf, kf, fi, f) := by
    rcases hsm with rfl | hsm
    · exact hi
    · exact u_same (hts _ hsm) _ hi
  have hcv : clV I v := clS_hd hcS
  have hA := hH.inA h hr
  refine W.putK hx hb (f := f) ⟨hown, hts _ hl, ⟨_, _, _, hsame⟩, hst⟩ (by rw [q2]; exact h6) q1 q3 (by rw [hsl]; exact k2_hasslot (q4 k hk)) rfl rfl d fun H' e1 e2 e3 => ?_
  rw [hsl] at e1 ⊢
  refine kk ρ H' _ ls (hH.write h hr (clO_set (hH.2.2.1 α _ h) hcv) ?_ e2 e3) (ext_hu hE hr) ?_ hL (hcL.to dm_hu) ((clS_tl (clS_tl hcS)).to dm_hu)
  · refine ⟨_, hc, t_OB.to (V := updV (vp_V (fs.map (cv ρ))) k (cv ρ v)) ⟨_, e1, q2, q3, t_set q4 hap hk (cv ρ v)⟩ (fun j _ => ?_)⟩
    rw [vp_updV_set (by rw [List.length_map]; exact hl0), set_map]
  · intro q hq
    rcases List.mem_append.mp hq with hq | hq
    · exact hlo q hq
    · rw [List.mem_singleton.mp hq]
      exact hA
theorem V_putF {idx ci k α : Nat} {fs : List Value} {v : Value} {fty : FieldType} (X : Fx Z l0 R0 cc nL own ret Post) (hmn : Nm Z "<init>") (d : decode cc pc = .ok (.putfield idx, 3)) (F : FP own idx ci k fty) (h : I α = some (.inr (ci, fs))) (hr : ¬ ro α) (hl0 : k < fs.length) (hn : narrow fty v = v) (hf : fits fty v = true) (kk : V Z nL (hu I α (.inr (ci, fs.set k v))) lv st cells slots (pc + 3)) : V Z nL I lv (v :: .ref α :: st) cells slots pc := by
  obtain ⟨p, l, e, R, s, m, args, below, meth, c, Q, D, tC, A, ρ0, I0⟩ := Z
  obtain ⟨⟨hx, hb, hml, hown, hts⟩, hU, hlk, hret, rfl, rfl, rfl⟩ := X
  intro ρ H locs ls hH hE hlo hL hcL hcS
  obtain ⟨C, T, N, ty, ref, ⟨hc, hin, hty, hnm⟩, hk, hl, hsm, hfin, rfl, hdecl⟩ := F
  have hap := va_apart (own := own) hts hin ty hty hnm hU.1 hc
  obtain ⟨r, h1, cell, q1, q2, q3, q4⟩ := hH.1 α _ h
  have hrr : r = (C, T, N) := Option.some.inj (h1.symm.trans hc)
  subst hrr
  obtain ⟨hS, hfc, kC, hkC, hkind⟩ := hU.1.1 ci _ hc
  obtain ⟨cf, kf, fi, f, hi, hsl⟩ := hS k hk
  have hlay := hts _ (hin _ (u_in_lay hk))
  unfold u_lay at hlay
  rw [if_pos hfin] at hlay
  have hst := (u_facts hfc hkC (u_lays hts hin hk) hi).1
  have hcf : m.cls = cf := by
    obtain ⟨_, _, c', _, _, _, -, -, hf', -, -, -, hown2, -⟩ := Cond.laysFinal_spec hlay
    have e1 : c' = cf := by have := hi.symm.trans hf'; simp at this; exact this.1.symm
    rw [hdecl] at hown2
    rw [← e1]; exact Option.some.inj (hown.symm.trans hown2)
  have h6 := u_fits hfc hkC hkind (Or.inr hlay) hi (hty k hk) (nar_cv (ρ := ρ) hn) (fit_cv (ρ := ρ) hf)
  have hsame : s.fieldFound? ref (T k).2.1 (T k).2.2.1 = some (cf, kf, fi, f) := by
    rcases hsm with rfl | hsm
    · exact hi
    · exact u_same (hts _ hsm) _ hi
  have hcv : clV I v := clS_hd hcS
  have hA := hH.inA h hr
  refine W.putFinK hx hb hown (hts _ hl) hsame hst hcf hmn (by rw [q2]; exact h6) q1 q3 (by rw [hsl]; exact k2_hasslot (q4 k hk)) rfl rfl d fun H' e1 e2 e3 => ?_
  rw [hsl] at e1 ⊢
  refine kk ρ H' _ ls (hH.write h hr (clO_set (hH.2.2.1 α _ h) hcv) ?_ e2 e3) (ext_hu hE hr) ?_ hL (hcL.to dm_hu) ((clS_tl (clS_tl hcS)).to dm_hu)
  · refine ⟨_, hc, t_OB.to (V := updV (vp_V (fs.map (cv ρ))) k (cv ρ v)) ⟨_, e1, q2, q3, t_set q4 hap hk (cv ρ v)⟩ (fun j _ => ?_)⟩
    rw [vp_updV_set (by rw [List.length_map]; exact hl0), set_map]
  · intro q hq
    rcases List.mem_append.mp hq with hq | hq
    · exact hlo q hq
    · rw [List.mem_singleton.mp hq]
      exact hA
theorem vpV_map {ρ : Nat → Nat} {fs : List Value} (h : ∀ v ∈ fs, ∀ a, v ≠ .ref a) (j : Nat) : vp_V fs j = vp_V (fs.map (cv ρ)) j := by
  unfold vp_V
  rw [List.getD_eq_getElem?_getD, List.getD_eq_getElem?_getD, List.getElem?_map]
  cases hj : fs[j]? with
  | none => rfl
  | some v =>
    have := h v (List.mem_of_getElem? hj)
    cases v with
    | ref a => exact absurd rfl (this a)
    | _ => rfl
theorem V_new {idx ci N : Nat} {fs : List Value} (X : Fx Z l0 R0 cc nL own ret Post) (d : decode cc pc = .ok (.new idx, 3)) (F : NK own idx ci N fs) (α : Nat) (h : I α = none) (hm : α ≠ mirr) (hr : ¬ ro α) (hce : cells + 1 ≤ R0.cells) (hsl : slots + N ≤ R0.slots) (kk : V Z nL (hu I α (.inr (ci, fs))) lv (.ref α :: st) (cells + 1) (slots + N) (pc + 3)) : V Z nL I lv st cells slots pc := by
  obtain ⟨p, l, e, R, s, m, args, below, meth, c, Q, D, tC, A, ρ0, I0⟩ := Z
  obtain ⟨⟨hx, hb, hml, hown, hts⟩, hU, hlk, hret, rfl, rfl, rfl⟩ := X
  intro ρ H locs ls hH hE hlo hL hcL hcS
  obtain ⟨C, T, ty, ⟨hc, hin, hty, hnm⟩, hcl, hinst, hini, hfs, hnr⟩ := F
  have hKn := hU.1.1 ci _ hc
  refine W.newcK hx hb hown (hts _ hcl) (hts _ hinst) (hts _ hini) rfl d hce hsl hKn.2.1 rfl fun H1 kC hkC e1 z1 o1 => ?_
  have hat : va_at D vwCl (H.size, cE tC ρ (.inr (ci, fs))) H1 := ⟨_, hc, (u_born ty hts hin hKn hkC e1 hty).to (fun j hj => (hfs j hj).trans (vpV_map hnr j))⟩
  have hclo : clO I (.inr (ci, fs)) := ⟨fun t n f e => (by cases e), fun c' fs' e v hv a ea => absurd ea (hnr v (by cases e; exact hv) a)⟩
  have k1 := kk (ru ρ α H.size) H1 locs ls (hH.make h hm hr hclo hat z1 o1) (ext_ru hE h hm hr) hlo (hL.to (ru_eq h hm) hcL) (hcL.to dm_hu) (clS_cons (clV_r (by rw [hu_s]; exact fun q => by cases q)) (hcS.to dm_hu))
  rw [List.map_cons, cvS_congr (ru_eq h hm) hcS] at k1
  have e2 : cv (ru ρ α H.size) (.ref α) = .ref H.size := by simp [cv, ru]
  rw [e2] at k1
  exact k1
theorem newa_core {D : va_G} {tC : Nat → ClassId} {s : State} (hK : va_K D vwCl (tyL tC) s) {cA0 : ClassId} {ty : FieldType} {t : Nat} (ht : (tyL tC)[t]? = some (tC t, ty)) (ho : ∀ C, ty ≠ .object C) (hf : s.vm.findClass ("[" ++ ty.toString) = some cA0) : cA0 = tC t := by
  have h := (hK.2 t _ ht).2
  have h2 : s.vm.findClass ("[" ++ ty.toString) = some (tC t) := by
    cases ty <;> first | exact h | exact absurd rfl (ho _)
  exact Option.some.inj (hf.symm.trans h2)
theorem V_newarray {atype : ArrayType} {n : Int32} {a0 : vp_A} {t : Nat} {ty : FieldType} (X : Fx Z l0 R0 cc nL own ret Post) (d : decode cc pc = .ok (.newarray atype, 2)) (N' : Nat) (hw : Cond.arrayClass (newarray.typeOf atype) ∈ wsA) (hty : newarray.typeOf atype = ty) (ht : ∀ tC, (tyL tC)[t]? = some (tC t, ty)) (ho : ∀ C, ty ≠ .object C) (ha : ∀ cA : ClassId, vp_cell cA a0 = arrV cA N' (fun _ => defaultValue ty)) (hca : ∀ ρ, cA ρ a0 = a0) (hcl : ∀ I, clO I (.inl (t, a0))) (hn : ¬ n < 0) (hN : n.toNatClampNeg = N') (hby : N' * componentBytes ty ≤ 536870912) (α : Nat) (h : I α = none) (hm : α ≠ mirr) (hr : ¬ ro α) (hce : cells + 1 ≤ R0.cells) (hsl : slots + N' ≤ R0.slots) (kk : V Z nL (hu I α (.inl (t, a0))) lv (.ref α :: st) (cells + 1) (slots + N') (pc + 2)) : V Z nL I lv (.int n :: st) cells slots pc := by
  obtain ⟨p, l, e, R, s, m, args, below, meth, c, Q, D, tC, A, ρ0, I0⟩ := Z
  obtain ⟨⟨hx, hb, hml, hown, hts⟩, hU, hlk, hret, rfl, rfl, rfl⟩ := X
  intro ρ H locs ls hH hE hlo hL hcL hcS
  subst hty
  refine va_newaK hx hb (hts _ hw) rfl d rfl hn hN hby hce hsl rfl fun H1 cA1 e1 z1 o1 hAr hNm => ?_
  have hcA := newa_core hU.1 (ht tC) ho hNm
  subst hcA
  have hat : va_at D vwCl (H.size, cE tC ρ (.inl (t, a0))) H1 := by
    show H1[H.size]? = some (vp_cell (tC t) (cA ρ a0))
    rw [hca, ha]
    exact e1
  have k1 := kk (ru ρ α H.size) H1 locs ls (hH.make h hm hr (hcl I) hat z1 o1) (ext_ru hE h hm hr) hlo (hL.to (ru_eq h hm) hcL) (hcL.to dm_hu) (clS_cons (clV_r (by rw [hu_s]; exact fun q => by cases q)) ((clS_tl hcS).to dm_hu))
  rw [List.map_cons, cvS_congr (ru_eq h hm) (clS_tl hcS)] at k1
  have e2 : cv (ru ρ α H.size) (.ref α) = .ref H.size := by simp [cv, ru]
  rw [e2] at k1
  exact k1
theorem V_anewarray {idx t : Nat} {C : String} {n : Int32} (X : Fx Z l0 R0 cc nL own ret Post) (d : decode cc pc = .ok (.anewarray idx, 3)) (N' : Nat) (hw : Cond.classLink own idx C ∈ wsA) (ht : ∀ tC, (tyL tC)[t]? = some (tC t, .object C)) (hC : C = sOb ∨ C = RX0) (hn : ¬ n < 0) (hN : n.toNatClampNeg = N') (hby : N' * 4 ≤ 536870912) (α : Nat) (h : I α = none) (hm : α ≠ mirr) (hr : ¬ ro α) (hce : cells + 1 ≤ R0.cells) (hsl : slots + N' ≤ R0.slots) (kk : V Z nL (hu I α (.inl (t, aR N' (fun _ => none)))) lv (.ref α :: st) (cells + 1) (slots + N') (pc + 3)) : V Z nL I lv (.int n :: st) cells slots pc := by
  obtain ⟨p, l, e, R, s, m, args, below, meth, c, Q, D, tC, A, ρ0, I0⟩ := Z
  obtain ⟨⟨hx, hb, hml, hown, hts⟩, hU, hlk, hret, rfl, rfl, rfl⟩ := X
  intro ρ H locs ls hH hE hlo hL hcL hcS
  subst hN
  have hover : va_AO C s := by
    rcases hC with rfl | rfl
    · exact hU.2.2.1
    · exact hU.2.2.2.1
  refine W.anew hx hb hown (hts _ hw) (va_AO.use hover) rfl d rfl hn hby hce hsl fun cA1 kA comp f1 f2 f3 f4 => ?_
  obtain ⟨kA', comp', g1, g2, g3, g4⟩ := (hU.1.2 t _ (ht tC)).2
  have hcA : cA1 = tC t := Option.some.inj (f1.symm.trans g4)
  subst hcA
  generalize hH1 : H.push ({ cls := tC t, slots := Array.replicate n.toNatClampNeg .null, vm := .none } : Cell) = H1
  have z1 : H1.size = H.size + 1 := by rw [← hH1, Array.size_push]
  have e1 : H1[H.size]? = some (arrV (tC t) n.toNatClampNeg (fun _ => .null)) := by rw [← hH1, Array.getElem?_push_size, ← arrV_new]
  have o1 : ∀ q : Nat, q < H.size → H1[q]? = H[q]? := fun q hq => by rw [← hH1, Array.getElem?_push, if_neg (Nat.ne_of_lt hq)]
  have hat : va_at D vwCl (H.size, cE tC ρ (.inl (t, aR n.toNatClampNeg (fun _ => none)))) H1 := by
    show H1[H.size]? = some (vp_cell (tC t) _)
    rw [e1]
    rfl
  have hclo : clO I (.inl (t, aR n.toNatClampNeg (fun _ => none))) := ⟨fun t n f e j α q => (by cases e; cases q), fun c' fs' e => (by cases e)⟩
  have k1 := kk (ru ρ α H.size) H1 locs ls (hH.make h hm hr hclo hat z1 o1) (ext_ru hE h hm hr) hlo (hL.to (ru_eq h hm) hcL) (hcL.to dm_hu) (clS_cons (clV_r (by rw [hu_s]; exact fun q => by cases q)) ((clS_tl hcS).to dm_hu))
  rw [List.map_cons, cvS_congr (ru_eq h hm) (clS_tl hcS)] at k1
  have e2 : cv (ru ρ α H.size) (.ref α) = .ref H.size := by simp [cv, ru]
  rw [e2] at k1
  exact k1
end Heap
end
section
section Arrays
variable {Z : Zt} {l0 : Launch} {R0 : Room} {cc : ByteArray} {nL : Nat} {own : String} {ret : Option FieldType} {Post : Option Value → aH → Prop} {I : aH} {lv : List (Option Value)} {st : List Value} {cells slots pc : Nat}
theorem V_iaload {α n : Nat} {f : Nat → Int32} {i : Int32} (X : Fx Z l0 R0 cc nL own ret Post) (d : decode cc pc = .ok (.iaload, 1)) (h : I α = some (.inl (0, aI n f))) (hi : vp_in i n) (k : V Z nL I lv (.int (f i.toNatClampNeg) :: st) cells slots (pc + 1)) : V Z nL I lv (.int i :: .ref α :: st) cells slots pc := by
  obtain ⟨p, l, e, R, s, m, args, below, meth, c, Q, D, tC, A, ρ0, I0⟩ := Z
  obtain ⟨⟨hx, hb, hml, hown, hts⟩, hU, hlk, hret, rfl, rfl, rfl⟩ := X
  intro ρ H locs ls hH hE hlo hL hcL hcS
  exact va_iald hx hb hU.1 (hH.P h) 0 0 rfl rfl hi d (k ρ H locs ls hH hE hlo hL hcL (clS_cons clV_i (clS_tl (clS_tl hcS))))
theorem V_laload {α n : Nat} {f : Nat → Int64} {i : Int32} (X : Fx Z l0 R0 cc nL own ret Post) (d : decode cc pc = .ok (.laload, 1)) (h : I α = some (.inl (1, aL n f))) (hi : vp_in i n) (k : V Z nL I lv (.long (f i.toNatClampNeg) :: st) cells slots (pc + 1)) : V Z nL I lv (.int i :: .ref α :: st) cells slots pc := by
  obtain ⟨p, l, e, R, s, m, args, below, meth, c, Q, D, tC, A, ρ0, I0⟩ := Z
  obtain ⟨⟨hx, hb, hml, hown, hts⟩, hU, hlk, hret, rfl, rfl, rfl⟩ := X
  intro ρ H locs ls hH hE hlo hL hcL hcS
  exact va_lald hx hb hU.1 (hH.P h) 0 1 rfl rfl hi d (k ρ H locs ls hH hE hlo hL hcL (clS_cons clV_l (clS_tl (clS_tl hcS))))
theorem V_baload {α n : Nat} {f : Nat → Int32} {i : Int32} (X : Fx Z l0 R0 cc nL own ret Post) (d : decode cc pc = .ok (.baload, 1)) (h : I α = some (.inl (2, aI n f))) (hi : vp_in i n) (k : V Z nL I lv (.int (f i.toNatClampNeg) :: st) cells slots (pc + 1)) : V Z nL I lv (.int i :: .ref α :: st) cells slots pc := by
  obtain ⟨p, l, e, R, s, m, args, below, meth, c, Q, D, tC, A, ρ0, I0⟩ := Z
  obtain ⟨⟨hx, hb, hml, hown, hts⟩, hU, hlk, hret, rfl, rfl, rfl⟩ := X
  intro ρ H locs ls hH hE hlo hL hcL hcS
  exact va_zald hx hb hU.1 (hH.P h) 0 2 rfl rfl hi d (k ρ H locs ls hH hE hlo hL hcL (clS_cons clV_i (clS_tl (clS_tl hcS))))
theorem cv_rf (ρ : Nat → Nat) (x : Option Nat) : cv ρ (va_rf x) = va_rf (x.map ρ) := by cases x <;> rfl
theorem V_aaload {α n t : Nat} {C : String} {f : Nat → Option Nat} {i : Int32} (X : Fx Z l0 R0 cc nL own ret Post) (d : decode cc pc = .ok (.aaload, 1)) (ht : ∀ tC, (tyL tC)[t]? = some (tC t, .object C)) (h : I α = some (.inl (t, aR n f))) (hi : vp_in i n) (k : V Z nL I lv (va_rf (f i.toNatClampNeg) :: st) cells slots (pc + 1)) : V Z nL I lv (.int i :: .ref α :: st) cells slots pc := by
  obtain ⟨p, l, e, R, s, m, args, below, meth, c, Q, D, tC, A, ρ0, I0⟩ := Z
  obtain ⟨⟨hx, hb, hml, hown, hts⟩, hU, hlk, hret, rfl, rfl, rfl⟩ := X
  intro ρ H locs ls hH hE hlo hL hcL hcS
  have hcl : clV I (va_rf (f i.toNatClampNeg)) := by
    intro a ha
    cases hf : f i.toNatClampNeg with
    | none => rw [hf] at ha; cases ha
    | some b =>
      rw [hf] at ha
      cases ha
      exact (hH.2.2.1 α _ h).1 t n f rfl _ _ hf
  have k1 := k ρ H locs ls hH hE hlo hL hcL (clS_cons hcl (clS_tl (clS_tl hcS)))
  rw [List.map_cons, cv_rf] at k1
  exact va_aldq hx hb hU.1 (hH.P h) 0 t rfl (ht tC) hi d k1
theorem V_alen {α t : Nat} {ty : FieldType} {x : vp_A} (X : Fx Z l0 R0 cc nL own ret Post) (d : decode cc pc = .ok (.arraylength, 1)) (ht : ∀ tC, (tyL tC)[t]? = some (tC t, ty)) (h : I α = some (.inl (t, x))) (k : V Z nL I lv (.int (nI x.1) :: st) cells slots (pc + 1)) : V Z nL I lv (.ref α :: st) cells slots pc := by
  obtain ⟨p, l, e, R, s, m, args, below, meth, c, Q, D, tC, A, ρ0, I0⟩ := Z
  obtain ⟨⟨hx, hb, hml, hown, hts⟩, hU, hlk, hret, rfl, rfl, rfl⟩ := X
  intro ρ H locs ls hH hE hlo hL hcL hcS
  exact va_alen hx hb hU.1 (hH.P h) 0 t rfl (ht tC) (v := nI x.1) rfl d (k ρ H locs ls hH hE hlo hL hcL (clS_cons clV_i (clS_tl hcS)))
theorem locs_put {A : Nat → Prop} {locs : List Loc} {a k : Nat} (h : ∀ q ∈ locs, A q.base) (ha : A a) : ∀ q ∈ locs ++ [(⟨a, k⟩ : Loc)], A q.base := by
  intro q hq
  rcases List.mem_append.mp hq with hq | hq
  · exact h q hq
  · rw [List.mem_singleton.mp hq]
    exact ha
theorem V_iastore {α n : Nat} {f : Nat → Int32} {i x : Int32} (X : Fx Z l0 R0 cc nL own ret Post) (d : decode cc pc = .ok (.iastore, 1)) (h : I α = some (.inl (0, aI n f))) (hr : ¬ ro α) (hi : vp_in i n) (k : V Z nL (hu I α (.inl (0, aI n (upd f i.toNatClampNeg x)))) lv st cells slots (pc + 1)) : V Z nL I lv (.int x :: .int i :: .ref α :: st) cells slots pc := by
  obtain ⟨p, l, e, R, s, m, args, below, meth, c, Q, D, tC, A, ρ0, I0⟩ := Z
  obtain ⟨⟨hx, hb, hml, hown, hts⟩, hU, hlk, hret, rfl, rfl, rfl⟩ := X
  intro ρ H locs ls hH hE hlo hL hcL hcS
  have hc0 : H[ρ α]? = some (arrV (tC 0) n (fun j => .int (f j))) := hH.1 α _ h
  refine W.iast hx hb hc0 ((hU.1.2 0 _ rfl).1 n _) (fun q => by cases q) (by rw [arrV_size]; exact hi) rfl rfl d fun H1 e1 z1 o1 => ?_
  refine k ρ H1 _ ls (hH.write h hr clO_i ?_ z1 o1) (ext_hu hE hr) (locs_put hlo (hH.inA h hr)) hL (hcL.to dm_hu) ((clS_tl (clS_tl (clS_tl hcS))).to dm_hu)
  show H1[ρ α]? = some (arrV (tC 0) n (fun j => .int (upd f i.toNatClampNeg x j)))
  rw [e1, arrV_store]
  congr 2
  funext q
  by_cases hq : q = i.toNatClampNeg
  · subst hq
    simp [updV, upd]
  · simp [updV, upd, hq]
theorem V_lastore {α n : Nat} {f : Nat → Int64} {i : Int32} {x : Int64} (X : Fx Z l0 R0 cc nL own ret Post) (d : decode cc pc = .ok (.lastore, 1)) (h : I α = some (.inl (1, aL n f))) (hr : ¬ ro α) (hi : vp_in i n) (k : V Z nL (hu I α (.inl (1, aL n (vp_updL f i.toNatClampNeg x)))) lv st cells slots (pc + 1)) : V Z nL I lv (.long x :: .int i :: .ref α :: st) cells slots pc := by
  obtain ⟨p, l, e, R, s, m, args, below, meth, c, Q, D, tC, A, ρ0, I0⟩ := Z
  obtain ⟨⟨hx, hb, hml, hown, hts⟩, hU, hlk, hret, rfl, rfl, rfl⟩ := X
  intro ρ H locs ls hH hE hlo hL hcL hcS
  have hc0 : H[ρ α]? = some (arrV (tC 1) n (fun j => .long (f j))) := hH.1 α _ h
  refine W.last hx hb hc0 ((hU.1.2 1 _ rfl).1 n _) (fun q => by cases q) (by rw [arrV_size]; exact hi) rfl rfl d fun H1 e1 z1 o1 => ?_
  refine k ρ H1 _ ls (hH.write h hr clO_l ?_ z1 o1) (ext_hu hE hr) (locs_put hlo (hH.inA h hr)) hL (hcL.to dm_hu) ((clS_tl (clS_tl (clS_tl hcS))).to dm_hu)
  show H1[ρ α]? = some (arrV (tC 1) n (fun j => .long (vp_updL f i.toNatClampNeg x j)))
  rw [e1, arrV_store]
  congr 2
  funext q
  by_cases hq : q = i.toNatClampNeg
  · subst hq
    simp [updV, vp_updL]
  · simp [updV, vp_updL, hq]
theorem V_bastore {α n : Nat} {f : Nat → Int32} {i x : Int32} (X : Fx Z l0 R0 cc nL own ret Post) (d : decode cc pc = .ok (.bastore, 1)) (h : I α = some (.inl (2, aI n f))) (hr : ¬ ro α) (hi : vp_in i n) (k : V Z nL (hu I α (.inl (2, aI n (upd f i.toNatClampNeg (vp_nar .boolean x))))) lv st cells slots (pc + 1)) : V Z nL I lv (.int x :: .int i :: .ref α :: st) cells slots pc := by
  obtain ⟨p, l, e, R, s, m, args, below, meth, c, Q, D, tC, A, ρ0, I0⟩ := Z
  obtain ⟨⟨hx, hb, hml, hown, hts⟩, hU, hlk, hret, rfl, rfl, rfl⟩ := X
  intro ρ H locs ls hH hE hlo hL hcL hcS
  have hc0 : H[ρ α]? = some (arrV (tC 2) n (fun j => .int (f j))) := hH.1 α _ h
  refine W.zast hx hb hc0 ((hU.1.2 2 _ rfl).1 n _) (fun q => by cases q) (by rw [arrV_size]; exact hi) rfl rfl d fun H1 e1 z1 o1 => ?_
  refine k ρ H1 _ ls (hH.write h hr clO_i ?_ z1 o1) (ext_hu hE hr) (locs_put hlo (hH.inA h hr)) hL (hcL.to dm_hu) ((clS_tl (clS_tl (clS_tl hcS))).to dm_hu)
  show H1[ρ α]? = some (arrV (tC 2) n (fun j => .int (upd f i.toNatClampNeg (vp_nar .boolean x) j)))
  rw [e1, arrV_store]
  congr 2
  funext q
  by_cases hq : q = i.toNatClampNeg
  · subst hq
    simp [updV, upd, vp_nar]
    try rfl
  · simp [updV, upd, hq]
/-- an object into an array: of its own class, or of Objects -/
theorem V_aastore {α β n t ci : Nat} {C : String} {T : u_T} {N : Nat} {fs : List Value} {E : String} {f : Nat → Option Nat} {i : Int32} (X : Fx Z l0 R0 cc nL own ret Post) (d : decode cc pc = .ok (.aastore, 1)) (ht : ∀ tC, (tyL tC)[t]? = some (tC t, .object E)) (h : I α = some (.inl (t, aR n f))) (hr : ¬ ro α) (hi : vp_in i n) (hv : I β = some (.inr (ci, fs))) (hc : vwCl[ci]? = some (C, T, N)) (hE : E = C ∨ Cond.castable C E ∈ nwL) (k : V Z nL (hu I α (.inl (t, aR n (va_up f i.toNatClampNeg (some β))))) lv st cells slots (pc + 1)) : V Z nL I lv (.ref β :: .int i :: .ref α :: st) cells slots pc := by
  obtain ⟨p, l, e, R, s, m, args, below, meth, c, Q, D, tC, A, ρ0, I0⟩ := Z
  obtain ⟨⟨hx, hb, hml, hown, hts⟩, hU, hlk, hret, rfl, rfl, rfl⟩ := X
  intro ρ H locs ls hH hEx hlo hL hcL hcS
  have hlt : i.toNatClampNeg < n := Nat.not_le.mp fun q => hi (Or.inr q)
  have h0 : ¬ i < 0 := fun q => hi (Or.inl q)
  have hc0 : H[ρ α]? = some (arrV (tC t) n (fun j => va_rf ((f j).map ρ))) := hH.1 α _ h
  obtain ⟨r', hr', cellV, g1, g2, g3, -⟩ := hH.1 β _ hv
  have hcls := (hU.1.1 ci _ hc).2
  obtain ⟨kA, comp, k1, k2, k3, -⟩ := (hU.1.2 t _ (ht tC)).2
  obtain ⟨kC, hkC, -⟩ := hcls.2
  obtain ⟨kc, hkc, -⟩ := Vm.findClass_spec k3
  have hasg : s.vm.assignable (D.1 ci) comp = true := by
    rcases hE with rfl | hE
    · have : comp = D.1 ci := Option.some.inj (k3.symm.trans hcls.1)
      rw [this]
      exact va_asg _ _
    · obtain ⟨c0, t0, f1, f2, f3⟩ := Cond.castable_spec (va_Nw.use (A := args) rfl (hU.2.1 _ hE))
      have e1 : c0 = D.1 ci := Option.some.inj (f1.symm.trans hcls.1)
      have e2 : t0 = comp := Option.some.inj (f2.symm.trans k3)
      rw [← e1, ← e2]
      exact f3
  refine W.aast hx hb hc0 (fun q h => by cases h) (fun h => by cases h) k1 k2 rfl hkc ⟨h0, by rw [arrV_size]; exact hlt⟩ g1 (fun q h => by rw [g3] at h; cases h) (by rw [g2]; exact hkC) (by rw [g2]; exact hasg) rfl rfl d fun H1 e1 z1 o1 => ?_
  refine k ρ H1 _ ls (hH.write h hr (clO_up (hH.2.2.1 α _ h) (fun a ea => by cases ea; exact Or.inl (by rw [hv]; exact fun q => by cases q))) ?_ z1 o1) (ext_hu hEx hr) (locs_put hlo (hH.inA h hr)) hL (hcL.to dm_hu) ((clS_tl (clS_tl (clS_tl hcS))).to dm_hu)
  show H1[ρ α]? = some (arrV (tC t) n (fun j => va_rf ((va_up f i.toNatClampNeg (some β) j).map ρ)))
  rw [e1, arrV_store]
  congr 2
  funext q
  by_cases hq : q = i.toNatClampNeg
  · subst hq
    simp [updV, va_up, va_rf]
  · simp [updV, va_up, hq]
theorem V_aastoreN {α n t : Nat} {E : String} {f : Nat → Option Nat} {i : Int32} (X : Fx Z l0 R0 cc nL own ret Post) (d : decode cc pc = .ok (.aastore, 1)) (ht : ∀ tC, (tyL tC)[t]? = some (tC t, .object E)) (h : I α = some (.inl (t, aR n f))) (hr : ¬ ro α) (hi : vp_in i n) (k : V Z nL (hu I α (.inl (t, aR n (va_up f i.toNatClampNeg none)))) lv st cells slots (pc + 1)) : V Z nL I lv (.null :: .int i :: .ref α :: st) cells slots pc := by
  obtain ⟨p, l, e, R, s, m, args, below, meth, c, Q, D, tC, A, ρ0, I0⟩ := Z
  obtain ⟨⟨hx, hb, hml, hown, hts⟩, hU, hlk, hret, rfl, rfl, rfl⟩ := X
  intro ρ H locs ls hH hEx hlo hL hcL hcS
  have hlt : i.toNatClampNeg < n := Nat.not_le.mp fun q => hi (Or.inr q)
  have hc0 : H[ρ α]? = some (arrV (tC t) n (fun j => va_rf ((f j).map ρ))) := hH.1 α _ h
  have ha : ρ α < H.size := (Array.getElem?_eq_some_iff.mp hc0).1
  intro T hT Xs
  obtain ⟨X', st'⟩ := va_aastN0 Xs hx (a := ρ α) (cell := arrV (tC t) n (fun j => va_rf ((f j).map ρ))) (C := E) (j := i) (by rw [hT]; exact hc0) ((hU.1.2 t _ (ht tC)).1 n _) (fun q => by cases q) (by rw [arrV_size]; exact hi) (g := F0 m pc ls (.null :: .int i :: .ref (ρ α) :: st.map (cv ρ))) rfl (rest := st.map (cv ρ)) rfl (by rw [hb]; exact d)
  have hheap : (T.setCell (ρ α) ((arrV (tC t) n (fun j => va_rf ((f j).map ρ))).setSlot i.toNatClampNeg .null)).heap = H.setIfInBounds (ρ α) (arrV (tC t) n (fun j => va_rf ((va_up f i.toNatClampNeg none j).map ρ))) := by
    rw [← hT, arrV_store]
    have e : updV (fun j => va_rf ((f j).map ρ)) i.toNatClampNeg .null = fun j => va_rf ((va_up f i.toNatClampNeg none j).map ρ) := by
      funext q
      by_cases hq : q = i.toNatClampNeg
      · subst hq
        simp [updV, va_up, va_rf]
      · simp [updV, va_up, hq]
    rw [e]
    rfl
  obtain ⟨t2, a1, b1⟩ := k ρ _ _ ls (hH.write h hr (clO_up (hH.2.2.1 α _ h) (fun a ea => by cases ea)) (show (H.setIfInBounds (ρ α) _)[ρ α]? = some _ by simp [Array.getElem?_setIfInBounds, ha]; rfl) (by simp) (fun q hq => by simp [Array.getElem?_setIfInBounds, Ne.symm hq])) (ext_hu hEx hr) (locs_put hlo (hH.inA h hr)) hL (hcL.to dm_hu) ((clS_tl (clS_tl (clS_tl hcS))).to dm_hu) _ hheap X'
  exact ⟨t2, st' t2 a1, b1⟩
theorem V_cast {idx α ci : Nat} {C : String} {T : u_T} {N : Nat} {fs : List Value} (X : Fx Z l0 R0 cc nL own ret Post) (d : decode cc pc = .ok (.checkcast idx, 3)) (hw : Cond.classLink own idx C ∈ wsA) (hc : vwCl[ci]? = some (C, T, N)) (h : I α = some (.inr (ci, fs))) (k : V Z nL I lv (.ref α :: st) cells slots (pc + 3)) : V Z nL I lv (.ref α :: st) cells slots pc := by
  obtain ⟨p, l, e, R, s, m, args, below, meth, c, Q, D, tC, A, ρ0, I0⟩ := Z
  obtain ⟨⟨hx, hb, hml, hown, hts⟩, hU, hlk, hret, rfl, rfl, rfl⟩ := X
  intro ρ H locs ls hH hE hlo hL hcL hcS
  exact va_castS hx hb hown (hts _ hw) (hU.1.1 ci _ hc).2 (va_recv hU.1 (hH.P h) hc (q0 := 0) rfl) d (k ρ H locs ls hH hE hlo hL hcL hcS)
theorem V_castN {idx : Nat} (X : Fx Z l0 R0 cc nL own ret Post) (d : decode cc pc = .ok (.checkcast idx, 3)) (k : V Z nL I lv (.null :: st) cells slots (pc + 3)) : V Z nL I lv (.null :: st) cells slots pc := by
  obtain ⟨p, l, e, R, s, m, args, below, meth, c, Q, D, tC, A, ρ0, I0⟩ := Z
  obtain ⟨⟨hx, hb, hml, hown, hts⟩, hU, hlk, hret, rfl, rfl, rfl⟩ := X
  intro ρ H locs ls hH hE hlo hL hcL hcS
  exact lv_castN hx hb d (k ρ H locs ls hH hE hlo hL hcL hcS)
theorem V_gets {idx : Nat} (X : Fx Z l0 R0 cc nL own ret Post) (d : decode cc pc = .ok (.getstatic idx, 3)) (hw : Cond.fieldLink own idx "java/util/ArrayList" "DEFAULTCAPACITY_EMPTY_ELEMENTDATA" "[Ljava/lang/Object;" ∈ wsA) (k : V Z nL I lv (.ref zed :: st) cells slots (pc + 3)) : V Z nL I lv st cells slots pc := by
  obtain ⟨p, l, e, R, s, m, args, below, meth, c, Q, D, tC, A, ρ0, I0⟩ := Z
  obtain ⟨⟨hx, hb, hml, hown, hts⟩, hU, hlk, hret, rfl, rfl, rfl⟩ := X
  intro ρ H locs ls hH hE hlo hL hcL hcS
  obtain ⟨cf, kf, fi, f, a, cell, h1, h2, h3, h4, h5, h6, h7, h8⟩ := hH.2.2.2.2.2.1
  exact W.gets hx hb hown (hts _ hw) h1 h2 h3 h4 h5 (fun q => by rw [q] at h6; cases h6) h7 rfl d (k ρ H locs ls hH hE hlo hL hcL (clS_cons (clV_r (by rw [hH.2.2.2.2.2.2.1]; exact fun q => by cases q)) hcS))
end Arrays
end
section
/-! a method's start -/
def lvA : List Value → List (Option Value)
  | [] => []
  | v :: vs => if v.category = 2 then some v :: none :: lvA vs else some v :: lvA vs
def lv0 (av : List Value) (n : Nat) : List (Option Value) := lvA av ++ List.replicate (n - (lvA av).length) none
theorem lvA_len (ρ : Nat → Nat) : ∀ av : List Value, (lg_sl (av.map (cv ρ))).length = (lvA av).length
  | [] => rfl
  | v :: vs => by
    have ih := lvA_len ρ vs
    unfold lg_sl at ih ⊢
    rw [List.map_cons, List.flatMap_cons, List.length_append, ih, cv_cat]
    rw [lvA]
    split <;> simp <;> omega
theorem lvA_in (ρ : Nat → Nat) : ∀ (av : List Value) (k0 k : Nat) (v : Value), (lvA av)[k]? = some (some v) → (k0 + k, cv ρ v) ∈ lv_args k0 (av.map (cv ρ))
  | [], _, _, _, h => by simp [lvA] at h
  | u :: us, k0, k, v, h => by
    rw [List.map_cons, lv_args, cv_cat]
    unfold lvA at h
    split at h
    · rename_i hc
      match k, h with
      | 0, h =>
        simp at h
        subst h
        exact List.mem_cons_self
      | 1, h => simp at h
      | k + 2, h =>
        simp at h
        have := lvA_in ρ us (k0 + 2) k v h
        rw [show k0 + (k + 2) = k0 + 2 + k by omega]
        rw [if_pos hc]
        exact List.mem_cons_of_mem _ this
    · rename_i hc
      match k, h with
      | 0, h =>
        simp at h
        subst h
        exact List.mem_cons_self
      | k + 1, h =>
        simp at h
        have := lvA_in ρ us (k0 + 1) k v h
        rw [show k0 + (k + 1) = k0 + 1 + k by omega]
        rw [if_neg hc]
        exact List.mem_cons_of_mem _ this
theorem lvA_mem : ∀ {av : List Value} {v : Value}, some v ∈ lvA av → v ∈ av
  | [], _, h => by simp [lvA] at h
  | u :: us, v, h => by
    unfold lvA at h
    split at h
    · simp at h
      rcases h with rfl | h
      · exact List.mem_cons_self
      · exact List.mem_cons_of_mem _ (lvA_mem h)
    · simp at h
      rcases h with rfl | h
      · exact List.mem_cons_self
      · exact List.mem_cons_of_mem _ (lvA_mem h)
theorem lv0_at {av : List Value} {n k : Nat} {v : Value} (h : (lv0 av n)[k]? = some (some v)) : (lvA av)[k]? = some (some v) := by
  unfold lv0 at h
  rw [List.getElem?_append] at h
  split at h
  · exact h
  · rw [List.getElem?_replicate] at h
    split at h <;> simp at h
theorem lv0_mem {av : List Value} {n : Nat} {v : Value} (h : some v ∈ lv0 av n) : v ∈ av := by
  unfold lv0 at h
  rcases List.mem_append.mp h with h | h
  · exact lvA_mem h
  · have := (List.mem_replicate.mp h).2
    cases this
theorem AM_of {l : Launch} {y : MethodName} {cc : ByteArray} {maxL : Nat} {ret : Option FieldType} {rm : Room} {av : List Value} {I0 : aH} {Post : Option Value → aH → Prop} (own : String) (hy : plainName y.cls = true) (ho : y.cls = own) (lvl : List (Option Value)) (hlv : lv0 av maxL = lvl) (hlen : (lvA av).length ≤ maxL)
    (body : ∀ Z, Fx Z l rm cc maxL own ret Post → Nm Z y.name → V Z maxL I0 lvl [] 0 0 0) : AM l y cc maxL ret rm av I0 Post := by
  intro D tC A ρ0 hcl
  refine Met.ofW (cc := cc) (maxL := maxL) (ret := ret) hy rfl ?_
  intro p e s m args below meth c s₁ B hml hv
  obtain ⟨rfl, hH, hU⟩ := hv
  have hts := atoms_spec (ws := Cond.code y cc maxL ret :: wsA) B.pre
  have hown : s.vm.findClass y.cls = some m.cls := findClass_of_methodNamed B.named
  have hlocks := B.notSynchronized
  have hname := (name_of_methodNamed B.named B.method).1
  rw [lg_entry_eq]
  have hl := lv_entry (av.map (cv ρ0)) (n := maxL) (by rw [lvA_len]; exact hlen)
  subst ho
  subst hlv
  exact body (p, l, e, rm, s, m, (av.map (cv ρ0)).toArray, below, meth, c, MQ below (QcV D tC A ρ0 I0 Post) (av.map (cv ρ0)).toArray s rm.cells rm.slots A, D, tC, A, ρ0, I0) ⟨⟨B.exec, B.bytes, hml, hown, fun w hw => hts w (List.mem_cons_of_mem _ hw)⟩, hU, hlocks, B.returns, rfl, rfl, rfl⟩ hname ρ0 s.heap [] _ hH ext.rf (fun _ h => by cases h)
    ⟨hl.1, hl.2.1, fun k v hk => hl.2.2 (k, cv ρ0 v) (by have := lvA_in ρ0 av 0 k v (lv0_at hk); rwa [Nat.zero_add] at this)⟩ (fun v hv => hcl v (lv0_mem hv)) (fun _ h => by cases h)
/-- a method's entry in the tables -/
def MK (own : String) (idx : Nat) (y : MethodName) (cc : ByteArray) (maxL : Nat) (ret : Option FieldType) (n : Nat) : Prop := Cond.methodLink own idx y ∈ wsA ∧ Cond.initialized y.cls ∈ wsA ∧ Cond.code y cc maxL ret ∈ wsA ∧ (y.cls ≠ "java/lang/invoke/MethodHandle" ∧ y.cls ≠ "java/lang/invoke/VarHandle" ∧ (parseMethodDescriptor y.desc).map (fun d => d.parameters.length) = some n)
theorem pc_blind {D : va_G} {tC : Nat → ClassId} {A : Nat → Prop} {ρ : Nat → Nat} {I : aH} {av : List Value} : FrameBlind (fun a U => a = (av.map (cv ρ)).toArray ∧ okH D tC A ρ I U U.heap ∧ okU D tC (ρ mirr) U) := by
  intro a U g mk h
  refine ⟨h.1, okH.moved (u := U) (U := U.calling g mk a) (Vm.Alike.refl U.vm) h.2.1, ?_⟩
  obtain ⟨h1, h2, h3, h4, h5⟩ := h.2.2
  refine ⟨va_K.moved (u := U) (U := U.calling g mk a) (Vm.Alike.refl U.vm) h1, fun w hw => ?_, va_AO.moved (u := U) (U := U.calling g mk a) (Vm.Alike.refl U.vm) h3, va_AO.moved (u := U) (U := U.calling g mk a) (Vm.Alike.refl U.vm) h4, va_Mi.moved (u := U) (U := U.calling g mk a) (Vm.Alike.refl U.vm) h5⟩
  have hz := h2 w hw
  refine va_Nw.same ?_ (rfl : U.vm = (U.calling g mk a).vm) hz
  simp only [nwL, List.mem_cons, List.not_mem_nil, or_false] at hw
  rcases hw with rfl | rfl | rfl | rfl | rfl | rfl | rfl | rfl | rfl | rfl <;> rfl
theorem toL_map {f : Value → Value} (r : Option Value) : (r.map f).toList = r.toList.map f := by cases r <;> rfl
section Calls
variable {Z : Zt} {l0 : Launch} {R0 : Room} {cc : ByteArray} {nL : Nat} {own : String} {ret : Option FieldType} {Post : Option Value → aH → Prop} {I : aH} {lv : List (Option Value)} {st : List Value} {cells slots pc : Nat}
/-- what is left behind any call -/
theorem call_core {p : Program} {l : Launch} {e : Env} {R : Room} {s : State} {m : MethodId} {args : Array Value} {below : List Frame} {meth : Method} {c : Code} {Q : State → Prop} {D : va_G} {tC : Nat → ClassId} {A : Nat → Prop} {ρ0 ρ : Nat → Nat} {I0 : aH} {H : Heap} {locs : List Loc} {ls : Array Slot} {rest st0 : List Value} {mc ms : Nat} {a : Array Value} {P : Option Value → aH → Prop}
    (hr : va_Run p l e R s m args below meth c H locs cells slots mc ms (F0 m pc ls st0) (rest.map (cv ρ)) (QcV D tC A ρ I P a) A) (hE : ext ρ0 I0 ρ I) (hlo : ∀ q ∈ locs, A q.base) (hL : hasL ρ nL ls lv) (hcL : clL I lv) (hcS : clS I rest)
    (kk : ∀ (r : Option Value) (I' : aH), P r I' → V (p, l, e, R, s, m, args, below, meth, c, Q, D, tC, A, ρ0, I0) nL I' lv (r.toList ++ rest) (cells + mc) (slots + ms) (pc + 3)) : W p l e R s m args below meth c H locs cells slots Q (F0 m pc ls st0) := by
  intro T hT Xs
  obtain ⟨v, st₀, t, T', L, h0, X', hLo, e1, e2, ⟨r, I', ρ', hv, hp, hok, hex, hcl⟩, stp⟩ := hr T hT Xs
  have hv : v = r.map (cv ρ') := by injection hv
  subst hv
  have hdm := ext_dm hex
  have hok' : okH D tC A ρ' I' s T'.heap := by
    rw [e1]
    exact okH.moved (by rw [← e2]; exact X'.warmed.alike.symm) hok
  have hst : clS I' (r.toList ++ rest) := by
    intro w hw
    rcases List.mem_append.mp hw with h | h
    · exact hcl w (by simpa using h)
    · exact clV.to hdm (hcS w h)
  have hlo' : ∀ q ∈ locs ++ L, A q.base := by
    intro q hq
    rcases List.mem_append.mp hq with h | h
    · exact hlo q h
    · exact hLo q h
  obtain ⟨t2, a1, b1⟩ := kk r I' hp ρ' T'.heap (locs ++ L) ls hok' (hE.tr hex) hlo' (hL.to (fun β hβ => hex.1 β hβ) hcL) (hcL.to hdm) hst T' rfl X'
  rw [List.map_append, cvS_congr (fun β hβ => hex.1 β hβ) hcS, ← toL_map] at a1
  exact ⟨t2, stp t2 a1, b1⟩
theorem V_callV {idx : Nat} {y : MethodName} {ccY : ByteArray} {maxY n : Nat} {retY : Option FieldType} {rm : Room} {b : Nat} {P : Option Value → aH → Prop} {ci : Nat} {T : u_T} {N : Nat} {fs : List Value} (X : Fx Z l0 R0 cc nL own ret Post) (d : decode cc pc = .ok (.invokevirtual idx, 3)) (M : MK own idx y ccY maxY retY n) (hi : Cond.instanceMethod y ∈ wsA ∧ Cond.selects y.cls y y ∈ wsA) (As rest : List Value) (hM : AM l0 y ccY maxY retY rm (.ref b :: As) I P) (hst : st = As.reverse ++ .ref b :: rest) (hob : I b = some (.inr (ci, fs))) (hci : vwCl[ci]? = some (y.cls, T, N)) (hn : As.length = n) (hw : (rest.map fun v => v.category).sum ≤ 8) (hR : rm.frames + 1 ≤ R0.frames ∧ 8 + (maxY + 11) + rm.locals ≤ R0.locals) (hf : cells + rm.cells ≤ R0.cells ∧ slots + rm.slots ≤ R0.slots)
    (kk : ∀ (r : Option Value) (I' : aH), P r I' → V Z nL I' lv (r.toList ++ rest) (cells + rm.cells) (slots + rm.slots) (pc + 3)) : V Z nL I lv st cells slots pc := by
  obtain ⟨p, l, e, R, s, m, args, below, meth, c, Q, D, tC, A, ρ0, I0⟩ := Z
  obtain ⟨⟨hx, hb, hml, hown, hts⟩, hU, hlk, hret, rfl, rfl, rfl⟩ := X
  intro ρ H locs ls hH hE hlo hL hcL hcS
  subst hst
  have hcA : clS I (.ref b :: As) := by
    refine clS_cons (hcS _ (List.mem_append_right _ List.mem_cons_self)) (fun w hw => hcS w (List.mem_append_left _ (List.mem_reverse.mpr hw)))
  have hcR : clS I rest := fun w hw => hcS w (List.mem_append_right _ (List.mem_cons_of_mem _ hw))
  have hmi : ρ mirr = ρ0 mirr := hE.1 mirr (Or.inr rfl)
  have hcw : CallW R s args own y.cls idx y ccY maxY retY (.code y ccY maxY retY :: wsA) rm rm.cells rm.slots n := ⟨callB_of n hts (wsA_code M.2.2.1) rfl rfl rfl (hts _ M.2.1) (hts _ M.1) M.2.2.2 hR, hts _ hi.1, hts _ hi.2⟩
  refine call_core (P := P) (rest := rest) (va_runV (C := y.cls) (As := As.map (cv ρ)) ⟨hx, hb, hml, hown, hts⟩ (hM D tC A ρ hcA) hcw ⟨pc_blind, va_recv hU.1 (hH.P hob) hci (q0 := 0) rfl, fun U hUh hW => ⟨rfl, by rw [hUh]; exact okH.moved hW.alike hH, by rw [hmi]; exact okU.warm hW hU⟩⟩ rfl (by rw [List.length_map]; exact hn) hL.1 ?_ ?_ d hf) hE hlo hL hcL hcR kk
  · show List.map (cv ρ) (As.reverse ++ .ref b :: rest) = _
    rw [List.map_append, List.map_reverse, List.map_cons]
    rfl
  · show 2 * 0 + _ ≤ 8
    rw [List.map_map, show ((fun v : Value => v.category) ∘ cv ρ) = fun v => v.category from funext (cv_cat ρ)]
    omega
theorem V_callS {idx : Nat} {y : MethodName} {ccY : ByteArray} {maxY n : Nat} {retY : Option FieldType} {rm : Room} {P : Option Value → aH → Prop} (X : Fx Z l0 R0 cc nL own ret Post) (d : decode cc pc = .ok (.invokestatic idx, 3)) (M : MK own idx y ccY maxY retY n) (hi : Cond.static y ∈ wsA) (As rest : List Value) (hM : AM l0 y ccY maxY retY rm As I P) (hst : st = As.reverse ++ rest) (hn : As.length = n) (hw : (rest.map fun v => v.category).sum ≤ 8) (hR : rm.frames + 1 ≤ R0.frames ∧ 8 + (maxY + 11) + rm.locals ≤ R0.locals) (hf : cells + rm.cells ≤ R0.cells ∧ slots + rm.slots ≤ R0.slots)
    (kk : ∀ (r : Option Value) (I' : aH), P r I' → V Z nL I' lv (r.toList ++ rest) (cells + rm.cells) (slots + rm.slots) (pc + 3)) : V Z nL I lv st cells slots pc := by
  obtain ⟨p, l, e, R, s, m, args, below, meth, c, Q, D, tC, A, ρ0, I0⟩ := Z
  obtain ⟨⟨hx, hb, hml, hown, hts⟩, hU, hlk, hret, rfl, rfl, rfl⟩ := X
  intro ρ H locs ls hH hE hlo hL hcL hcS
  subst hst
  have hcA : clS I As := fun w hw => hcS w (List.mem_append_left _ (List.mem_reverse.mpr hw))
  have hcR : clS I rest := fun w hw => hcS w (List.mem_append_right _ hw)
  have hmi : ρ mirr = ρ0 mirr := hE.1 mirr (Or.inr rfl)
  have hcw : CallB R s args own idx y ccY maxY retY (.code y ccY maxY retY :: wsA) rm rm.cells rm.slots n ∧ (Cond.static y).before args s = true := ⟨callB_of n hts (wsA_code M.2.2.1) rfl rfl rfl (hts _ M.2.1) (hts _ M.1) M.2.2.2 hR, hts _ hi⟩
  refine call_core (P := P) (rest := rest) (va_runS (As := As.map (cv ρ)) ⟨hx, hb, hml, hown, hts⟩ (hM D tC A ρ hcA) hcw ⟨pc_blind, fun U hUh hW => ⟨rfl, by rw [hUh]; exact okH.moved hW.alike hH, by rw [hmi]; exact okU.warm hW hU⟩⟩ rfl (by rw [List.length_map]; exact hn) hL.1 ?_ ?_ d hf) hE hlo hL hcL hcR kk
  · show List.map (cv ρ) (As.reverse ++ rest) = _
    rw [List.map_append, List.map_reverse]
  · show 2 * 0 + _ ≤ 8
    rw [List.map_map, show ((fun v : Value => v.category) ∘ cv ρ) = fun v => v.category from funext (cv_cat ρ)]
    omega
theorem V_callSN {idx : Nat} {y : MethodName} {host : String} {ccY : ByteArray} {maxY n : Nat} {retY : Option FieldType} {rm : Room} {P : Option Value → aH → Prop} (X : Fx Z l0 R0 cc nL own ret Post) (d : decode cc pc = .ok (.invokestatic idx, 3)) (M0 : Cond.methodLinkNest own idx y host ∈ nwL) (M1 : Cond.initialized y.cls ∈ wsA) (M2 : Cond.code y ccY maxY retY ∈ wsA) (M3 : y.cls ≠ "java/lang/invoke/MethodHandle" ∧ y.cls ≠ "java/lang/invoke/VarHandle" ∧ (parseMethodDescriptor y.desc).map (fun d => d.parameters.length) = some n) (hi : Cond.static y ∈ wsA) (As rest : List Value) (hM : AM l0 y ccY maxY retY rm As I P) (hst : st = As.reverse ++ rest) (hn : As.length = n) (hw : (rest.map fun v => v.category).sum ≤ 8) (hR : rm.frames + 1 ≤ R0.frames ∧ 8 + (maxY + 11) + rm.locals ≤ R0.locals) (hf : cells + rm.cells ≤ R0.cells ∧ slots + rm.slots ≤ R0.slots)
    (kk : ∀ (r : Option Value) (I' : aH), P r I' → V Z nL I' lv (r.toList ++ rest) (cells + rm.cells) (slots + rm.slots) (pc + 3)) : V Z nL I lv st cells slots pc := by
  obtain ⟨p, l, e, R, s, m, args, below, meth, c, Q, D, tC, A, ρ0, I0⟩ := Z
  obtain ⟨⟨hx, hb, hml, hown, hts⟩, hU, hlk, hret, rfl, rfl, rfl⟩ := X
  intro ρ H locs ls hH hE hlo hL hcL hcS
  subst hst
  have hcA : clS I As := fun w hw => hcS w (List.mem_append_left _ (List.mem_reverse.mpr hw))
  have hcR : clS I rest := fun w hw => hcS w (List.mem_append_right _ hw)
  have hmi : ρ mirr = ρ0 mirr := hE.1 mirr (Or.inr rfl)
  have hcw : va_CN R s args own idx y host ccY maxY retY (.code y ccY maxY retY :: wsA) rm rm.cells rm.slots n ∧ (Cond.static y).before args s = true ∧ True := ⟨va_cnB n hts (wsA_code M2) rfl rfl rfl (hU.2.1 _ M0) (hts _ M1) M3 hR, hts _ hi, trivial⟩
  refine call_core (P := P) (rest := rest) (va_runSN (As := As.map (cv ρ)) ⟨hx, hb, hml, hown, hts⟩ (hM D tC A ρ hcA) hcw ⟨pc_blind, fun U hUh hW => ⟨rfl, by rw [hUh]; exact okH.moved hW.alike hH, by rw [hmi]; exact okU.warm hW hU⟩⟩ rfl (by rw [List.length_map]; exact hn) hL.1 ?_ ?_ d hf) hE hlo hL hcL hcR kk
  · show List.map (cv ρ) (As.reverse ++ rest) = _
    rw [List.map_append, List.map_reverse]
  · show 2 * 0 + _ ≤ 8
    rw [List.map_map, show ((fun v : Value => v.category) ∘ cv ρ) = fun v => v.category from funext (cv_cat ρ)]
    omega
theorem V_callI {idx : Nat} {y : MethodName} {ccY : ByteArray} {maxY n : Nat} {rm : Room} {b : Nat} {P : Option Value → aH → Prop} (X : Fx Z l0 R0 cc nL own ret Post) (d : decode cc pc = .ok (.invokespecial idx, 3)) (M : MK own idx y ccY maxY none n) (hi : y.name = "<init>" ∧ Cond.instanceMethod y ∈ wsA) (As rest : List Value) (hM : AM l0 y ccY maxY none rm (.ref b :: As) I P) (hst : st = As.reverse ++ .ref b :: rest) (hn : As.length = n) (hw : (rest.map fun v => v.category).sum ≤ 8) (hR : rm.frames + 1 ≤ R0.frames ∧ 8 + (maxY + 11) + rm.locals ≤ R0.locals) (hf : cells + rm.cells ≤ R0.cells ∧ slots + rm.slots ≤ R0.slots)
    (kk : ∀ (r : Option Value) (I' : aH), P r I' → V Z nL I' lv (r.toList ++ rest) (cells + rm.cells) (slots + rm.slots) (pc + 3)) : V Z nL I lv st cells slots pc := by
  obtain ⟨p, l, e, R, s, m, args, below, meth, c, Q, D, tC, A, ρ0, I0⟩ := Z
  obtain ⟨⟨hx, hb, hml, hown, hts⟩, hU, hlk, hret, rfl, rfl, rfl⟩ := X
  intro ρ H locs ls hH hE hlo hL hcL hcS
  subst hst
  have hcA : clS I (.ref b :: As) := by
    refine clS_cons (hcS _ (List.mem_append_right _ List.mem_cons_self)) (fun w hw => hcS w (List.mem_append_left _ (List.mem_reverse.mpr hw)))
  have hcR : clS I rest := fun w hw => hcS w (List.mem_append_right _ (List.mem_cons_of_mem _ hw))
  have hmi : ρ mirr = ρ0 mirr := hE.1 mirr (Or.inr rfl)
  have hcw : CallB R s args own idx y ccY maxY none (.code y ccY maxY none :: wsA) rm rm.cells rm.slots n ∧ y.name = "<init>" ∧ (Cond.instanceMethod y).before args s = true := ⟨callB_of n hts (wsA_code M.2.2.1) rfl rfl rfl (hts _ M.2.1) (hts _ M.1) M.2.2.2 hR, hi.1, hts _ hi.2⟩
  refine call_core (P := P) (rest := rest) (va_runI (b := ρ b) (As := As.map (cv ρ)) ⟨hx, hb, hml, hown, hts⟩ (hM D tC A ρ hcA) hcw ⟨pc_blind, fun U hUh hW => ⟨rfl, by rw [hUh]; exact okH.moved hW.alike hH, by rw [hmi]; exact okU.warm hW hU⟩⟩ rfl (by rw [List.length_map]; exact hn) hL.1 ?_ ?_ d hf) hE hlo hL hcL hcR kk
  · show List.map (cv ρ) (As.reverse ++ .ref b :: rest) = _
    rw [List.map_append, List.map_reverse, List.map_cons]
    rfl
  · show 2 * 0 + _ ≤ 8
    rw [List.map_map, show ((fun v : Value => v.category) ∘ cv ρ) = fun v => v.category from funext (cv_cat ρ)]
    omega
/-- the ends -/
theorem V_iret {v : Int32} {ty : FieldType} (X : Fx Z l0 R0 cc nL own (some ty) Post) (d : decode cc pc = .ok (.ireturn, 1)) (hn : narrow ty (.int v) = .int v) (hce : cells ≤ R0.cells) (hsl : slots ≤ R0.slots) (hp : Post (some (.int v)) I) : V Z nL I lv [.int v] cells slots pc := by
  obtain ⟨p, l, e, R, s, m, args, below, meth, c, Q, D, tC, A, ρ0, I0⟩ := Z
  obtain ⟨⟨hx, hb, hml, hown, hts⟩, hU, hlk, hret, rfl, rfl, rfl⟩ := X
  intro ρ H locs ls hH hE hlo hL hcL hcS
  refine W.widen hce hsl ?_
  exact W.zret hx hb hret hn (fun t ht hW => ⟨some (.int v), I, ρ, rfl, hp, by rw [ht]; exact okH.moved hW.alike hH, hE, fun w hw => by cases hw; exact clV_i⟩) hlo d hlk
theorem V_lret {v : Int64} (X : Fx Z l0 R0 cc nL own (some .long) Post) (d : decode cc pc = .ok (.lreturn, 1)) (hce : cells ≤ R0.cells) (hsl : slots ≤ R0.slots) (hp : Post (some (.long v)) I) : V Z nL I lv [.long v] cells slots pc := by
  obtain ⟨p, l, e, R, s, m, args, below, meth, c, Q, D, tC, A, ρ0, I0⟩ := Z
  obtain ⟨⟨hx, hb, hml, hown, hts⟩, hU, hlk, hret, rfl, rfl, rfl⟩ := X
  intro ρ H locs ls hH hE hlo hL hcL hcS
  refine W.widen hce hsl ?_
  exact W.lret hx hb hret (fun t ht hW => ⟨some (.long v), I, ρ, rfl, hp, by rw [ht]; exact okH.moved hW.alike hH, hE, fun w hw => by cases hw; exact clV_l⟩) hlo d hlk
theorem V_vret (X : Fx Z l0 R0 cc nL own none Post) (d : decode cc pc = .ok (.return_, 1)) (hce : cells ≤ R0.cells) (hsl : slots ≤ R0.slots) (hp : Post none I) : V Z nL I lv [] cells slots pc := by
  obtain ⟨p, l, e, R, s, m, args, below, meth, c, Q, D, tC, A, ρ0, I0⟩ := Z
  obtain ⟨⟨hx, hb, hml, hown, hts⟩, hU, hlk, hret, rfl, rfl, rfl⟩ := X
  intro ρ H locs ls hH hE hlo hL hcL hcS
  refine W.widen hce hsl ?_
  exact W.vret hx hb hret (fun t ht hW => ⟨none, I, ρ, rfl, hp, by rw [ht]; exact okH.moved hW.alike hH, hE, fun w hw => by cases hw⟩) hlo d hlk
theorem V_aret {v : Value} {rt : FieldType} (X : Fx Z l0 R0 cc nL own (some rt) Post) (d : decode cc pc = .ok (.areturn, 1)) (hrt : (∃ n, rt = .object n) ∨ ∃ t, rt = .array t) (hv : isR v = true) (hce : cells ≤ R0.cells) (hsl : slots ≤ R0.slots) (hp : Post (some v) I) : V Z nL I lv [v] cells slots pc := by
  obtain ⟨p, l, e, R, s, m, args, below, meth, c, Q, D, tC, A, ρ0, I0⟩ := Z
  obtain ⟨⟨hx, hb, hml, hown, hts⟩, hU, hlk, hret, rfl, rfl, rfl⟩ := X
  intro ρ H locs ls hH hE hlo hL hcL hcS
  refine W.widen hce hsl ?_
  have hv2 : cv ρ v = .null ∨ ∃ a, cv ρ v = .ref a := by
    rcases isR_or hv with rfl | ⟨a, rfl⟩
    · exact Or.inl rfl
    · exact Or.inr ⟨_, rfl⟩
  exact W.aret hx hb hret hrt hv2 (fun t ht hW => ⟨some v, I, ρ, rfl, hp, by rw [ht]; exact okH.moved hW.alike hH, hE, fun w hw => by cases hw; exact clS_hd hcS⟩) hlo d hlk
theorem V_objInit {idx α : Nat} (X : Fx Z l0 R0 cc nL own ret Post) (d : decode cc pc = .ok (.invokespecial idx, 3)) (h1 : Cond.methodLink own idx Lib.objectInit ∈ wsA) (h2 : Cond.instanceMethod Lib.objectInit ∈ wsA) (h3 : Cond.code Lib.objectInit ⟨#[0xb1]⟩ 1 none ∈ wsA) (hf : 1 ≤ R0.frames) (hw : (st.map fun v => v.category).sum + 12 ≤ R0.locals) (k : V Z nL I lv st cells slots (pc + 3)) : V Z nL I lv (.ref α :: st) cells slots pc := by
  obtain ⟨p, l, e, R, s, m, args, below, meth, c, Q, D, tC, A, ρ0, I0⟩ := Z
  obtain ⟨⟨hx, hb, hml, hown, hts⟩, hU, hlk, hret, rfl, rfl, rfl⟩ := X
  intro ρ H locs ls hH hE hlo hL hcL hcS
  refine W.objInit hx hb hown (hts _ h1) (hts _ h2) (hts _ h3) rfl (by rw [hml]; exact hL.1) rfl d hf ?_ (k ρ H locs ls hH hE hlo hL hcL (clS_tl hcS))
  show 2 * 0 + _ + 12 ≤ _
  rw [List.map_map, show ((fun v : Value => v.category) ∘ cv ρ) = fun v => v.category from funext (cv_cat ρ)]
  omega
theorem V_widen {c2 s2 : Nat} (h1 : cells ≤ c2) (h2 : slots ≤ s2) (k : V Z nL I lv st c2 s2 pc) : V Z nL I lv st cells slots pc := by
  obtain ⟨p, l, e, R, s, m, args, below, meth, c, Q, D, tC, A, ρ0, I0⟩ := Z
  intro ρ H locs ls hH hE hlo hL hcL hcS
  exact W.widen h1 h2 (k ρ H locs ls hH hE hlo hL hcL hcS)
end Calls
end
section
theorem dX0_init_0 : decode cX0_init 0 = .ok (.aload_n 0, 1) := by decide +kernel
theorem dX0_init_1 : decode cX0_init 1 = .ok (.invokespecial 1, 3) := by decide +kernel
theorem dX0_init_4 : decode cX0_init 4 = .ok (.aload_n 0, 1) := by decide +kernel
theorem dX0_init_5 : decode cX0_init 5 = .ok (.iconst 0, 1) := by decide +kernel
theorem dX0_init_6 : decode cX0_init 6 = .ok (.putfield 7, 3) := by decide +kernel
theorem dX0_init_9 : decode cX0_init 9 = .ok (.aload_n 0, 1) := by decide +kernel
theorem dX0_init_10 : decode cX0_init 10 = .ok (.lload_n 1, 1) := by decide +kernel
theorem dX0_init_11 : decode cX0_init 11 = .ok (.putfield 13, 3) := by decide +kernel
theorem dX0_init_14 : decode cX0_init 14 = .ok (.aload_n 0, 1) := by decide +kernel
theorem dX0_init_15 : decode cX0_init 15 = .ok (.iload_n 3, 1) := by decide +kernel
theorem dX0_init_16 : decode cX0_init 16 = .ok (.putfield 17, 3) := by decide +kernel
theorem dX0_init_19 : decode cX0_init 19 = .ok (.aload_n 0, 1) := by decide +kernel
theorem dX0_init_20 : decode cX0_init 20 = .ok (.iload 4, 2) := by decide +kernel
theorem dX0_init_22 : decode cX0_init 22 = .ok (.putfield 21, 3) := by decide +kernel
theorem dX0_init_25 : decode cX0_init 25 = .ok (.return_, 1) := by decide +kernel
theorem dX1_init_0 : decode cX1_init 0 = .ok (.aload_n 0, 1) := by decide +kernel
theorem dX1_init_1 : decode cX1_init 1 = .ok (.invokespecial 1, 3) := by decide +kernel
theorem dX1_init_4 : decode cX1_init 4 = .ok (.aload_n 0, 1) := by decide +kernel
theorem dX1_init_5 : decode cX1_init 5 = .ok (.iconst 0, 1) := by decide +kernel
theorem dX1_init_6 : decode cX1_init 6 = .ok (.putfield 9, 3) := by decide +kernel
theorem dX1_init_9 : decode cX1_init 9 = .ok (.aload_n 0, 1) := by decide +kernel
theorem dX1_init_10 : decode cX1_init 10 = .ok (.iconst 0, 1) := by decide +kernel
theorem dX1_init_11 : decode cX1_init 11 = .ok (.putfield 13, 3) := by decide +kernel
theorem dX1_init_14 : decode cX1_init 14 = .ok (.aload_n 0, 1) := by decide +kernel
theorem dX1_init_15 : decode cX1_init 15 = .ok (.lconst 0, 1) := by decide +kernel
theorem dX1_init_16 : decode cX1_init 16 = .ok (.putfield 17, 3) := by decide +kernel
theorem dX1_init_19 : decode cX1_init 19 = .ok (.aload_n 0, 1) := by decide +kernel
theorem dX1_init_20 : decode cX1_init 20 = .ok (.iconst 0, 1) := by decide +kernel
theorem dX1_init_21 : decode cX1_init 21 = .ok (.putfield 21, 3) := by decide +kernel
theorem dX1_init_24 : decode cX1_init 24 = .ok (.aload_n 0, 1) := by decide +kernel
theorem dX1_init_25 : decode cX1_init 25 = .ok (.iload_n 1, 1) := by decide +kernel
theorem dX1_init_26 : decode cX1_init 26 = .ok (.putfield 24, 3) := by decide +kernel
theorem dX1_init_29 : decode cX1_init 29 = .ok (.aload_n 0, 1) := by decide +kernel
theorem dX1_init_30 : decode cX1_init 30 = .ok (.aload_n 2, 1) := by decide +kernel
theorem dX1_init_31 : decode cX1_init 31 = .ok (.putfield 27, 3) := by decide +kernel
theorem dX1_init_34 : decode cX1_init 34 = .ok (.aload_n 0, 1) := by decide +kernel
theorem dX1_init_35 : decode cX1_init 35 = .ok (.aload_n 3, 1) := by decide +kernel
theorem dX1_init_36 : decode cX1_init 36 = .ok (.putfield 31, 3) := by decide +kernel
theorem dX1_init_39 : decode cX1_init 39 = .ok (.aload_n 0, 1) := by decide +kernel
theorem dX1_init_40 : decode cX1_init 40 = .ok (.iload 4, 2) := by decide +kernel
theorem dX1_init_42 : decode cX1_init 42 = .ok (.putfield 35, 3) := by decide +kernel
theorem dX1_init_45 : decode cX1_init 45 = .ok (.aload_n 0, 1) := by decide +kernel
theorem dX1_init_46 : decode cX1_init 46 = .ok (.iload 5, 2) := by decide +kernel
theorem dX1_init_48 : decode cX1_init 48 = .ok (.putfield 38, 3) := by decide +kernel
theorem dX1_init_51 : decode cX1_init 51 = .ok (.aload_n 0, 1) := by decide +kernel
theorem dX1_init_52 : decode cX1_init 52 = .ok (.lload 6, 2) := by decide +kernel
theorem dX1_init_54 : decode cX1_init 54 = .ok (.putfield 41, 3) := by decide +kernel
theorem dX1_init_57 : decode cX1_init 57 = .ok (.aload_n 0, 1) := by decide +kernel
theorem dX1_init_58 : decode cX1_init 58 = .ok (.aload 8, 2) := by decide +kernel
theorem dX1_init_60 : decode cX1_init 60 = .ok (.putfield 44, 3) := by decide +kernel
theorem dX1_init_63 : decode cX1_init 63 = .ok (.return_, 1) := by decide +kernel
theorem dX1_mayHave_0 : decode cX1_mayHave 0 = .ok (.iload_n 0, 1) := by decide +kernel
theorem dX1_mayHave_1 : decode cX1_mayHave 1 = .ok (.iconst 1, 1) := by decide +kernel
theorem dX1_mayHave_2 : decode cX1_mayHave 2 = .ok (.bipush 100, 2) := by decide +kernel
theorem dX1_mayHave_4 : decode cX1_mayHave 4 = .ok (.invokestatic 48, 3) := by decide +kernel
theorem dX1_mayHave_7 : decode cX1_mayHave 7 = .ok (.ifCond .eq 32, 3) := by decide +kernel
theorem dX1_mayHave_10 : decode cX1_mayHave 10 = .ok (.iload_n 1, 1) := by decide +kernel
theorem dX1_mayHave_11 : decode cX1_mayHave 11 = .ok (.iconst 1, 1) := by decide +kernel
theorem dX1_mayHave_12 : decode cX1_mayHave 12 = .ok (.bipush 8, 2) := by decide +kernel
theorem dX1_mayHave_14 : decode cX1_mayHave 14 = .ok (.invokestatic 48, 3) := by decide +kernel
theorem dX1_mayHave_17 : decode cX1_mayHave 17 = .ok (.ifCond .eq 22, 3) := by decide +kernel
theorem dX1_mayHave_20 : decode cX1_mayHave 20 = .ok (.iload_n 2, 1) := by decide +kernel
theorem dX1_mayHave_21 : decode cX1_mayHave 21 = .ok (.iconst 0, 1) := by decide +kernel
theorem dX1_mayHave_22 : decode cX1_mayHave 22 = .ok (.iconst 2, 1) := by decide +kernel
theorem dX1_mayHave_23 : decode cX1_mayHave 23 = .ok (.invokestatic 48, 3) := by decide +kernel
theorem dX1_mayHave_26 : decode cX1_mayHave 26 = .ok (.ifCond .eq 13, 3) := by decide +kernel
theorem dX1_mayHave_29 : decode cX1_mayHave 29 = .ok (.lload_n 3, 1) := by decide +kernel
theorem dX1_mayHave_30 : decode cX1_mayHave 30 = .ok (.lconst 0, 1) := by decide +kernel
theorem dX1_mayHave_31 : decode cX1_mayHave 31 = .ok (.lcmp, 1) := by decide +kernel
theorem dX1_mayHave_32 : decode cX1_mayHave 32 = .ok (.ifCond .lt 7, 3) := by decide +kernel
theorem dX1_mayHave_35 : decode cX1_mayHave 35 = .ok (.iconst 1, 1) := by decide +kernel
theorem dX1_mayHave_36 : decode cX1_mayHave 36 = .ok (.goto 4, 3) := by decide +kernel
theorem dX1_mayHave_39 : decode cX1_mayHave 39 = .ok (.iconst 0, 1) := by decide +kernel
theorem dX1_mayHave_40 : decode cX1_mayHave 40 = .ok (.ireturn, 1) := by decide +kernel
theorem dX1_switchTo_0 : decode cX1_switchTo 0 = .ok (.aload_n 0, 1) := by decide +kernel
theorem dX1_switchTo_1 : decode cX1_switchTo 1 = .ok (.getfield 9, 3) := by decide +kernel
theorem dX1_switchTo_4 : decode cX1_switchTo 4 = .ok (.ifCond .ne 7, 3) := by decide +kernel
theorem dX1_switchTo_7 : decode cX1_switchTo 7 = .ok (.iconst 1, 1) := by decide +kernel
theorem dX1_switchTo_8 : decode cX1_switchTo 8 = .ok (.goto 4, 3) := by decide +kernel
theorem dX1_switchTo_11 : decode cX1_switchTo 11 = .ok (.iconst 0, 1) := by decide +kernel
theorem dX1_switchTo_12 : decode cX1_switchTo 12 = .ok (.istore_n 3, 1) := by decide +kernel
theorem dX1_switchTo_13 : decode cX1_switchTo 13 = .ok (.aload_n 0, 1) := by decide +kernel
theorem dX1_switchTo_14 : decode cX1_switchTo 14 = .ok (.iload_n 1, 1) := by decide +kernel
theorem dX1_switchTo_15 : decode cX1_switchTo 15 = .ok (.putfield 9, 3) := by decide +kernel
theorem dX1_switchTo_18 : decode cX1_switchTo 18 = .ok (.iload_n 1, 1) := by decide +kernel
theorem dX1_switchTo_19 : decode cX1_switchTo 19 = .ok (.ifCond .ne 21, 3) := by decide +kernel
theorem dX1_switchTo_22 : decode cX1_switchTo 22 = .ok (.aload_n 0, 1) := by decide +kernel
theorem dX1_switchTo_23 : decode cX1_switchTo 23 = .ok (.iconst 0, 1) := by decide +kernel
theorem dX1_switchTo_24 : decode cX1_switchTo 24 = .ok (.putfield 13, 3) := by decide +kernel
theorem dX1_switchTo_27 : decode cX1_switchTo 27 = .ok (.aload_n 0, 1) := by decide +kernel
theorem dX1_switchTo_28 : decode cX1_switchTo 28 = .ok (.getfield 44, 3) := by decide +kernel
theorem dX1_switchTo_31 : decode cX1_switchTo 31 = .ok (.getfield 56, 3) := by decide +kernel
theorem dX1_switchTo_34 : decode cX1_switchTo 34 = .ok (.invokevirtual 60, 3) := by decide +kernel
theorem dX1_switchTo_37 : decode cX1_switchTo 37 = .ok (.goto 12, 3) := by decide +kernel
theorem dX1_switchTo_40 : decode cX1_switchTo 40 = .ok (.iload_n 3, 1) := by decide +kernel
theorem dX1_switchTo_41 : decode cX1_switchTo 41 = .ok (.ifCond .eq 8, 3) := by decide +kernel
theorem dX1_switchTo_44 : decode cX1_switchTo 44 = .ok (.aload_n 0, 1) := by decide +kernel
theorem dX1_switchTo_45 : decode cX1_switchTo 45 = .ok (.iload_n 2, 1) := by decide +kernel
theorem dX1_switchTo_46 : decode cX1_switchTo 46 = .ok (.invokevirtual 65, 3) := by decide +kernel
theorem dX1_switchTo_49 : decode cX1_switchTo 49 = .ok (.return_, 1) := by decide +kernel
theorem dX1_sample_0 : decode cX1_sample 0 = .ok (.aload_n 0, 1) := by decide +kernel
theorem dX1_sample_1 : decode cX1_sample 1 = .ok (.getfield 31, 3) := by decide +kernel
theorem dX1_sample_4 : decode cX1_sample 4 = .ok (.getfield 69, 3) := by decide +kernel
theorem dX1_sample_7 : decode cX1_sample 7 = .ok (.lstore_n 2, 1) := by decide +kernel
theorem dX1_sample_8 : decode cX1_sample 8 = .ok (.aload_n 0, 1) := by decide +kernel
theorem dX1_sample_9 : decode cX1_sample 9 = .ok (.getfield 13, 3) := by decide +kernel
theorem dX1_sample_12 : decode cX1_sample 12 = .ok (.ifCond .eq 11, 3) := by decide +kernel
theorem dX1_sample_15 : decode cX1_sample 15 = .ok (.aload_n 0, 1) := by decide +kernel
theorem dX1_sample_16 : decode cX1_sample 16 = .ok (.lload_n 2, 1) := by decide +kernel
theorem dX1_sample_17 : decode cX1_sample 17 = .ok (.invokevirtual 74, 3) := by decide +kernel
theorem dX1_sample_20 : decode cX1_sample 20 = .ok (.ifCond .eq 33, 3) := by decide +kernel
theorem dX1_sample_23 : decode cX1_sample 23 = .ok (.aload_n 0, 1) := by decide +kernel
theorem dX1_sample_24 : decode cX1_sample 24 = .ok (.iconst 1, 1) := by decide +kernel
theorem dX1_sample_25 : decode cX1_sample 25 = .ok (.putfield 13, 3) := by decide +kernel
theorem dX1_sample_28 : decode cX1_sample 28 = .ok (.aload_n 0, 1) := by decide +kernel
theorem dX1_sample_29 : decode cX1_sample 29 = .ok (.lload_n 2, 1) := by decide +kernel
theorem dX1_sample_30 : decode cX1_sample 30 = .ok (.putfield 17, 3) := by decide +kernel
theorem dX1_sample_33 : decode cX1_sample 33 = .ok (.aload_n 0, 1) := by decide +kernel
theorem dX1_sample_34 : decode cX1_sample 34 = .ok (.getfield 44, 3) := by decide +kernel
theorem dX1_sample_37 : decode cX1_sample 37 = .ok (.new 78, 3) := by decide +kernel
theorem dX1_sample_40 : decode cX1_sample 40 = .ok (.dup, 1) := by decide +kernel
theorem dX1_sample_41 : decode cX1_sample 41 = .ok (.lload_n 2, 1) := by decide +kernel
theorem dX1_sample_42 : decode cX1_sample 42 = .ok (.aload_n 0, 1) := by decide +kernel
theorem dX1_sample_43 : decode cX1_sample 43 = .ok (.getfield 24, 3) := by decide +kernel
theorem dX1_sample_46 : decode cX1_sample 46 = .ok (.iload_n 1, 1) := by decide +kernel
theorem dX1_sample_47 : decode cX1_sample 47 = .ok (.invokespecial 80, 3) := by decide +kernel
theorem dX1_sample_50 : decode cX1_sample 50 = .ok (.invokevirtual 83, 3) := by decide +kernel
theorem dX1_sample_53 : decode cX1_sample 53 = .ok (.return_, 1) := by decide +kernel
theorem dX1_isBeyondBand_0 : decode cX1_isBeyondBand 0 = .ok (.lload_n 1, 1) := by decide +kernel
theorem dX1_isBeyondBand_1 : decode cX1_isBeyondBand 1 = .ok (.aload_n 0, 1) := by decide +kernel
theorem dX1_isBeyondBand_2 : decode cX1_isBeyondBand 2 = .ok (.getfield 17, 3) := by decide +kernel
theorem dX1_isBeyondBand_5 : decode cX1_isBeyondBand 5 = .ok (.invokestatic 87, 3) := by decide +kernel
theorem dX1_isBeyondBand_8 : decode cX1_isBeyondBand 8 = .ok (.lload_n 1, 1) := by decide +kernel
theorem dX1_isBeyondBand_9 : decode cX1_isBeyondBand 9 = .ok (.aload_n 0, 1) := by decide +kernel
theorem dX1_isBeyondBand_10 : decode cX1_isBeyondBand 10 = .ok (.getfield 17, 3) := by decide +kernel
theorem dX1_isBeyondBand_13 : decode cX1_isBeyondBand 13 = .ok (.invokestatic 93, 3) := by decide +kernel
theorem dX1_isBeyondBand_16 : decode cX1_isBeyondBand 16 = .ok (.lsub, 1) := by decide +kernel
theorem dX1_isBeyondBand_17 : decode cX1_isBeyondBand 17 = .ok (.lstore_n 3, 1) := by decide +kernel
theorem dX1_isBeyondBand_18 : decode cX1_isBeyondBand 18 = .ok (.lload_n 3, 1) := by decide +kernel
theorem dX1_isBeyondBand_19 : decode cX1_isBeyondBand 19 = .ok (.lconst 0, 1) := by decide +kernel
theorem dX1_isBeyondBand_20 : decode cX1_isBeyondBand 20 = .ok (.lcmp, 1) := by decide +kernel
theorem dX1_isBeyondBand_21 : decode cX1_isBeyondBand 21 = .ok (.ifCond .lt 12, 3) := by decide +kernel
theorem dX1_isBeyondBand_24 : decode cX1_isBeyondBand 24 = .ok (.lload_n 3, 1) := by decide +kernel
theorem dX1_isBeyondBand_25 : decode cX1_isBeyondBand 25 = .ok (.aload_n 0, 1) := by decide +kernel
theorem dX1_isBeyondBand_26 : decode cX1_isBeyondBand 26 = .ok (.getfield 41, 3) := by decide +kernel
theorem dX1_isBeyondBand_29 : decode cX1_isBeyondBand 29 = .ok (.lcmp, 1) := by decide +kernel
theorem dX1_isBeyondBand_30 : decode cX1_isBeyondBand 30 = .ok (.ifCond .le 7, 3) := by decide +kernel
theorem dX1_isBeyondBand_33 : decode cX1_isBeyondBand 33 = .ok (.iconst 1, 1) := by decide +kernel
theorem dX1_isBeyondBand_34 : decode cX1_isBeyondBand 34 = .ok (.goto 4, 3) := by decide +kernel
theorem dX1_isBeyondBand_37 : decode cX1_isBeyondBand 37 = .ok (.iconst 0, 1) := by decide +kernel
theorem dX1_isBeyondBand_38 : decode cX1_isBeyondBand 38 = .ok (.ireturn, 1) := by decide +kernel
theorem dX2_init_0 : decode cX2_init 0 = .ok (.aload_n 0, 1) := by decide +kernel
theorem dX2_init_1 : decode cX2_init 1 = .ok (.invokespecial 1, 3) := by decide +kernel
theorem dX2_init_4 : decode cX2_init 4 = .ok (.aload_n 0, 1) := by decide +kernel
theorem dX2_init_5 : decode cX2_init 5 = .ok (.iconst 0, 1) := by decide +kernel
theorem dX2_init_6 : decode cX2_init 6 = .ok (.putfield 7, 3) := by decide +kernel
theorem dX2_init_9 : decode cX2_init 9 = .ok (.aload_n 0, 1) := by decide +kernel
theorem dX2_init_10 : decode cX2_init 10 = .ok (.iconst 0, 1) := by decide +kernel
theorem dX2_init_11 : decode cX2_init 11 = .ok (.putfield 13, 3) := by decide +kernel
theorem dX2_init_14 : decode cX2_init 14 = .ok (.aload_n 0, 1) := by decide +kernel
theorem dX2_init_15 : decode cX2_init 15 = .ok (.iload_n 1, 1) := by decide +kernel
theorem dX2_init_16 : decode cX2_init 16 = .ok (.putfield 16, 3) := by decide +kernel
theorem dX2_init_19 : decode cX2_init 19 = .ok (.aload_n 0, 1) := by decide +kernel
theorem dX2_init_20 : decode cX2_init 20 = .ok (.iload_n 2, 1) := by decide +kernel
theorem dX2_init_21 : decode cX2_init 21 = .ok (.putfield 20, 3) := by decide +kernel
theorem dX2_init_24 : decode cX2_init 24 = .ok (.aload_n 0, 1) := by decide +kernel
theorem dX2_init_25 : decode cX2_init 25 = .ok (.iload_n 3, 1) := by decide +kernel
theorem dX2_init_26 : decode cX2_init 26 = .ok (.putfield 23, 3) := by decide +kernel
theorem dX2_init_29 : decode cX2_init 29 = .ok (.aload_n 0, 1) := by decide +kernel
theorem dX2_init_30 : decode cX2_init 30 = .ok (.iload 4, 2) := by decide +kernel
theorem dX2_init_32 : decode cX2_init 32 = .ok (.putfield 26, 3) := by decide +kernel
theorem dX2_init_35 : decode cX2_init 35 = .ok (.aload_n 0, 1) := by decide +kernel
theorem dX2_init_36 : decode cX2_init 36 = .ok (.aload 5, 2) := by decide +kernel
theorem dX2_init_38 : decode cX2_init 38 = .ok (.putfield 29, 3) := by decide +kernel
theorem dX2_init_41 : decode cX2_init 41 = .ok (.return_, 1) := by decide +kernel
theorem dX3_init_0 : decode cX3_init 0 = .ok (.aload_n 0, 1) := by decide +kernel
theorem dX3_init_1 : decode cX3_init 1 = .ok (.invokespecial 1, 3) := by decide +kernel
theorem dX3_init_4 : decode cX3_init 4 = .ok (.aload_n 0, 1) := by decide +kernel
theorem dX3_init_5 : decode cX3_init 5 = .ok (.lconst 0, 1) := by decide +kernel
theorem dX3_init_6 : decode cX3_init 6 = .ok (.putfield 7, 3) := by decide +kernel
theorem dX3_init_9 : decode cX3_init 9 = .ok (.aload_n 0, 1) := by decide +kernel
theorem dX3_init_10 : decode cX3_init 10 = .ok (.iload_n 1, 1) := by decide +kernel
theorem dX3_init_11 : decode cX3_init 11 = .ok (.putfield 13, 3) := by decide +kernel
theorem dX3_init_14 : decode cX3_init 14 = .ok (.aload_n 0, 1) := by decide +kernel
theorem dX3_init_15 : decode cX3_init 15 = .ok (.iload_n 2, 1) := by decide +kernel
theorem dX3_init_16 : decode cX3_init 16 = .ok (.putfield 17, 3) := by decide +kernel
theorem dX3_init_19 : decode cX3_init 19 = .ok (.return_, 1) := by decide +kernel
theorem dX4_init_0 : decode cX4_init 0 = .ok (.aload_n 0, 1) := by decide +kernel
theorem dX4_init_1 : decode cX4_init 1 = .ok (.invokespecial 1, 3) := by decide +kernel
theorem dX4_init_4 : decode cX4_init 4 = .ok (.aload_n 0, 1) := by decide +kernel
theorem dX4_init_5 : decode cX4_init 5 = .ok (.new 7, 3) := by decide +kernel
theorem dX4_init_8 : decode cX4_init 8 = .ok (.dup, 1) := by decide +kernel
theorem dX4_init_9 : decode cX4_init 9 = .ok (.invokespecial 9, 3) := by decide +kernel
theorem dX4_init_12 : decode cX4_init 12 = .ok (.putfield 10, 3) := by decide +kernel
theorem dX4_init_15 : decode cX4_init 15 = .ok (.aload_n 0, 1) := by decide +kernel
theorem dX4_init_16 : decode cX4_init 16 = .ok (.iload_n 1, 1) := by decide +kernel
theorem dX4_init_17 : decode cX4_init 17 = .ok (.putfield 16, 3) := by decide +kernel
theorem dX4_init_20 : decode cX4_init 20 = .ok (.aload_n 0, 1) := by decide +kernel
theorem dX4_init_21 : decode cX4_init 21 = .ok (.iload_n 2, 1) := by decide +kernel
theorem dX4_init_22 : decode cX4_init 22 = .ok (.putfield 20, 3) := by decide +kernel
theorem dX4_init_25 : decode cX4_init 25 = .ok (.return_, 1) := by decide +kernel
theorem dX4_put_0 : decode cX4_put 0 = .ok (.aload_n 0, 1) := by decide +kernel
theorem dX4_put_1 : decode cX4_put 1 = .ok (.getfield 10, 3) := by decide +kernel
theorem dX4_put_4 : decode cX4_put 4 = .ok (.invokevirtual 24, 3) := by decide +kernel
theorem dX4_put_7 : decode cX4_put 7 = .ok (.aload_n 0, 1) := by decide +kernel
theorem dX4_put_8 : decode cX4_put 8 = .ok (.getfield 16, 3) := by decide +kernel
theorem dX4_put_11 : decode cX4_put 11 = .ok (.if_icmp .ge 15, 3) := by decide +kernel
theorem dX4_put_14 : decode cX4_put 14 = .ok (.aload_n 0, 1) := by decide +kernel
theorem dX4_put_15 : decode cX4_put 15 = .ok (.getfield 10, 3) := by decide +kernel
theorem dX4_put_18 : decode cX4_put 18 = .ok (.aload_n 1, 1) := by decide +kernel
theorem dX4_put_19 : decode cX4_put 19 = .ok (.invokevirtual 27, 3) := by decide +kernel
theorem dX4_put_22 : decode cX4_put 22 = .ok (.pop, 1) := by decide +kernel
theorem dX4_put_23 : decode cX4_put 23 = .ok (.goto 90, 3) := by decide +kernel
theorem dX4_put_26 : decode cX4_put 26 = .ok (.aload_n 0, 1) := by decide +kernel
theorem dX4_put_27 : decode cX4_put 27 = .ok (.getfield 16, 3) := by decide +kernel
theorem dX4_put_30 : decode cX4_put 30 = .ok (.iconst 1, 1) := by decide +kernel
theorem dX4_put_31 : decode cX4_put 31 = .ok (.if_icmp .ne 16, 3) := by decide +kernel
theorem dX4_put_34 : decode cX4_put 34 = .ok (.aload_n 0, 1) := by decide +kernel
theorem dX4_put_35 : decode cX4_put 35 = .ok (.getfield 10, 3) := by decide +kernel
theorem dX4_put_38 : decode cX4_put 38 = .ok (.iconst 0, 1) := by decide +kernel
theorem dX4_put_39 : decode cX4_put 39 = .ok (.aload_n 1, 1) := by decide +kernel
theorem dX4_put_40 : decode cX4_put 40 = .ok (.invokevirtual 31, 3) := by decide +kernel
theorem dX4_put_43 : decode cX4_put 43 = .ok (.pop, 1) := by decide +kernel
theorem dX4_put_44 : decode cX4_put 44 = .ok (.goto 69, 3) := by decide +kernel
theorem dX4_put_47 : decode cX4_put 47 = .ok (.aload_n 0, 1) := by decide +kernel
theorem dX4_put_48 : decode cX4_put 48 = .ok (.getfield 20, 3) := by decide +kernel
theorem dX4_put_51 : decode cX4_put 51 = .ok (.ifCond .eq 39, 3) := by decide +kernel
theorem dX4_put_54 : decode cX4_put 54 = .ok (.aload_n 0, 1) := by decide +kernel
theorem dX4_put_55 : decode cX4_put 55 = .ok (.getfield 10, 3) := by decide +kernel
theorem dX4_put_58 : decode cX4_put 58 = .ok (.iconst 0, 1) := by decide +kernel
theorem dX4_put_59 : decode cX4_put 59 = .ok (.invokevirtual 35, 3) := by decide +kernel
theorem dX4_put_62 : decode cX4_put 62 = .ok (.pop, 1) := by decide +kernel
theorem dX4_put_63 : decode cX4_put 63 = .ok (.aload_n 0, 1) := by decide +kernel
theorem dX4_put_64 : decode cX4_put 64 = .ok (.getfield 10, 3) := by decide +kernel
theorem dX4_put_67 : decode cX4_put 67 = .ok (.iconst 0, 1) := by decide +kernel
theorem dX4_put_68 : decode cX4_put 68 = .ok (.invokevirtual 39, 3) := by decide +kernel
theorem dX4_put_71 : decode cX4_put 71 = .ok (.checkcast 42, 3) := by decide +kernel
theorem dX4_put_74 : decode cX4_put 74 = .ok (.iconst 1, 1) := by decide +kernel
theorem dX4_put_75 : decode cX4_put 75 = .ok (.putfield 44, 3) := by decide +kernel
theorem dX4_put_78 : decode cX4_put 78 = .ok (.aload_n 0, 1) := by decide +kernel
theorem dX4_put_79 : decode cX4_put 79 = .ok (.getfield 10, 3) := by decide +kernel
theorem dX4_put_82 : decode cX4_put 82 = .ok (.aload_n 1, 1) := by decide +kernel
theorem dX4_put_83 : decode cX4_put 83 = .ok (.invokevirtual 27, 3) := by decide +kernel
theorem dX4_put_86 : decode cX4_put 86 = .ok (.pop, 1) := by decide +kernel
theorem dX4_put_87 : decode cX4_put 87 = .ok (.goto 26, 3) := by decide +kernel
theorem dX4_put_90 : decode cX4_put 90 = .ok (.aload_n 1, 1) := by decide +kernel
theorem dX4_put_91 : decode cX4_put 91 = .ok (.iconst 1, 1) := by decide +kernel
theorem dX4_put_92 : decode cX4_put 92 = .ok (.putfield 44, 3) := by decide +kernel
theorem dX4_put_95 : decode cX4_put 95 = .ok (.aload_n 0, 1) := by decide +kernel
theorem dX4_put_96 : decode cX4_put 96 = .ok (.getfield 10, 3) := by decide +kernel
theorem dX4_put_99 : decode cX4_put 99 = .ok (.aload_n 0, 1) := by decide +kernel
theorem dX4_put_100 : decode cX4_put 100 = .ok (.getfield 10, 3) := by decide +kernel
theorem dX4_put_103 : decode cX4_put 103 = .ok (.invokevirtual 24, 3) := by decide +kernel
theorem dX4_put_106 : decode cX4_put 106 = .ok (.iconst 1, 1) := by decide +kernel
theorem dX4_put_107 : decode cX4_put 107 = .ok (.isub, 1) := by decide +kernel
theorem dX4_put_108 : decode cX4_put 108 = .ok (.aload_n 1, 1) := by decide +kernel
theorem dX4_put_109 : decode cX4_put 109 = .ok (.invokevirtual 31, 3) := by decide +kernel
theorem dX4_put_112 : decode cX4_put 112 = .ok (.pop, 1) := by decide +kernel
theorem dX4_put_113 : decode cX4_put 113 = .ok (.return_, 1) := by decide +kernel
theorem dX4_firstHasBit_0 : decode cX4_firstHasBit 0 = .ok (.aload_n 0, 1) := by decide +kernel
theorem dX4_firstHasBit_1 : decode cX4_firstHasBit 1 = .ok (.getfield 10, 3) := by decide +kernel
theorem dX4_firstHasBit_4 : decode cX4_firstHasBit 4 = .ok (.invokevirtual 47, 3) := by decide +kernel
theorem dX4_firstHasBit_7 : decode cX4_firstHasBit 7 = .ok (.ifCond .ne 24, 3) := by decide +kernel
theorem dX4_firstHasBit_10 : decode cX4_firstHasBit 10 = .ok (.aload_n 0, 1) := by decide +kernel
theorem dX4_firstHasBit_11 : decode cX4_firstHasBit 11 = .ok (.getfield 10, 3) := by decide +kernel
theorem dX4_firstHasBit_14 : decode cX4_firstHasBit 14 = .ok (.iconst 0, 1) := by decide +kernel
theorem dX4_firstHasBit_15 : decode cX4_firstHasBit 15 = .ok (.invokevirtual 39, 3) := by decide +kernel
theorem dX4_firstHasBit_18 : decode cX4_firstHasBit 18 = .ok (.checkcast 42, 3) := by decide +kernel
theorem dX4_firstHasBit_21 : decode cX4_firstHasBit 21 = .ok (.getfield 44, 3) := by decide +kernel
theorem dX4_firstHasBit_24 : decode cX4_firstHasBit 24 = .ok (.ifCond .eq 7, 3) := by decide +kernel
theorem dX4_firstHasBit_27 : decode cX4_firstHasBit 27 = .ok (.iconst 1, 1) := by decide +kernel
theorem dX4_firstHasBit_28 : decode cX4_firstHasBit 28 = .ok (.goto 4, 3) := by decide +kernel
theorem dX4_firstHasBit_31 : decode cX4_firstHasBit 31 = .ok (.iconst 0, 1) := by decide +kernel
theorem dX4_firstHasBit_32 : decode cX4_firstHasBit 32 = .ok (.ireturn, 1) := by decide +kernel
theorem dX5_init_0 : decode cX5_init 0 = .ok (.aload_n 0, 1) := by decide +kernel
theorem dX5_init_1 : decode cX5_init 1 = .ok (.invokespecial 1, 3) := by decide +kernel
theorem dX5_init_4 : decode cX5_init 4 = .ok (.aload_n 0, 1) := by decide +kernel
theorem dX5_init_5 : decode cX5_init 5 = .ok (.iload_n 1, 1) := by decide +kernel
theorem dX5_init_6 : decode cX5_init 6 = .ok (.putfield 7, 3) := by decide +kernel
theorem dX5_init_9 : decode cX5_init 9 = .ok (.aload_n 0, 1) := by decide +kernel
theorem dX5_init_10 : decode cX5_init 10 = .ok (.iload_n 2, 1) := by decide +kernel
theorem dX5_init_11 : decode cX5_init 11 = .ok (.putfield 13, 3) := by decide +kernel
theorem dX5_init_14 : decode cX5_init 14 = .ok (.aload_n 0, 1) := by decide +kernel
theorem dX5_init_15 : decode cX5_init 15 = .ok (.iload_n 3, 1) := by decide +kernel
theorem dX5_init_16 : decode cX5_init 16 = .ok (.putfield 16, 3) := by decide +kernel
theorem dX5_init_19 : decode cX5_init 19 = .ok (.return_, 1) := by decide +kernel
theorem dX5_touches_0 : decode cX5_touches 0 = .ok (.iload_n 2, 1) := by decide +kernel
theorem dX5_touches_1 : decode cX5_touches 1 = .ok (.iconst 1, 1) := by decide +kernel
theorem dX5_touches_2 : decode cX5_touches 2 = .ok (.if_icmp .eq 11, 3) := by decide +kernel
theorem dX5_touches_5 : decode cX5_touches 5 = .ok (.aload_n 0, 1) := by decide +kernel
theorem dX5_touches_6 : decode cX5_touches 6 = .ok (.getfield 7, 3) := by decide +kernel
theorem dX5_touches_9 : decode cX5_touches 9 = .ok (.iload_n 1, 1) := by decide +kernel
theorem dX5_touches_10 : decode cX5_touches 10 = .ok (.if_icmp .eq 15, 3) := by decide +kernel
theorem dX5_touches_13 : decode cX5_touches 13 = .ok (.iload_n 2, 1) := by decide +kernel
theorem dX5_touches_14 : decode cX5_touches 14 = .ok (.ifCond .eq 15, 3) := by decide +kernel
theorem dX5_touches_17 : decode cX5_touches 17 = .ok (.aload_n 0, 1) := by decide +kernel
theorem dX5_touches_18 : decode cX5_touches 18 = .ok (.getfield 13, 3) := by decide +kernel
theorem dX5_touches_21 : decode cX5_touches 21 = .ok (.iload_n 1, 1) := by decide +kernel
theorem dX5_touches_22 : decode cX5_touches 22 = .ok (.if_icmp .ne 7, 3) := by decide +kernel
theorem dX5_touches_25 : decode cX5_touches 25 = .ok (.iconst 1, 1) := by decide +kernel
theorem dX5_touches_26 : decode cX5_touches 26 = .ok (.goto 4, 3) := by decide +kernel
theorem dX5_touches_29 : decode cX5_touches 29 = .ok (.iconst 0, 1) := by decide +kernel
theorem dX5_touches_30 : decode cX5_touches 30 = .ok (.ireturn, 1) := by decide +kernel
theorem dX5_isAmong_0 : decode cX5_isAmong 0 = .ok (.iload_n 1, 1) := by decide +kernel
theorem dX5_isAmong_1 : decode cX5_isAmong 1 = .ok (.aload_n 0, 1) := by decide +kernel
theorem dX5_isAmong_2 : decode cX5_isAmong 2 = .ok (.getfield 16, 3) := by decide +kernel
theorem dX5_isAmong_5 : decode cX5_isAmong 5 = .ok (.iushr, 1) := by decide +kernel
theorem dX5_isAmong_6 : decode cX5_isAmong 6 = .ok (.iconst 1, 1) := by decide +kernel
theorem dX5_isAmong_7 : decode cX5_isAmong 7 = .ok (.iand, 1) := by decide +kernel
theorem dX5_isAmong_8 : decode cX5_isAmong 8 = .ok (.iconst 1, 1) := by decide +kernel
theorem dX5_isAmong_9 : decode cX5_isAmong 9 = .ok (.if_icmp .ne 7, 3) := by decide +kernel
theorem dX5_isAmong_12 : decode cX5_isAmong 12 = .ok (.iconst 1, 1) := by decide +kernel
theorem dX5_isAmong_13 : decode cX5_isAmong 13 = .ok (.goto 4, 3) := by decide +kernel
theorem dX5_isAmong_16 : decode cX5_isAmong 16 = .ok (.iconst 0, 1) := by decide +kernel
theorem dX5_isAmong_17 : decode cX5_isAmong 17 = .ok (.ireturn, 1) := by decide +kernel
theorem dX5_otherEnd_0 : decode cX5_otherEnd 0 = .ok (.aload_n 0, 1) := by decide +kernel
theorem dX5_otherEnd_1 : decode cX5_otherEnd 1 = .ok (.getfield 7, 3) := by decide +kernel
theorem dX5_otherEnd_4 : decode cX5_otherEnd 4 = .ok (.iload_n 1, 1) := by decide +kernel
theorem dX5_otherEnd_5 : decode cX5_otherEnd 5 = .ok (.if_icmp .ne 10, 3) := by decide +kernel
theorem dX5_otherEnd_8 : decode cX5_otherEnd 8 = .ok (.aload_n 0, 1) := by decide +kernel
theorem dX5_otherEnd_9 : decode cX5_otherEnd 9 = .ok (.getfield 13, 3) := by decide +kernel
theorem dX5_otherEnd_12 : decode cX5_otherEnd 12 = .ok (.goto 7, 3) := by decide +kernel
theorem dX5_otherEnd_15 : decode cX5_otherEnd 15 = .ok (.aload_n 0, 1) := by decide +kernel
theorem dX5_otherEnd_16 : decode cX5_otherEnd 16 = .ok (.getfield 7, 3) := by decide +kernel
theorem dX5_otherEnd_19 : decode cX5_otherEnd 19 = .ok (.ireturn, 1) := by decide +kernel
theorem dX6_init_0 : decode cX6_init 0 = .ok (.aload_n 0, 1) := by decide +kernel
theorem dX6_init_1 : decode cX6_init 1 = .ok (.invokespecial 1, 3) := by decide +kernel
theorem dX6_init_4 : decode cX6_init 4 = .ok (.aload_n 0, 1) := by decide +kernel
theorem dX6_init_5 : decode cX6_init 5 = .ok (.new 7, 3) := by decide +kernel
theorem dX6_init_8 : decode cX6_init 8 = .ok (.dup, 1) := by decide +kernel
theorem dX6_init_9 : decode cX6_init 9 = .ok (.invokespecial 9, 3) := by decide +kernel
theorem dX6_init_12 : decode cX6_init 12 = .ok (.putfield 10, 3) := by decide +kernel
theorem dX6_init_15 : decode cX6_init 15 = .ok (.aload_n 0, 1) := by decide +kernel
theorem dX6_init_16 : decode cX6_init 16 = .ok (.iconst 0, 1) := by decide +kernel
theorem dX6_init_17 : decode cX6_init 17 = .ok (.putfield 16, 3) := by decide +kernel
theorem dX6_init_20 : decode cX6_init 20 = .ok (.aload_n 0, 1) := by decide +kernel
theorem dX6_init_21 : decode cX6_init 21 = .ok (.iconst 0, 1) := by decide +kernel
theorem dX6_init_22 : decode cX6_init 22 = .ok (.putfield 20, 3) := by decide +kernel
theorem dX6_init_25 : decode cX6_init 25 = .ok (.aload_n 0, 1) := by decide +kernel
theorem dX6_init_26 : decode cX6_init 26 = .ok (.iload_n 1, 1) := by decide +kernel
theorem dX6_init_27 : decode cX6_init 27 = .ok (.putfield 23, 3) := by decide +kernel
theorem dX6_init_30 : decode cX6_init 30 = .ok (.aload_n 0, 1) := by decide +kernel
theorem dX6_init_31 : decode cX6_init 31 = .ok (.iload_n 2, 1) := by decide +kernel
theorem dX6_init_32 : decode cX6_init 32 = .ok (.putfield 26, 3) := by decide +kernel
theorem dX6_init_35 : decode cX6_init 35 = .ok (.aload_n 0, 1) := by decide +kernel
theorem dX6_init_36 : decode cX6_init 36 = .ok (.iload_n 3, 1) := by decide +kernel
theorem dX6_init_37 : decode cX6_init 37 = .ok (.iload_n 2, 1) := by decide +kernel
theorem dX6_init_38 : decode cX6_init 38 = .ok (.iadd, 1) := by decide +kernel
theorem dX6_init_39 : decode cX6_init 39 = .ok (.putfield 29, 3) := by decide +kernel
theorem dX6_init_42 : decode cX6_init 42 = .ok (.return_, 1) := by decide +kernel
theorem dX6_renew_0 : decode cX6_renew 0 = .ok (.aload_n 0, 1) := by decide +kernel
theorem dX6_renew_1 : decode cX6_renew 1 = .ok (.iload_n 1, 1) := by decide +kernel
theorem dX6_renew_2 : decode cX6_renew 2 = .ok (.aload_n 0, 1) := by decide +kernel
theorem dX6_renew_3 : decode cX6_renew 3 = .ok (.getfield 26, 3) := by decide +kernel
theorem dX6_renew_6 : decode cX6_renew 6 = .ok (.iadd, 1) := by decide +kernel
theorem dX6_renew_7 : decode cX6_renew 7 = .ok (.putfield 29, 3) := by decide +kernel
theorem dX6_renew_10 : decode cX6_renew 10 = .ok (.return_, 1) := by decide +kernel
theorem dX7_init_0 : decode cX7_init 0 = .ok (.aload_n 0, 1) := by decide +kernel
theorem dX7_init_1 : decode cX7_init 1 = .ok (.invokespecial 1, 3) := by decide +kernel
theorem dX7_init_4 : decode cX7_init 4 = .ok (.aload_n 0, 1) := by decide +kernel
theorem dX7_init_5 : decode cX7_init 5 = .ok (.new 7, 3) := by decide +kernel
theorem dX7_init_8 : decode cX7_init 8 = .ok (.dup, 1) := by decide +kernel
theorem dX7_init_9 : decode cX7_init 9 = .ok (.invokespecial 9, 3) := by decide +kernel
theorem dX7_init_12 : decode cX7_init 12 = .ok (.putfield 10, 3) := by decide +kernel
theorem dX7_init_15 : decode cX7_init 15 = .ok (.aload_n 0, 1) := by decide +kernel
theorem dX7_init_16 : decode cX7_init 16 = .ok (.new 7, 3) := by decide +kernel
theorem dX7_init_19 : decode cX7_init 19 = .ok (.dup, 1) := by decide +kernel
theorem dX7_init_20 : decode cX7_init 20 = .ok (.invokespecial 9, 3) := by decide +kernel
theorem dX7_init_23 : decode cX7_init 23 = .ok (.putfield 16, 3) := by decide +kernel
theorem dX7_init_26 : decode cX7_init 26 = .ok (.aload_n 0, 1) := by decide +kernel
theorem dX7_init_27 : decode cX7_init 27 = .ok (.iconst 1, 1) := by decide +kernel
theorem dX7_init_28 : decode cX7_init 28 = .ok (.putfield 19, 3) := by decide +kernel
theorem dX7_init_31 : decode cX7_init 31 = .ok (.aload_n 0, 1) := by decide +kernel
theorem dX7_init_32 : decode cX7_init 32 = .ok (.iconst 1, 1) := by decide +kernel
theorem dX7_init_33 : decode cX7_init 33 = .ok (.putfield 23, 3) := by decide +kernel
theorem dX7_init_36 : decode cX7_init 36 = .ok (.aload_n 0, 1) := by decide +kernel
theorem dX7_init_37 : decode cX7_init 37 = .ok (.iconst 0, 1) := by decide +kernel
theorem dX7_init_38 : decode cX7_init 38 = .ok (.putfield 27, 3) := by decide +kernel
theorem dX7_init_41 : decode cX7_init 41 = .ok (.aload_n 0, 1) := by decide +kernel
theorem dX7_init_42 : decode cX7_init 42 = .ok (.iconst 0, 1) := by decide +kernel
theorem dX7_init_43 : decode cX7_init 43 = .ok (.putfield 30, 3) := by decide +kernel
theorem dX7_init_46 : decode cX7_init 46 = .ok (.aload_n 0, 1) := by decide +kernel
theorem dX7_init_47 : decode cX7_init 47 = .ok (.iconst 0, 1) := by decide +kernel
theorem dX7_init_48 : decode cX7_init 48 = .ok (.putfield 33, 3) := by decide +kernel
theorem dX7_init_51 : decode cX7_init 51 = .ok (.aload_n 0, 1) := by decide +kernel
theorem dX7_init_52 : decode cX7_init 52 = .ok (.iconst 0, 1) := by decide +kernel
theorem dX7_init_53 : decode cX7_init 53 = .ok (.putfield 36, 3) := by decide +kernel
theorem dX7_init_56 : decode cX7_init 56 = .ok (.aload_n 0, 1) := by decide +kernel
theorem dX7_init_57 : decode cX7_init 57 = .ok (.iconst 0, 1) := by decide +kernel
theorem dX7_init_58 : decode cX7_init 58 = .ok (.putfield 39, 3) := by decide +kernel
theorem dX7_init_61 : decode cX7_init 61 = .ok (.aload_n 0, 1) := by decide +kernel
theorem dX7_init_62 : decode cX7_init 62 = .ok (.iload_n 1, 1) := by decide +kernel
theorem dX7_init_63 : decode cX7_init 63 = .ok (.putfield 42, 3) := by decide +kernel
theorem dX7_init_66 : decode cX7_init 66 = .ok (.aload_n 0, 1) := by decide +kernel
theorem dX7_init_67 : decode cX7_init 67 = .ok (.aload_n 2, 1) := by decide +kernel
theorem dX7_init_68 : decode cX7_init 68 = .ok (.putfield 45, 3) := by decide +kernel
theorem dX7_init_71 : decode cX7_init 71 = .ok (.return_, 1) := by decide +kernel
theorem dX7_mayHave_0 : decode cX7_mayHave 0 = .ok (.iload_n 0, 1) := by decide +kernel
theorem dX7_mayHave_1 : decode cX7_mayHave 1 = .ok (.iconst 1, 1) := by decide +kernel
theorem dX7_mayHave_2 : decode cX7_mayHave 2 = .ok (.bipush 100, 2) := by decide +kernel
theorem dX7_mayHave_4 : decode cX7_mayHave 4 = .ok (.invokestatic 49, 3) := by decide +kernel
theorem dX7_mayHave_7 : decode cX7_mayHave 7 = .ok (.ifCond .eq 37, 3) := by decide +kernel
theorem dX7_mayHave_10 : decode cX7_mayHave 10 = .ok (.iload_n 1, 1) := by decide +kernel
theorem dX7_mayHave_11 : decode cX7_mayHave 11 = .ok (.iconst 1, 1) := by decide +kernel
theorem dX7_mayHave_12 : decode cX7_mayHave 12 = .ok (.bipush 20, 2) := by decide +kernel
theorem dX7_mayHave_14 : decode cX7_mayHave 14 = .ok (.invokestatic 49, 3) := by decide +kernel
theorem dX7_mayHave_17 : decode cX7_mayHave 17 = .ok (.ifCond .eq 27, 3) := by decide +kernel
theorem dX7_mayHave_20 : decode cX7_mayHave 20 = .ok (.iload_n 2, 1) := by decide +kernel
theorem dX7_mayHave_21 : decode cX7_mayHave 21 = .ok (.iconst 3, 1) := by decide +kernel
theorem dX7_mayHave_22 : decode cX7_mayHave 22 = .ok (.bipush 100, 2) := by decide +kernel
theorem dX7_mayHave_24 : decode cX7_mayHave 24 = .ok (.invokestatic 49, 3) := by decide +kernel
theorem dX7_mayHave_27 : decode cX7_mayHave 27 = .ok (.ifCond .eq 17, 3) := by decide +kernel
theorem dX7_mayHave_30 : decode cX7_mayHave 30 = .ok (.iload_n 3, 1) := by decide +kernel
theorem dX7_mayHave_31 : decode cX7_mayHave 31 = .ok (.iconst 0, 1) := by decide +kernel
theorem dX7_mayHave_32 : decode cX7_mayHave 32 = .ok (.bipush 10, 2) := by decide +kernel
theorem dX7_mayHave_34 : decode cX7_mayHave 34 = .ok (.invokestatic 49, 3) := by decide +kernel
theorem dX7_mayHave_37 : decode cX7_mayHave 37 = .ok (.ifCond .eq 7, 3) := by decide +kernel
theorem dX7_mayHave_40 : decode cX7_mayHave 40 = .ok (.iconst 1, 1) := by decide +kernel
theorem dX7_mayHave_41 : decode cX7_mayHave 41 = .ok (.goto 4, 3) := by decide +kernel
theorem dX7_mayHave_44 : decode cX7_mayHave 44 = .ok (.iconst 0, 1) := by decide +kernel
theorem dX7_mayHave_45 : decode cX7_mayHave 45 = .ok (.ireturn, 1) := by decide +kernel
theorem dX7_begin_0 : decode cX7_begin 0 = .ok (.aload_n 0, 1) := by decide +kernel
theorem dX7_begin_1 : decode cX7_begin 1 = .ok (.iload_n 1, 1) := by decide +kernel
theorem dX7_begin_2 : decode cX7_begin 2 = .ok (.putfield 55, 3) := by decide +kernel
theorem dX7_begin_5 : decode cX7_begin 5 = .ok (.aload_n 0, 1) := by decide +kernel
theorem dX7_begin_6 : decode cX7_begin 6 = .ok (.iload_n 2, 1) := by decide +kernel
theorem dX7_begin_7 : decode cX7_begin 7 = .ok (.putfield 58, 3) := by decide +kernel
theorem dX7_begin_10 : decode cX7_begin 10 = .ok (.aload_n 0, 1) := by decide +kernel
theorem dX7_begin_11 : decode cX7_begin 11 = .ok (.iload_n 3, 1) := by decide +kernel
theorem dX7_begin_12 : decode cX7_begin 12 = .ok (.putfield 61, 3) := by decide +kernel
theorem dX7_begin_15 : decode cX7_begin 15 = .ok (.aload_n 0, 1) := by decide +kernel
theorem dX7_begin_16 : decode cX7_begin 16 = .ok (.iload 4, 2) := by decide +kernel
theorem dX7_begin_18 : decode cX7_begin 18 = .ok (.putfield 64, 3) := by decide +kernel
theorem dX7_begin_21 : decode cX7_begin 21 = .ok (.aload_n 0, 1) := by decide +kernel
theorem dX7_begin_22 : decode cX7_begin 22 = .ok (.iload 5, 2) := by decide +kernel
theorem dX7_begin_24 : decode cX7_begin 24 = .ok (.putfield 67, 3) := by decide +kernel
theorem dX7_begin_27 : decode cX7_begin 27 = .ok (.aload_n 0, 1) := by decide +kernel
theorem dX7_begin_28 : decode cX7_begin 28 = .ok (.iload_n 3, 1) := by decide +kernel
theorem dX7_begin_29 : decode cX7_begin 29 = .ok (.putfield 70, 3) := by decide +kernel
theorem dX7_begin_32 : decode cX7_begin 32 = .ok (.aload_n 0, 1) := by decide +kernel
theorem dX7_begin_33 : decode cX7_begin 33 = .ok (.iload 4, 2) := by decide +kernel
theorem dX7_begin_35 : decode cX7_begin 35 = .ok (.putfield 73, 3) := by decide +kernel
theorem dX7_begin_38 : decode cX7_begin 38 = .ok (.return_, 1) := by decide +kernel
theorem dX7_isReady_0 : decode cX7_isReady 0 = .ok (.aload_n 0, 1) := by decide +kernel
theorem dX7_isReady_1 : decode cX7_isReady 1 = .ok (.getfield 19, 3) := by decide +kernel
theorem dX7_isReady_4 : decode cX7_isReady 4 = .ok (.ifCond .eq 14, 3) := by decide +kernel
theorem dX7_isReady_7 : decode cX7_isReady 7 = .ok (.aload_n 0, 1) := by decide +kernel
theorem dX7_isReady_8 : decode cX7_isReady 8 = .ok (.invokevirtual 76, 3) := by decide +kernel
theorem dX7_isReady_11 : decode cX7_isReady 11 = .ok (.ifCond .le 7, 3) := by decide +kernel
theorem dX7_isReady_14 : decode cX7_isReady 14 = .ok (.iconst 1, 1) := by decide +kernel
theorem dX7_isReady_15 : decode cX7_isReady 15 = .ok (.goto 4, 3) := by decide +kernel
theorem dX7_isReady_18 : decode cX7_isReady 18 = .ok (.iconst 0, 1) := by decide +kernel
theorem dX7_isReady_19 : decode cX7_isReady 19 = .ok (.ireturn, 1) := by decide +kernel
theorem dX7_wantsToSend_0 : decode cX7_wantsToSend 0 = .ok (.aload_n 0, 1) := by decide +kernel
theorem dX7_wantsToSend_1 : decode cX7_wantsToSend 1 = .ok (.invokevirtual 80, 3) := by decide +kernel
theorem dX7_wantsToSend_4 : decode cX7_wantsToSend 4 = .ok (.ifCond .eq 5, 3) := by decide +kernel
theorem dX7_wantsToSend_7 : decode cX7_wantsToSend 7 = .ok (.iconst 1, 1) := by decide +kernel
theorem dX7_wantsToSend_8 : decode cX7_wantsToSend 8 = .ok (.ireturn, 1) := by decide +kernel
theorem dX7_wantsToSend_9 : decode cX7_wantsToSend 9 = .ok (.aload_n 0, 1) := by decide +kernel
theorem dX7_wantsToSend_10 : decode cX7_wantsToSend 10 = .ok (.getfield 27, 3) := by decide +kernel
theorem dX7_wantsToSend_13 : decode cX7_wantsToSend 13 = .ok (.ifCond .eq 13, 3) := by decide +kernel
theorem dX7_wantsToSend_16 : decode cX7_wantsToSend 16 = .ok (.aload_n 0, 1) := by decide +kernel
theorem dX7_wantsToSend_17 : decode cX7_wantsToSend 17 = .ok (.dup, 1) := by decide +kernel
theorem dX7_wantsToSend_18 : decode cX7_wantsToSend 18 = .ok (.getfield 70, 3) := by decide +kernel
theorem dX7_wantsToSend_21 : decode cX7_wantsToSend 21 = .ok (.iconst 1, 1) := by decide +kernel
theorem dX7_wantsToSend_22 : decode cX7_wantsToSend 22 = .ok (.isub, 1) := by decide +kernel
theorem dX7_wantsToSend_23 : decode cX7_wantsToSend 23 = .ok (.putfield 70, 3) := by decide +kernel
theorem dX7_wantsToSend_26 : decode cX7_wantsToSend 26 = .ok (.aload_n 0, 1) := by decide +kernel
theorem dX7_wantsToSend_27 : decode cX7_wantsToSend 27 = .ok (.getfield 27, 3) := by decide +kernel
theorem dX7_wantsToSend_30 : decode cX7_wantsToSend 30 = .ok (.ifCond .eq 10, 3) := by decide +kernel
theorem dX7_wantsToSend_33 : decode cX7_wantsToSend 33 = .ok (.aload_n 0, 1) := by decide +kernel
theorem dX7_wantsToSend_34 : decode cX7_wantsToSend 34 = .ok (.getfield 70, 3) := by decide +kernel
theorem dX7_wantsToSend_37 : decode cX7_wantsToSend 37 = .ok (.ifCond .gt 7, 3) := by decide +kernel
theorem dX7_wantsToSend_40 : decode cX7_wantsToSend 40 = .ok (.iconst 1, 1) := by decide +kernel
theorem dX7_wantsToSend_41 : decode cX7_wantsToSend 41 = .ok (.goto 4, 3) := by decide +kernel
theorem dX7_wantsToSend_44 : decode cX7_wantsToSend 44 = .ok (.iconst 0, 1) := by decide +kernel
theorem dX7_wantsToSend_45 : decode cX7_wantsToSend 45 = .ok (.ireturn, 1) := by decide +kernel
theorem dX7_countEntries_0 : decode cX7_countEntries 0 = .ok (.iconst 0, 1) := by decide +kernel
theorem dX7_countEntries_1 : decode cX7_countEntries 1 = .ok (.istore_n 1, 1) := by decide +kernel
theorem dX7_countEntries_2 : decode cX7_countEntries 2 = .ok (.iconst 0, 1) := by decide +kernel
theorem dX7_countEntries_3 : decode cX7_countEntries 3 = .ok (.istore_n 2, 1) := by decide +kernel
theorem dX7_countEntries_4 : decode cX7_countEntries 4 = .ok (.iload_n 2, 1) := by decide +kernel
theorem dX7_countEntries_5 : decode cX7_countEntries 5 = .ok (.aload_n 0, 1) := by decide +kernel
theorem dX7_countEntries_6 : decode cX7_countEntries 6 = .ok (.getfield 10, 3) := by decide +kernel
theorem dX7_countEntries_9 : decode cX7_countEntries 9 = .ok (.invokevirtual 84, 3) := by decide +kernel
theorem dX7_countEntries_12 : decode cX7_countEntries 12 = .ok (.if_icmp .ge 42, 3) := by decide +kernel
theorem dX7_countEntries_15 : decode cX7_countEntries 15 = .ok (.aload_n 0, 1) := by decide +kernel
theorem dX7_countEntries_16 : decode cX7_countEntries 16 = .ok (.getfield 10, 3) := by decide +kernel
theorem dX7_countEntries_19 : decode cX7_countEntries 19 = .ok (.iload_n 2, 1) := by decide +kernel
theorem dX7_countEntries_20 : decode cX7_countEntries 20 = .ok (.invokevirtual 87, 3) := by decide +kernel
theorem dX7_countEntries_23 : decode cX7_countEntries 23 = .ok (.checkcast 91, 3) := by decide +kernel
theorem dX7_countEntries_26 : decode cX7_countEntries 26 = .ok (.astore_n 3, 1) := by decide +kernel
theorem dX7_countEntries_27 : decode cX7_countEntries 27 = .ok (.aload_n 3, 1) := by decide +kernel
theorem dX7_countEntries_28 : decode cX7_countEntries 28 = .ok (.getfield 93, 3) := by decide +kernel
theorem dX7_countEntries_31 : decode cX7_countEntries 31 = .ok (.iconst 2, 1) := by decide +kernel
theorem dX7_countEntries_32 : decode cX7_countEntries 32 = .ok (.if_icmp .ne 16, 3) := by decide +kernel
theorem dX7_countEntries_35 : decode cX7_countEntries 35 = .ok (.iload_n 1, 1) := by decide +kernel
theorem dX7_countEntries_36 : decode cX7_countEntries 36 = .ok (.aload_n 3, 1) := by decide +kernel
theorem dX7_countEntries_37 : decode cX7_countEntries 37 = .ok (.getfield 96, 3) := by decide +kernel
theorem dX7_countEntries_40 : decode cX7_countEntries 40 = .ok (.getfield 100, 3) := by decide +kernel
theorem dX7_countEntries_43 : decode cX7_countEntries 43 = .ok (.invokevirtual 84, 3) := by decide +kernel
theorem dX7_countEntries_46 : decode cX7_countEntries 46 = .ok (.iadd, 1) := by decide +kernel
theorem dX7_countEntries_47 : decode cX7_countEntries 47 = .ok (.istore_n 1, 1) := by decide +kernel
theorem dX7_countEntries_48 : decode cX7_countEntries 48 = .ok (.iinc 2 1, 3) := by decide +kernel
theorem dX7_countEntries_51 : decode cX7_countEntries 51 = .ok (.goto (-47), 3) := by decide +kernel
theorem dX7_countEntries_54 : decode cX7_countEntries 54 = .ok (.iload_n 1, 1) := by decide +kernel
theorem dX7_countEntries_55 : decode cX7_countEntries 55 = .ok (.ireturn, 1) := by decide +kernel
theorem dX7_takeEntries_0 : decode cX7_takeEntries 0 = .ok (.aload_n 0, 1) := by decide +kernel
theorem dX7_takeEntries_1 : decode cX7_takeEntries 1 = .ok (.getfield 67, 3) := by decide +kernel
theorem dX7_takeEntries_4 : decode cX7_takeEntries 4 = .ok (.ifCond .ne 8, 3) := by decide +kernel
theorem dX7_takeEntries_7 : decode cX7_takeEntries 7 = .ok (.bipush 40, 2) := by decide +kernel
theorem dX7_takeEntries_9 : decode cX7_takeEntries 9 = .ok (.goto 7, 3) := by decide +kernel
theorem dX7_takeEntries_12 : decode cX7_takeEntries 12 = .ok (.aload_n 0, 1) := by decide +kernel
theorem dX7_takeEntries_13 : decode cX7_takeEntries 13 = .ok (.getfield 67, 3) := by decide +kernel
theorem dX7_takeEntries_16 : decode cX7_takeEntries 16 = .ok (.istore_n 1, 1) := by decide +kernel
theorem dX7_takeEntries_17 : decode cX7_takeEntries 17 = .ok (.aload_n 0, 1) := by decide +kernel
theorem dX7_takeEntries_18 : decode cX7_takeEntries 18 = .ok (.getfield 19, 3) := by decide +kernel
theorem dX7_takeEntries_21 : decode cX7_takeEntries 21 = .ok (.ifCond .eq 14, 3) := by decide +kernel
theorem dX7_takeEntries_24 : decode cX7_takeEntries 24 = .ok (.iload_n 1, 1) := by decide +kernel
theorem dX7_takeEntries_25 : decode cX7_takeEntries 25 = .ok (.aload_n 0, 1) := by decide +kernel
theorem dX7_takeEntries_26 : decode cX7_takeEntries 26 = .ok (.invokevirtual 76, 3) := by decide +kernel
theorem dX7_takeEntries_29 : decode cX7_takeEntries 29 = .ok (.invokestatic 105, 3) := by decide +kernel
theorem dX7_takeEntries_32 : decode cX7_takeEntries 32 = .ok (.goto 4, 3) := by decide +kernel
theorem dX7_takeEntries_35 : decode cX7_takeEntries 35 = .ok (.iconst 0, 1) := by decide +kernel
theorem dX7_takeEntries_36 : decode cX7_takeEntries 36 = .ok (.istore_n 2, 1) := by decide +kernel
theorem dX7_takeEntries_37 : decode cX7_takeEntries 37 = .ok (.iload_n 2, 1) := by decide +kernel
theorem dX7_takeEntries_38 : decode cX7_takeEntries 38 = .ok (.anewarray 111, 3) := by decide +kernel
theorem dX7_takeEntries_41 : decode cX7_takeEntries 41 = .ok (.astore_n 3, 1) := by decide +kernel
theorem dX7_takeEntries_42 : decode cX7_takeEntries 42 = .ok (.iconst 0, 1) := by decide +kernel
theorem dX7_takeEntries_43 : decode cX7_takeEntries 43 = .ok (.istore 4, 2) := by decide +kernel
theorem dX7_takeEntries_45 : decode cX7_takeEntries 45 = .ok (.iconst 0, 1) := by decide +kernel
theorem dX7_takeEntries_46 : decode cX7_takeEntries 46 = .ok (.istore 5, 2) := by decide +kernel
theorem dX7_takeEntries_48 : decode cX7_takeEntries 48 = .ok (.iload 5, 2) := by decide +kernel
theorem dX7_takeEntries_50 : decode cX7_takeEntries 50 = .ok (.aload_n 0, 1) := by decide +kernel
theorem dX7_takeEntries_51 : decode cX7_takeEntries 51 = .ok (.getfield 10, 3) := by decide +kernel
theorem dX7_takeEntries_54 : decode cX7_takeEntries 54 = .ok (.invokevirtual 84, 3) := by decide +kernel
theorem dX7_takeEntries_57 : decode cX7_takeEntries 57 = .ok (.if_icmp .ge 96, 3) := by decide +kernel
theorem dX7_takeEntries_60 : decode cX7_takeEntries 60 = .ok (.iload 4, 2) := by decide +kernel
theorem dX7_takeEntries_62 : decode cX7_takeEntries 62 = .ok (.iload_n 2, 1) := by decide +kernel
theorem dX7_takeEntries_63 : decode cX7_takeEntries 63 = .ok (.if_icmp .ge 90, 3) := by decide +kernel
theorem dX7_takeEntries_66 : decode cX7_takeEntries 66 = .ok (.aload_n 0, 1) := by decide +kernel
theorem dX7_takeEntries_67 : decode cX7_takeEntries 67 = .ok (.getfield 10, 3) := by decide +kernel
theorem dX7_takeEntries_70 : decode cX7_takeEntries 70 = .ok (.iload 5, 2) := by decide +kernel
theorem dX7_takeEntries_72 : decode cX7_takeEntries 72 = .ok (.invokevirtual 87, 3) := by decide +kernel
theorem dX7_takeEntries_75 : decode cX7_takeEntries 75 = .ok (.checkcast 91, 3) := by decide +kernel
theorem dX7_takeEntries_78 : decode cX7_takeEntries 78 = .ok (.astore 6, 2) := by decide +kernel
theorem dX7_takeEntries_80 : decode cX7_takeEntries 80 = .ok (.aload 6, 2) := by decide +kernel
theorem dX7_takeEntries_82 : decode cX7_takeEntries 82 = .ok (.getfield 96, 3) := by decide +kernel
theorem dX7_takeEntries_85 : decode cX7_takeEntries 85 = .ok (.getfield 100, 3) := by decide +kernel
theorem dX7_takeEntries_88 : decode cX7_takeEntries 88 = .ok (.invokevirtual 84, 3) := by decide +kernel
theorem dX7_takeEntries_91 : decode cX7_takeEntries 91 = .ok (.iload_n 2, 1) := by decide +kernel
theorem dX7_takeEntries_92 : decode cX7_takeEntries 92 = .ok (.iload 4, 2) := by decide +kernel
theorem dX7_takeEntries_94 : decode cX7_takeEntries 94 = .ok (.isub, 1) := by decide +kernel
theorem dX7_takeEntries_95 : decode cX7_takeEntries 95 = .ok (.invokestatic 105, 3) := by decide +kernel
theorem dX7_takeEntries_98 : decode cX7_takeEntries 98 = .ok (.istore 7, 2) := by decide +kernel
theorem dX7_takeEntries_100 : decode cX7_takeEntries 100 = .ok (.iconst 0, 1) := by decide +kernel
theorem dX7_takeEntries_101 : decode cX7_takeEntries 101 = .ok (.istore 8, 2) := by decide +kernel
theorem dX7_takeEntries_103 : decode cX7_takeEntries 103 = .ok (.aload 6, 2) := by decide +kernel
theorem dX7_takeEntries_105 : decode cX7_takeEntries 105 = .ok (.getfield 93, 3) := by decide +kernel
theorem dX7_takeEntries_108 : decode cX7_takeEntries 108 = .ok (.iconst 2, 1) := by decide +kernel
theorem dX7_takeEntries_109 : decode cX7_takeEntries 109 = .ok (.if_icmp .ne 38, 3) := by decide +kernel
theorem dX7_takeEntries_112 : decode cX7_takeEntries 112 = .ok (.iload 8, 2) := by decide +kernel
theorem dX7_takeEntries_114 : decode cX7_takeEntries 114 = .ok (.iload 7, 2) := by decide +kernel
theorem dX7_takeEntries_116 : decode cX7_takeEntries 116 = .ok (.if_icmp .ge 31, 3) := by decide +kernel
theorem dX7_takeEntries_119 : decode cX7_takeEntries 119 = .ok (.aload_n 3, 1) := by decide +kernel
theorem dX7_takeEntries_120 : decode cX7_takeEntries 120 = .ok (.iload 4, 2) := by decide +kernel
theorem dX7_takeEntries_122 : decode cX7_takeEntries 122 = .ok (.aload 6, 2) := by decide +kernel
theorem dX7_takeEntries_124 : decode cX7_takeEntries 124 = .ok (.getfield 96, 3) := by decide +kernel
theorem dX7_takeEntries_127 : decode cX7_takeEntries 127 = .ok (.getfield 100, 3) := by decide +kernel
theorem dX7_takeEntries_130 : decode cX7_takeEntries 130 = .ok (.iconst 0, 1) := by decide +kernel
theorem dX7_takeEntries_131 : decode cX7_takeEntries 131 = .ok (.invokevirtual 113, 3) := by decide +kernel
theorem dX7_takeEntries_134 : decode cX7_takeEntries 134 = .ok (.checkcast 111, 3) := by decide +kernel
theorem dX7_takeEntries_137 : decode cX7_takeEntries 137 = .ok (.aastore, 1) := by decide +kernel
theorem dX7_takeEntries_138 : decode cX7_takeEntries 138 = .ok (.iinc 4 1, 3) := by decide +kernel
theorem dX7_takeEntries_141 : decode cX7_takeEntries 141 = .ok (.iinc 8 1, 3) := by decide +kernel
theorem dX7_takeEntries_144 : decode cX7_takeEntries 144 = .ok (.goto (-41), 3) := by decide +kernel
theorem dX7_takeEntries_147 : decode cX7_takeEntries 147 = .ok (.iinc 5 1, 3) := by decide +kernel
theorem dX7_takeEntries_150 : decode cX7_takeEntries 150 = .ok (.goto (-102), 3) := by decide +kernel
theorem dX7_takeEntries_153 : decode cX7_takeEntries 153 = .ok (.aload_n 3, 1) := by decide +kernel
theorem dX7_takeEntries_154 : decode cX7_takeEntries 154 = .ok (.areturn, 1) := by decide +kernel
theorem dX7_keepMessage_0 : decode cX7_keepMessage 0 = .ok (.aload_n 0, 1) := by decide +kernel
theorem dX7_keepMessage_1 : decode cX7_keepMessage 1 = .ok (.getfield 16, 3) := by decide +kernel
theorem dX7_keepMessage_4 : decode cX7_keepMessage 4 = .ok (.invokevirtual 84, 3) := by decide +kernel
theorem dX7_keepMessage_7 : decode cX7_keepMessage 7 = .ok (.iconst 5, 1) := by decide +kernel
theorem dX7_keepMessage_8 : decode cX7_keepMessage 8 = .ok (.if_icmp .lt 27, 3) := by decide +kernel
theorem dX7_keepMessage_11 : decode cX7_keepMessage 11 = .ok (.aload_n 0, 1) := by decide +kernel
theorem dX7_keepMessage_12 : decode cX7_keepMessage 12 = .ok (.getfield 16, 3) := by decide +kernel
theorem dX7_keepMessage_15 : decode cX7_keepMessage 15 = .ok (.iconst 0, 1) := by decide +kernel
theorem dX7_keepMessage_16 : decode cX7_keepMessage 16 = .ok (.invokevirtual 87, 3) := by decide +kernel
theorem dX7_keepMessage_19 : decode cX7_keepMessage 19 = .ok (.checkcast 116, 3) := by decide +kernel
theorem dX7_keepMessage_22 : decode cX7_keepMessage 22 = .ok (.iconst 0, 1) := by decide +kernel
theorem dX7_keepMessage_23 : decode cX7_keepMessage 23 = .ok (.putfield 118, 3) := by decide +kernel
theorem dX7_keepMessage_26 : decode cX7_keepMessage 26 = .ok (.aload_n 0, 1) := by decide +kernel
theorem dX7_keepMessage_27 : decode cX7_keepMessage 27 = .ok (.getfield 16, 3) := by decide +kernel
theorem dX7_keepMessage_30 : decode cX7_keepMessage 30 = .ok (.iconst 0, 1) := by decide +kernel
theorem dX7_keepMessage_31 : decode cX7_keepMessage 31 = .ok (.invokevirtual 113, 3) := by decide +kernel
theorem dX7_keepMessage_34 : decode cX7_keepMessage 34 = .ok (.pop, 1) := by decide +kernel
theorem dX7_keepMessage_35 : decode cX7_keepMessage 35 = .ok (.aload_n 0, 1) := by decide +kernel
theorem dX7_keepMessage_36 : decode cX7_keepMessage 36 = .ok (.getfield 16, 3) := by decide +kernel
theorem dX7_keepMessage_39 : decode cX7_keepMessage 39 = .ok (.aload_n 1, 1) := by decide +kernel
theorem dX7_keepMessage_40 : decode cX7_keepMessage 40 = .ok (.invokevirtual 120, 3) := by decide +kernel
theorem dX7_keepMessage_43 : decode cX7_keepMessage 43 = .ok (.pop, 1) := by decide +kernel
theorem dX7_keepMessage_44 : decode cX7_keepMessage 44 = .ok (.aload_n 1, 1) := by decide +kernel
theorem dX7_keepMessage_45 : decode cX7_keepMessage 45 = .ok (.iconst 1, 1) := by decide +kernel
theorem dX7_keepMessage_46 : decode cX7_keepMessage 46 = .ok (.putfield 118, 3) := by decide +kernel
theorem dX7_keepMessage_49 : decode cX7_keepMessage 49 = .ok (.return_, 1) := by decide +kernel
theorem dX7_keptOf_0 : decode cX7_keptOf 0 = .ok (.iconst 0, 1) := by decide +kernel
theorem dX7_keptOf_1 : decode cX7_keptOf 1 = .ok (.istore_n 2, 1) := by decide +kernel
theorem dX7_keptOf_2 : decode cX7_keptOf 2 = .ok (.iload_n 2, 1) := by decide +kernel
theorem dX7_keptOf_3 : decode cX7_keptOf 3 = .ok (.aload_n 0, 1) := by decide +kernel
theorem dX7_keptOf_4 : decode cX7_keptOf 4 = .ok (.getfield 16, 3) := by decide +kernel
theorem dX7_keptOf_7 : decode cX7_keptOf 7 = .ok (.invokevirtual 84, 3) := by decide +kernel
theorem dX7_keptOf_10 : decode cX7_keptOf 10 = .ok (.if_icmp .ge 39, 3) := by decide +kernel
theorem dX7_keptOf_13 : decode cX7_keptOf 13 = .ok (.aload_n 0, 1) := by decide +kernel
theorem dX7_keptOf_14 : decode cX7_keptOf 14 = .ok (.getfield 16, 3) := by decide +kernel
theorem dX7_keptOf_17 : decode cX7_keptOf 17 = .ok (.iload_n 2, 1) := by decide +kernel
theorem dX7_keptOf_18 : decode cX7_keptOf 18 = .ok (.invokevirtual 87, 3) := by decide +kernel
theorem dX7_keptOf_21 : decode cX7_keptOf 21 = .ok (.checkcast 116, 3) := by decide +kernel
theorem dX7_keptOf_24 : decode cX7_keptOf 24 = .ok (.getfield 124, 3) := by decide +kernel
theorem dX7_keptOf_27 : decode cX7_keptOf 27 = .ok (.iload_n 1, 1) := by decide +kernel
theorem dX7_keptOf_28 : decode cX7_keptOf 28 = .ok (.if_icmp .ne 15, 3) := by decide +kernel
theorem dX7_keptOf_31 : decode cX7_keptOf 31 = .ok (.aload_n 0, 1) := by decide +kernel
theorem dX7_keptOf_32 : decode cX7_keptOf 32 = .ok (.getfield 16, 3) := by decide +kernel
theorem dX7_keptOf_35 : decode cX7_keptOf 35 = .ok (.iload_n 2, 1) := by decide +kernel
theorem dX7_keptOf_36 : decode cX7_keptOf 36 = .ok (.invokevirtual 87, 3) := by decide +kernel
theorem dX7_keptOf_39 : decode cX7_keptOf 39 = .ok (.checkcast 116, 3) := by decide +kernel
theorem dX7_keptOf_42 : decode cX7_keptOf 42 = .ok (.areturn, 1) := by decide +kernel
theorem dX7_keptOf_43 : decode cX7_keptOf 43 = .ok (.iinc 2 1, 3) := by decide +kernel
theorem dX7_keptOf_46 : decode cX7_keptOf 46 = .ok (.goto (-44), 3) := by decide +kernel
theorem dX7_keptOf_49 : decode cX7_keptOf 49 = .ok (.aconst_null, 1) := by decide +kernel
theorem dX7_keptOf_50 : decode cX7_keptOf 50 = .ok (.areturn, 1) := by decide +kernel
theorem dX7_forget_0 : decode cX7_forget 0 = .ok (.iconst 0, 1) := by decide +kernel
theorem dX7_forget_1 : decode cX7_forget 1 = .ok (.istore_n 2, 1) := by decide +kernel
theorem dX7_forget_2 : decode cX7_forget 2 = .ok (.iload_n 2, 1) := by decide +kernel
theorem dX7_forget_3 : decode cX7_forget 3 = .ok (.aload_n 0, 1) := by decide +kernel
theorem dX7_forget_4 : decode cX7_forget 4 = .ok (.getfield 16, 3) := by decide +kernel
theorem dX7_forget_7 : decode cX7_forget 7 = .ok (.invokevirtual 84, 3) := by decide +kernel
theorem dX7_forget_10 : decode cX7_forget 10 = .ok (.if_icmp .ge 53, 3) := by decide +kernel
theorem dX7_forget_13 : decode cX7_forget 13 = .ok (.aload_n 0, 1) := by decide +kernel
theorem dX7_forget_14 : decode cX7_forget 14 = .ok (.getfield 16, 3) := by decide +kernel
theorem dX7_forget_17 : decode cX7_forget 17 = .ok (.iload_n 2, 1) := by decide +kernel
theorem dX7_forget_18 : decode cX7_forget 18 = .ok (.invokevirtual 87, 3) := by decide +kernel
theorem dX7_forget_21 : decode cX7_forget 21 = .ok (.checkcast 116, 3) := by decide +kernel
theorem dX7_forget_24 : decode cX7_forget 24 = .ok (.getfield 124, 3) := by decide +kernel
theorem dX7_forget_27 : decode cX7_forget 27 = .ok (.iload_n 1, 1) := by decide +kernel
theorem dX7_forget_28 : decode cX7_forget 28 = .ok (.if_icmp .ne 29, 3) := by decide +kernel
theorem dX7_forget_31 : decode cX7_forget 31 = .ok (.aload_n 0, 1) := by decide +kernel
theorem dX7_forget_32 : decode cX7_forget 32 = .ok (.getfield 16, 3) := by decide +kernel
theorem dX7_forget_35 : decode cX7_forget 35 = .ok (.iload_n 2, 1) := by decide +kernel
theorem dX7_forget_36 : decode cX7_forget 36 = .ok (.invokevirtual 87, 3) := by decide +kernel
theorem dX7_forget_39 : decode cX7_forget 39 = .ok (.checkcast 116, 3) := by decide +kernel
theorem dX7_forget_42 : decode cX7_forget 42 = .ok (.iconst 0, 1) := by decide +kernel
theorem dX7_forget_43 : decode cX7_forget 43 = .ok (.putfield 118, 3) := by decide +kernel
theorem dX7_forget_46 : decode cX7_forget 46 = .ok (.aload_n 0, 1) := by decide +kernel
theorem dX7_forget_47 : decode cX7_forget 47 = .ok (.getfield 16, 3) := by decide +kernel
theorem dX7_forget_50 : decode cX7_forget 50 = .ok (.iload_n 2, 1) := by decide +kernel
theorem dX7_forget_51 : decode cX7_forget 51 = .ok (.invokevirtual 113, 3) := by decide +kernel
theorem dX7_forget_54 : decode cX7_forget 54 = .ok (.pop, 1) := by decide +kernel
theorem dX7_forget_55 : decode cX7_forget 55 = .ok (.iconst 1, 1) := by decide +kernel
theorem dX7_forget_56 : decode cX7_forget 56 = .ok (.ireturn, 1) := by decide +kernel
theorem dX7_forget_57 : decode cX7_forget 57 = .ok (.iinc 2 1, 3) := by decide +kernel
theorem dX7_forget_60 : decode cX7_forget 60 = .ok (.goto (-58), 3) := by decide +kernel
theorem dX7_forget_63 : decode cX7_forget 63 = .ok (.iconst 0, 1) := by decide +kernel
theorem dX7_forget_64 : decode cX7_forget 64 = .ok (.ireturn, 1) := by decide +kernel
theorem dX7_remove_0 : decode cX7_remove 0 = .ok (.aload_n 1, 1) := by decide +kernel
theorem dX7_remove_1 : decode cX7_remove 1 = .ok (.iconst 1, 1) := by decide +kernel
theorem dX7_remove_2 : decode cX7_remove 2 = .ok (.putfield 125, 3) := by decide +kernel
theorem dX7_remove_5 : decode cX7_remove 5 = .ok (.iconst 0, 1) := by decide +kernel
theorem dX7_remove_6 : decode cX7_remove 6 = .ok (.istore_n 2, 1) := by decide +kernel
theorem dX7_remove_7 : decode cX7_remove 7 = .ok (.iload_n 2, 1) := by decide +kernel
theorem dX7_remove_8 : decode cX7_remove 8 = .ok (.aload_n 0, 1) := by decide +kernel
theorem dX7_remove_9 : decode cX7_remove 9 = .ok (.getfield 10, 3) := by decide +kernel
theorem dX7_remove_12 : decode cX7_remove 12 = .ok (.invokevirtual 84, 3) := by decide +kernel
theorem dX7_remove_15 : decode cX7_remove 15 = .ok (.if_icmp .ge 31, 3) := by decide +kernel
theorem dX7_remove_18 : decode cX7_remove 18 = .ok (.aload_n 0, 1) := by decide +kernel
theorem dX7_remove_19 : decode cX7_remove 19 = .ok (.getfield 10, 3) := by decide +kernel
theorem dX7_remove_22 : decode cX7_remove 22 = .ok (.iload_n 2, 1) := by decide +kernel
theorem dX7_remove_23 : decode cX7_remove 23 = .ok (.invokevirtual 87, 3) := by decide +kernel
theorem dX7_remove_26 : decode cX7_remove 26 = .ok (.aload_n 1, 1) := by decide +kernel
theorem dX7_remove_27 : decode cX7_remove 27 = .ok (.if_acmp .ne 13, 3) := by decide +kernel
theorem dX7_remove_30 : decode cX7_remove 30 = .ok (.aload_n 0, 1) := by decide +kernel
theorem dX7_remove_31 : decode cX7_remove 31 = .ok (.getfield 10, 3) := by decide +kernel
theorem dX7_remove_34 : decode cX7_remove 34 = .ok (.iload_n 2, 1) := by decide +kernel
theorem dX7_remove_35 : decode cX7_remove 35 = .ok (.invokevirtual 113, 3) := by decide +kernel
theorem dX7_remove_38 : decode cX7_remove 38 = .ok (.pop, 1) := by decide +kernel
theorem dX7_remove_39 : decode cX7_remove 39 = .ok (.return_, 1) := by decide +kernel
theorem dX7_remove_40 : decode cX7_remove 40 = .ok (.iinc 2 1, 3) := by decide +kernel
theorem dX7_remove_43 : decode cX7_remove 43 = .ok (.goto (-36), 3) := by decide +kernel
theorem dX7_remove_46 : decode cX7_remove 46 = .ok (.return_, 1) := by decide +kernel
theorem dX7_end_0 : decode cX7_end 0 = .ok (.aload_n 0, 1) := by decide +kernel
theorem dX7_end_1 : decode cX7_end 1 = .ok (.iconst 1, 1) := by decide +kernel
theorem dX7_end_2 : decode cX7_end 2 = .ok (.putfield 39, 3) := by decide +kernel
theorem dX7_end_5 : decode cX7_end 5 = .ok (.iconst 0, 1) := by decide +kernel
theorem dX7_end_6 : decode cX7_end 6 = .ok (.istore_n 1, 1) := by decide +kernel
theorem dX7_end_7 : decode cX7_end 7 = .ok (.iload_n 1, 1) := by decide +kernel
theorem dX7_end_8 : decode cX7_end 8 = .ok (.aload_n 0, 1) := by decide +kernel
theorem dX7_end_9 : decode cX7_end 9 = .ok (.getfield 10, 3) := by decide +kernel
theorem dX7_end_12 : decode cX7_end 12 = .ok (.invokevirtual 84, 3) := by decide +kernel
theorem dX7_end_15 : decode cX7_end 15 = .ok (.if_icmp .ge 24, 3) := by decide +kernel
theorem dX7_end_18 : decode cX7_end 18 = .ok (.aload_n 0, 1) := by decide +kernel
theorem dX7_end_19 : decode cX7_end 19 = .ok (.getfield 10, 3) := by decide +kernel
theorem dX7_end_22 : decode cX7_end 22 = .ok (.iload_n 1, 1) := by decide +kernel
theorem dX7_end_23 : decode cX7_end 23 = .ok (.invokevirtual 87, 3) := by decide +kernel
theorem dX7_end_26 : decode cX7_end 26 = .ok (.checkcast 91, 3) := by decide +kernel
theorem dX7_end_29 : decode cX7_end 29 = .ok (.iconst 1, 1) := by decide +kernel
theorem dX7_end_30 : decode cX7_end 30 = .ok (.putfield 125, 3) := by decide +kernel
theorem dX7_end_33 : decode cX7_end 33 = .ok (.iinc 1 1, 3) := by decide +kernel
theorem dX7_end_36 : decode cX7_end 36 = .ok (.goto (-29), 3) := by decide +kernel
theorem dX7_end_39 : decode cX7_end 39 = .ok (.aload_n 0, 1) := by decide +kernel
theorem dX7_end_40 : decode cX7_end 40 = .ok (.getfield 10, 3) := by decide +kernel
theorem dX7_end_43 : decode cX7_end 43 = .ok (.invokevirtual 126, 3) := by decide +kernel
theorem dX7_end_46 : decode cX7_end 46 = .ok (.iconst 0, 1) := by decide +kernel
theorem dX7_end_47 : decode cX7_end 47 = .ok (.istore_n 1, 1) := by decide +kernel
theorem dX7_end_48 : decode cX7_end 48 = .ok (.iload_n 1, 1) := by decide +kernel
theorem dX7_end_49 : decode cX7_end 49 = .ok (.aload_n 0, 1) := by decide +kernel
theorem dX7_end_50 : decode cX7_end 50 = .ok (.getfield 16, 3) := by decide +kernel
theorem dX7_end_53 : decode cX7_end 53 = .ok (.invokevirtual 84, 3) := by decide +kernel
theorem dX7_end_56 : decode cX7_end 56 = .ok (.if_icmp .ge 24, 3) := by decide +kernel
theorem dX7_end_59 : decode cX7_end 59 = .ok (.aload_n 0, 1) := by decide +kernel
theorem dX7_end_60 : decode cX7_end 60 = .ok (.getfield 16, 3) := by decide +kernel
theorem dX7_end_63 : decode cX7_end 63 = .ok (.iload_n 1, 1) := by decide +kernel
theorem dX7_end_64 : decode cX7_end 64 = .ok (.invokevirtual 87, 3) := by decide +kernel
theorem dX7_end_67 : decode cX7_end 67 = .ok (.checkcast 116, 3) := by decide +kernel
theorem dX7_end_70 : decode cX7_end 70 = .ok (.iconst 0, 1) := by decide +kernel
theorem dX7_end_71 : decode cX7_end 71 = .ok (.putfield 118, 3) := by decide +kernel
theorem dX7_end_74 : decode cX7_end 74 = .ok (.iinc 1 1, 3) := by decide +kernel
theorem dX7_end_77 : decode cX7_end 77 = .ok (.goto (-29), 3) := by decide +kernel
theorem dX7_end_80 : decode cX7_end 80 = .ok (.aload_n 0, 1) := by decide +kernel
theorem dX7_end_81 : decode cX7_end 81 = .ok (.getfield 16, 3) := by decide +kernel
theorem dX7_end_84 : decode cX7_end 84 = .ok (.invokevirtual 126, 3) := by decide +kernel
theorem dX7_end_87 : decode cX7_end 87 = .ok (.return_, 1) := by decide +kernel
theorem dX8_init_0 : decode cX8_init 0 = .ok (.aload_n 0, 1) := by decide +kernel
theorem dX8_init_1 : decode cX8_init 1 = .ok (.invokespecial 1, 3) := by decide +kernel
theorem dX8_init_4 : decode cX8_init 4 = .ok (.aload_n 0, 1) := by decide +kernel
theorem dX8_init_5 : decode cX8_init 5 = .ok (.new 7, 3) := by decide +kernel
theorem dX8_init_8 : decode cX8_init 8 = .ok (.dup, 1) := by decide +kernel
theorem dX8_init_9 : decode cX8_init 9 = .ok (.invokespecial 9, 3) := by decide +kernel
theorem dX8_init_12 : decode cX8_init 12 = .ok (.putfield 10, 3) := by decide +kernel
theorem dX8_init_15 : decode cX8_init 15 = .ok (.aload_n 0, 1) := by decide +kernel
theorem dX8_init_16 : decode cX8_init 16 = .ok (.new 7, 3) := by decide +kernel
theorem dX8_init_19 : decode cX8_init 19 = .ok (.dup, 1) := by decide +kernel
theorem dX8_init_20 : decode cX8_init 20 = .ok (.invokespecial 9, 3) := by decide +kernel
theorem dX8_init_23 : decode cX8_init 23 = .ok (.putfield 16, 3) := by decide +kernel
theorem dX8_init_26 : decode cX8_init 26 = .ok (.aload_n 0, 1) := by decide +kernel
theorem dX8_init_27 : decode cX8_init 27 = .ok (.new 7, 3) := by decide +kernel
theorem dX8_init_30 : decode cX8_init 30 = .ok (.dup, 1) := by decide +kernel
theorem dX8_init_31 : decode cX8_init 31 = .ok (.invokespecial 9, 3) := by decide +kernel
theorem dX8_init_34 : decode cX8_init 34 = .ok (.putfield 19, 3) := by decide +kernel
theorem dX8_init_37 : decode cX8_init 37 = .ok (.aload_n 0, 1) := by decide +kernel
theorem dX8_init_38 : decode cX8_init 38 = .ok (.new 7, 3) := by decide +kernel
theorem dX8_init_41 : decode cX8_init 41 = .ok (.dup, 1) := by decide +kernel
theorem dX8_init_42 : decode cX8_init 42 = .ok (.invokespecial 9, 3) := by decide +kernel
theorem dX8_init_45 : decode cX8_init 45 = .ok (.putfield 22, 3) := by decide +kernel
theorem dX8_init_48 : decode cX8_init 48 = .ok (.aload_n 0, 1) := by decide +kernel
theorem dX8_init_49 : decode cX8_init 49 = .ok (.new 7, 3) := by decide +kernel
theorem dX8_init_52 : decode cX8_init 52 = .ok (.dup, 1) := by decide +kernel
theorem dX8_init_53 : decode cX8_init 53 = .ok (.invokespecial 9, 3) := by decide +kernel
theorem dX8_init_56 : decode cX8_init 56 = .ok (.putfield 25, 3) := by decide +kernel
theorem dX8_init_59 : decode cX8_init 59 = .ok (.aload_n 0, 1) := by decide +kernel
theorem dX8_init_60 : decode cX8_init 60 = .ok (.new 7, 3) := by decide +kernel
theorem dX8_init_63 : decode cX8_init 63 = .ok (.dup, 1) := by decide +kernel
theorem dX8_init_64 : decode cX8_init 64 = .ok (.invokespecial 9, 3) := by decide +kernel
theorem dX8_init_67 : decode cX8_init 67 = .ok (.putfield 28, 3) := by decide +kernel
theorem dX8_init_70 : decode cX8_init 70 = .ok (.aload_n 0, 1) := by decide +kernel
theorem dX8_init_71 : decode cX8_init 71 = .ok (.bipush 10, 2) := by decide +kernel
theorem dX8_init_73 : decode cX8_init 73 = .ok (.newarray .int, 2) := by decide +kernel
theorem dX8_init_75 : decode cX8_init 75 = .ok (.putfield 31, 3) := by decide +kernel
theorem dX8_init_78 : decode cX8_init 78 = .ok (.aload_n 0, 1) := by decide +kernel
theorem dX8_init_79 : decode cX8_init 79 = .ok (.iconst 0, 1) := by decide +kernel
theorem dX8_init_80 : decode cX8_init 80 = .ok (.putfield 35, 3) := by decide +kernel
theorem dX8_init_83 : decode cX8_init 83 = .ok (.aload_n 0, 1) := by decide +kernel
theorem dX8_init_84 : decode cX8_init 84 = .ok (.lconst 0, 1) := by decide +kernel
theorem dX8_init_85 : decode cX8_init 85 = .ok (.putfield 39, 3) := by decide +kernel
theorem dX8_init_88 : decode cX8_init 88 = .ok (.aload_n 0, 1) := by decide +kernel
theorem dX8_init_89 : decode cX8_init 89 = .ok (.iconst 0, 1) := by decide +kernel
theorem dX8_init_90 : decode cX8_init 90 = .ok (.putfield 43, 3) := by decide +kernel
theorem dX8_init_93 : decode cX8_init 93 = .ok (.aload_n 0, 1) := by decide +kernel
theorem dX8_init_94 : decode cX8_init 94 = .ok (.iconst 0, 1) := by decide +kernel
theorem dX8_init_95 : decode cX8_init 95 = .ok (.putfield 46, 3) := by decide +kernel
theorem dX8_init_98 : decode cX8_init 98 = .ok (.return_, 1) := by decide +kernel
theorem dX8_node_0 : decode cX8_node 0 = .ok (.iload_n 1, 1) := by decide +kernel
theorem dX8_node_1 : decode cX8_node 1 = .ok (.iconst 0, 1) := by decide +kernel
theorem dX8_node_2 : decode cX8_node 2 = .ok (.iconst 2, 1) := by decide +kernel
theorem dX8_node_3 : decode cX8_node 3 = .ok (.invokestatic 51, 3) := by decide +kernel
theorem dX8_node_6 : decode cX8_node 6 = .ok (.ifCond .ne 10, 3) := by decide +kernel
theorem dX8_node_9 : decode cX8_node 9 = .ok (.aload_n 0, 1) := by decide +kernel
theorem dX8_node_10 : decode cX8_node 10 = .ok (.bipush (-7), 2) := by decide +kernel
theorem dX8_node_12 : decode cX8_node 12 = .ok (.invokevirtual 55, 3) := by decide +kernel
theorem dX8_node_15 : decode cX8_node 15 = .ok (.ireturn, 1) := by decide +kernel
theorem dX8_node_16 : decode cX8_node 16 = .ok (.aload_n 0, 1) := by decide +kernel
theorem dX8_node_17 : decode cX8_node 17 = .ok (.getfield 10, 3) := by decide +kernel
theorem dX8_node_20 : decode cX8_node 20 = .ok (.invokevirtual 59, 3) := by decide +kernel
theorem dX8_node_23 : decode cX8_node 23 = .ok (.bipush 40, 2) := by decide +kernel
theorem dX8_node_25 : decode cX8_node 25 = .ok (.if_icmp .lt 10, 3) := by decide +kernel
theorem dX8_node_28 : decode cX8_node 28 = .ok (.aload_n 0, 1) := by decide +kernel
theorem dX8_node_29 : decode cX8_node 29 = .ok (.bipush (-8), 2) := by decide +kernel
theorem dX8_node_31 : decode cX8_node 31 = .ok (.invokevirtual 55, 3) := by decide +kernel
theorem dX8_node_34 : decode cX8_node 34 = .ok (.ireturn, 1) := by decide +kernel
theorem dX8_node_35 : decode cX8_node 35 = .ok (.aload_n 0, 1) := by decide +kernel
theorem dX8_node_36 : decode cX8_node 36 = .ok (.getfield 10, 3) := by decide +kernel
theorem dX8_node_39 : decode cX8_node 39 = .ok (.new 49, 3) := by decide +kernel
theorem dX8_node_42 : decode cX8_node 42 = .ok (.dup, 1) := by decide +kernel
theorem dX8_node_43 : decode cX8_node 43 = .ok (.aload_n 0, 1) := by decide +kernel
theorem dX8_node_44 : decode cX8_node 44 = .ok (.getfield 10, 3) := by decide +kernel
theorem dX8_node_47 : decode cX8_node 47 = .ok (.invokevirtual 59, 3) := by decide +kernel
theorem dX8_node_50 : decode cX8_node 50 = .ok (.iload_n 1, 1) := by decide +kernel
theorem dX8_node_51 : decode cX8_node 51 = .ok (.invokespecial 63, 3) := by decide +kernel
theorem dX8_node_54 : decode cX8_node 54 = .ok (.invokevirtual 66, 3) := by decide +kernel
theorem dX8_node_57 : decode cX8_node 57 = .ok (.pop, 1) := by decide +kernel
theorem dX8_node_58 : decode cX8_node 58 = .ok (.aload_n 0, 1) := by decide +kernel
theorem dX8_node_59 : decode cX8_node 59 = .ok (.getfield 10, 3) := by decide +kernel
theorem dX8_node_62 : decode cX8_node 62 = .ok (.invokevirtual 59, 3) := by decide +kernel
theorem dX8_node_65 : decode cX8_node 65 = .ok (.iconst 1, 1) := by decide +kernel
theorem dX8_node_66 : decode cX8_node 66 = .ok (.isub, 1) := by decide +kernel
theorem dX8_node_67 : decode cX8_node 67 = .ok (.ireturn, 1) := by decide +kernel
theorem dX8_refer_0 : decode cX8_refer 0 = .ok (.aload_n 0, 1) := by decide +kernel
theorem dX8_refer_1 : decode cX8_refer 1 = .ok (.iload_n 1, 1) := by decide +kernel
theorem dX8_refer_2 : decode cX8_refer 2 = .ok (.invokevirtual 70, 3) := by decide +kernel
theorem dX8_refer_5 : decode cX8_refer 5 = .ok (.ifnull 11, 3) := by decide +kernel
theorem dX8_refer_8 : decode cX8_refer 8 = .ok (.aload_n 0, 1) := by decide +kernel
theorem dX8_refer_9 : decode cX8_refer 9 = .ok (.iload_n 2, 1) := by decide +kernel
theorem dX8_refer_10 : decode cX8_refer 10 = .ok (.invokevirtual 70, 3) := by decide +kernel
theorem dX8_refer_13 : decode cX8_refer 13 = .ok (.ifnonnull 10, 3) := by decide +kernel
theorem dX8_refer_16 : decode cX8_refer 16 = .ok (.aload_n 0, 1) := by decide +kernel
theorem dX8_refer_17 : decode cX8_refer 17 = .ok (.bipush (-4), 2) := by decide +kernel
theorem dX8_refer_19 : decode cX8_refer 19 = .ok (.invokevirtual 55, 3) := by decide +kernel
theorem dX8_refer_22 : decode cX8_refer 22 = .ok (.ireturn, 1) := by decide +kernel
theorem dX8_refer_23 : decode cX8_refer 23 = .ok (.iload_n 3, 1) := by decide +kernel
theorem dX8_refer_24 : decode cX8_refer 24 = .ok (.iconst 0, 1) := by decide +kernel
theorem dX8_refer_25 : decode cX8_refer 25 = .ok (.bipush 7, 2) := by decide +kernel
theorem dX8_refer_27 : decode cX8_refer 27 = .ok (.invokestatic 51, 3) := by decide +kernel
theorem dX8_refer_30 : decode cX8_refer 30 = .ok (.ifCond .ne 10, 3) := by decide +kernel
theorem dX8_refer_33 : decode cX8_refer 33 = .ok (.aload_n 0, 1) := by decide +kernel
theorem dX8_refer_34 : decode cX8_refer 34 = .ok (.bipush (-7), 2) := by decide +kernel
theorem dX8_refer_36 : decode cX8_refer 36 = .ok (.invokevirtual 55, 3) := by decide +kernel
theorem dX8_refer_39 : decode cX8_refer 39 = .ok (.ireturn, 1) := by decide +kernel
theorem dX8_refer_40 : decode cX8_refer 40 = .ok (.aload_n 0, 1) := by decide +kernel
theorem dX8_refer_41 : decode cX8_refer 41 = .ok (.getfield 16, 3) := by decide +kernel
theorem dX8_refer_44 : decode cX8_refer 44 = .ok (.invokevirtual 59, 3) := by decide +kernel
theorem dX8_refer_47 : decode cX8_refer 47 = .ok (.bipush 100, 2) := by decide +kernel
theorem dX8_refer_49 : decode cX8_refer 49 = .ok (.if_icmp .lt 10, 3) := by decide +kernel
theorem dX8_refer_52 : decode cX8_refer 52 = .ok (.aload_n 0, 1) := by decide +kernel
theorem dX8_refer_53 : decode cX8_refer 53 = .ok (.bipush (-8), 2) := by decide +kernel
theorem dX8_refer_55 : decode cX8_refer 55 = .ok (.invokevirtual 55, 3) := by decide +kernel
theorem dX8_refer_58 : decode cX8_refer 58 = .ok (.ireturn, 1) := by decide +kernel
theorem dX8_refer_59 : decode cX8_refer 59 = .ok (.aload_n 0, 1) := by decide +kernel
theorem dX8_refer_60 : decode cX8_refer 60 = .ok (.getfield 16, 3) := by decide +kernel
theorem dX8_refer_63 : decode cX8_refer 63 = .ok (.new 74, 3) := by decide +kernel
theorem dX8_refer_66 : decode cX8_refer 66 = .ok (.dup, 1) := by decide +kernel
theorem dX8_refer_67 : decode cX8_refer 67 = .ok (.iload_n 1, 1) := by decide +kernel
theorem dX8_refer_68 : decode cX8_refer 68 = .ok (.iload_n 2, 1) := by decide +kernel
theorem dX8_refer_69 : decode cX8_refer 69 = .ok (.iload_n 3, 1) := by decide +kernel
theorem dX8_refer_70 : decode cX8_refer 70 = .ok (.invokespecial 76, 3) := by decide +kernel
theorem dX8_refer_73 : decode cX8_refer 73 = .ok (.invokevirtual 66, 3) := by decide +kernel
theorem dX8_refer_76 : decode cX8_refer 76 = .ok (.pop, 1) := by decide +kernel
theorem dX8_refer_77 : decode cX8_refer 77 = .ok (.aload_n 0, 1) := by decide +kernel
theorem dX8_refer_78 : decode cX8_refer 78 = .ok (.getfield 16, 3) := by decide +kernel
theorem dX8_refer_81 : decode cX8_refer 81 = .ok (.invokevirtual 59, 3) := by decide +kernel
theorem dX8_refer_84 : decode cX8_refer 84 = .ok (.iconst 1, 1) := by decide +kernel
theorem dX8_refer_85 : decode cX8_refer 85 = .ok (.isub, 1) := by decide +kernel
theorem dX8_refer_86 : decode cX8_refer 86 = .ok (.ireturn, 1) := by decide +kernel
theorem dX8_change_0 : decode cX8_change 0 = .ok (.aload_n 0, 1) := by decide +kernel
theorem dX8_change_1 : decode cX8_change 1 = .ok (.iload_n 1, 1) := by decide +kernel
theorem dX8_change_2 : decode cX8_change 2 = .ok (.invokevirtual 79, 3) := by decide +kernel
theorem dX8_change_5 : decode cX8_change 5 = .ok (.astore 4, 2) := by decide +kernel
theorem dX8_change_7 : decode cX8_change 7 = .ok (.aload 4, 2) := by decide +kernel
theorem dX8_change_9 : decode cX8_change 9 = .ok (.ifnonnull 10, 3) := by decide +kernel
theorem dX8_change_12 : decode cX8_change 12 = .ok (.aload_n 0, 1) := by decide +kernel
theorem dX8_change_13 : decode cX8_change 13 = .ok (.bipush (-4), 2) := by decide +kernel
theorem dX8_change_15 : decode cX8_change 15 = .ok (.invokevirtual 55, 3) := by decide +kernel
theorem dX8_change_18 : decode cX8_change 18 = .ok (.ireturn, 1) := by decide +kernel
theorem dX8_change_19 : decode cX8_change 19 = .ok (.aload 4, 2) := by decide +kernel
theorem dX8_change_21 : decode cX8_change 21 = .ok (.lload_n 2, 1) := by decide +kernel
theorem dX8_change_22 : decode cX8_change 22 = .ok (.putfield 82, 3) := by decide +kernel
theorem dX8_change_25 : decode cX8_change 25 = .ok (.iconst 1, 1) := by decide +kernel
theorem dX8_change_26 : decode cX8_change 26 = .ok (.ireturn, 1) := by decide +kernel
theorem dX8_tick_0 : decode cX8_tick 0 = .ok (.iload_n 1, 1) := by decide +kernel
theorem dX8_tick_1 : decode cX8_tick 1 = .ok (.iconst 1, 1) := by decide +kernel
theorem dX8_tick_2 : decode cX8_tick 2 = .ok (.sipush 1000, 3) := by decide +kernel
theorem dX8_tick_5 : decode cX8_tick 5 = .ok (.invokestatic 51, 3) := by decide +kernel
theorem dX8_tick_8 : decode cX8_tick 8 = .ok (.ifCond .ne 10, 3) := by decide +kernel
theorem dX8_tick_11 : decode cX8_tick 11 = .ok (.aload_n 0, 1) := by decide +kernel
theorem dX8_tick_12 : decode cX8_tick 12 = .ok (.bipush (-7), 2) := by decide +kernel
theorem dX8_tick_14 : decode cX8_tick 14 = .ok (.invokevirtual 55, 3) := by decide +kernel
theorem dX8_tick_17 : decode cX8_tick 17 = .ok (.ireturn, 1) := by decide +kernel
theorem dX8_tick_18 : decode cX8_tick 18 = .ok (.aload_n 0, 1) := by decide +kernel
theorem dX8_tick_19 : decode cX8_tick 19 = .ok (.getfield 35, 3) := by decide +kernel
theorem dX8_tick_22 : decode cX8_tick 22 = .ok (.iload_n 1, 1) := by decide +kernel
theorem dX8_tick_23 : decode cX8_tick 23 = .ok (.iadd, 1) := by decide +kernel
theorem dX8_tick_24 : decode cX8_tick 24 = .ok (.ldc 85, 2) := by decide +kernel
theorem dX8_tick_26 : decode cX8_tick 26 = .ok (.if_icmp .le 10, 3) := by decide +kernel
theorem dX8_tick_29 : decode cX8_tick 29 = .ok (.aload_n 0, 1) := by decide +kernel
theorem dX8_tick_30 : decode cX8_tick 30 = .ok (.bipush (-8), 2) := by decide +kernel
theorem dX8_tick_32 : decode cX8_tick 32 = .ok (.invokevirtual 55, 3) := by decide +kernel
theorem dX8_tick_35 : decode cX8_tick 35 = .ok (.ireturn, 1) := by decide +kernel
theorem dX8_tick_36 : decode cX8_tick 36 = .ok (.aload_n 0, 1) := by decide +kernel
theorem dX8_tick_37 : decode cX8_tick 37 = .ok (.getfield 28, 3) := by decide +kernel
theorem dX8_tick_40 : decode cX8_tick 40 = .ok (.invokevirtual 59, 3) := by decide +kernel
theorem dX8_tick_43 : decode cX8_tick 43 = .ok (.istore_n 2, 1) := by decide +kernel
theorem dX8_tick_44 : decode cX8_tick 44 = .ok (.iconst 0, 1) := by decide +kernel
theorem dX8_tick_45 : decode cX8_tick 45 = .ok (.istore_n 3, 1) := by decide +kernel
theorem dX8_tick_46 : decode cX8_tick 46 = .ok (.iload_n 3, 1) := by decide +kernel
theorem dX8_tick_47 : decode cX8_tick 47 = .ok (.iload_n 1, 1) := by decide +kernel
theorem dX8_tick_48 : decode cX8_tick 48 = .ok (.if_icmp .ge 31, 3) := by decide +kernel
theorem dX8_tick_51 : decode cX8_tick 51 = .ok (.aload_n 0, 1) := by decide +kernel
theorem dX8_tick_52 : decode cX8_tick 52 = .ok (.dup, 1) := by decide +kernel
theorem dX8_tick_53 : decode cX8_tick 53 = .ok (.getfield 35, 3) := by decide +kernel
theorem dX8_tick_56 : decode cX8_tick 56 = .ok (.iconst 1, 1) := by decide +kernel
theorem dX8_tick_57 : decode cX8_tick 57 = .ok (.iadd, 1) := by decide +kernel
theorem dX8_tick_58 : decode cX8_tick 58 = .ok (.putfield 35, 3) := by decide +kernel
theorem dX8_tick_61 : decode cX8_tick 61 = .ok (.aload_n 0, 1) := by decide +kernel
theorem dX8_tick_62 : decode cX8_tick 62 = .ok (.invokevirtual 86, 3) := by decide +kernel
theorem dX8_tick_65 : decode cX8_tick 65 = .ok (.aload_n 0, 1) := by decide +kernel
theorem dX8_tick_66 : decode cX8_tick 66 = .ok (.invokevirtual 89, 3) := by decide +kernel
theorem dX8_tick_69 : decode cX8_tick 69 = .ok (.aload_n 0, 1) := by decide +kernel
theorem dX8_tick_70 : decode cX8_tick 70 = .ok (.invokevirtual 92, 3) := by decide +kernel
theorem dX8_tick_73 : decode cX8_tick 73 = .ok (.iinc 3 1, 3) := by decide +kernel
theorem dX8_tick_76 : decode cX8_tick 76 = .ok (.goto (-30), 3) := by decide +kernel
theorem dX8_tick_79 : decode cX8_tick 79 = .ok (.aload_n 0, 1) := by decide +kernel
theorem dX8_tick_80 : decode cX8_tick 80 = .ok (.getfield 28, 3) := by decide +kernel
theorem dX8_tick_83 : decode cX8_tick 83 = .ok (.invokevirtual 59, 3) := by decide +kernel
theorem dX8_tick_86 : decode cX8_tick 86 = .ok (.iload_n 2, 1) := by decide +kernel
theorem dX8_tick_87 : decode cX8_tick 87 = .ok (.isub, 1) := by decide +kernel
theorem dX8_tick_88 : decode cX8_tick 88 = .ok (.ireturn, 1) := by decide +kernel
theorem dX8_session_0 : decode cX8_session 0 = .ok (.iload_n 1, 1) := by decide +kernel
theorem dX8_session_1 : decode cX8_session 1 = .ok (.iconst 1, 1) := by decide +kernel
theorem dX8_session_2 : decode cX8_session 2 = .ok (.sipush 1000, 3) := by decide +kernel
theorem dX8_session_5 : decode cX8_session 5 = .ok (.invokestatic 51, 3) := by decide +kernel
theorem dX8_session_8 : decode cX8_session 8 = .ok (.ifCond .ne 10, 3) := by decide +kernel
theorem dX8_session_11 : decode cX8_session 11 = .ok (.aload_n 0, 1) := by decide +kernel
theorem dX8_session_12 : decode cX8_session 12 = .ok (.bipush (-7), 2) := by decide +kernel
theorem dX8_session_14 : decode cX8_session 14 = .ok (.invokevirtual 55, 3) := by decide +kernel
theorem dX8_session_17 : decode cX8_session 17 = .ok (.ireturn, 1) := by decide +kernel
theorem dX8_session_18 : decode cX8_session 18 = .ok (.aload_n 0, 1) := by decide +kernel
theorem dX8_session_19 : decode cX8_session 19 = .ok (.getfield 19, 3) := by decide +kernel
theorem dX8_session_22 : decode cX8_session 22 = .ok (.invokevirtual 59, 3) := by decide +kernel
theorem dX8_session_25 : decode cX8_session 25 = .ok (.bipush 12, 2) := by decide +kernel
theorem dX8_session_27 : decode cX8_session 27 = .ok (.if_icmp .lt 10, 3) := by decide +kernel
theorem dX8_session_30 : decode cX8_session 30 = .ok (.aload_n 0, 1) := by decide +kernel
theorem dX8_session_31 : decode cX8_session 31 = .ok (.bipush (-8), 2) := by decide +kernel
theorem dX8_session_33 : decode cX8_session 33 = .ok (.invokevirtual 55, 3) := by decide +kernel
theorem dX8_session_36 : decode cX8_session 36 = .ok (.ireturn, 1) := by decide +kernel
theorem dX8_session_37 : decode cX8_session 37 = .ok (.aload_n 0, 1) := by decide +kernel
theorem dX8_session_38 : decode cX8_session 38 = .ok (.getfield 19, 3) := by decide +kernel
theorem dX8_session_41 : decode cX8_session 41 = .ok (.new 95, 3) := by decide +kernel
theorem dX8_session_44 : decode cX8_session 44 = .ok (.dup, 1) := by decide +kernel
theorem dX8_session_45 : decode cX8_session 45 = .ok (.aload_n 0, 1) := by decide +kernel
theorem dX8_session_46 : decode cX8_session 46 = .ok (.getfield 19, 3) := by decide +kernel
theorem dX8_session_49 : decode cX8_session 49 = .ok (.invokevirtual 59, 3) := by decide +kernel
theorem dX8_session_52 : decode cX8_session 52 = .ok (.iload_n 1, 1) := by decide +kernel
theorem dX8_session_53 : decode cX8_session 53 = .ok (.aload_n 0, 1) := by decide +kernel
theorem dX8_session_54 : decode cX8_session 54 = .ok (.getfield 35, 3) := by decide +kernel
theorem dX8_session_57 : decode cX8_session 57 = .ok (.invokespecial 97, 3) := by decide +kernel
theorem dX8_session_60 : decode cX8_session 60 = .ok (.invokevirtual 66, 3) := by decide +kernel
theorem dX8_session_63 : decode cX8_session 63 = .ok (.pop, 1) := by decide +kernel
theorem dX8_session_64 : decode cX8_session 64 = .ok (.aload_n 0, 1) := by decide +kernel
theorem dX8_session_65 : decode cX8_session 65 = .ok (.getfield 19, 3) := by decide +kernel
theorem dX8_session_68 : decode cX8_session 68 = .ok (.invokevirtual 59, 3) := by decide +kernel
theorem dX8_session_71 : decode cX8_session 71 = .ok (.iconst 1, 1) := by decide +kernel
theorem dX8_session_72 : decode cX8_session 72 = .ok (.isub, 1) := by decide +kernel
theorem dX8_session_73 : decode cX8_session 73 = .ok (.ireturn, 1) := by decide +kernel
theorem dX8_activate_0 : decode cX8_activate 0 = .ok (.aload_n 0, 1) := by decide +kernel
theorem dX8_activate_1 : decode cX8_activate 1 = .ok (.iload_n 1, 1) := by decide +kernel
theorem dX8_activate_2 : decode cX8_activate 2 = .ok (.invokevirtual 98, 3) := by decide +kernel
theorem dX8_activate_5 : decode cX8_activate 5 = .ok (.astore_n 2, 1) := by decide +kernel
theorem dX8_activate_6 : decode cX8_activate 6 = .ok (.aload_n 2, 1) := by decide +kernel
theorem dX8_activate_7 : decode cX8_activate 7 = .ok (.ifnull 11, 3) := by decide +kernel
theorem dX8_activate_10 : decode cX8_activate 10 = .ok (.aload_n 2, 1) := by decide +kernel
theorem dX8_activate_11 : decode cX8_activate 11 = .ok (.getfield 102, 3) := by decide +kernel
theorem dX8_activate_14 : decode cX8_activate 14 = .ok (.iconst 2, 1) := by decide +kernel
theorem dX8_activate_15 : decode cX8_activate 15 = .ok (.if_icmp .ne 9, 3) := by decide +kernel
theorem dX8_activate_18 : decode cX8_activate 18 = .ok (.aload_n 0, 1) := by decide +kernel
theorem dX8_activate_19 : decode cX8_activate 19 = .ok (.iload_n 1, 1) := by decide +kernel
theorem dX8_activate_20 : decode cX8_activate 20 = .ok (.invokevirtual 105, 3) := by decide +kernel
theorem dX8_activate_23 : decode cX8_activate 23 = .ok (.ireturn, 1) := by decide +kernel
theorem dX8_activate_24 : decode cX8_activate 24 = .ok (.aload_n 2, 1) := by decide +kernel
theorem dX8_activate_25 : decode cX8_activate 25 = .ok (.iconst 1, 1) := by decide +kernel
theorem dX8_activate_26 : decode cX8_activate 26 = .ok (.putfield 102, 3) := by decide +kernel
theorem dX8_activate_29 : decode cX8_activate 29 = .ok (.aload_n 2, 1) := by decide +kernel
theorem dX8_activate_30 : decode cX8_activate 30 = .ok (.aload_n 0, 1) := by decide +kernel
theorem dX8_activate_31 : decode cX8_activate 31 = .ok (.getfield 35, 3) := by decide +kernel
theorem dX8_activate_34 : decode cX8_activate 34 = .ok (.invokevirtual 108, 3) := by decide +kernel
theorem dX8_activate_37 : decode cX8_activate 37 = .ok (.iconst 1, 1) := by decide +kernel
theorem dX8_activate_38 : decode cX8_activate 38 = .ok (.ireturn, 1) := by decide +kernel
theorem dX8_close_0 : decode cX8_close 0 = .ok (.aload_n 0, 1) := by decide +kernel
theorem dX8_close_1 : decode cX8_close 1 = .ok (.iload_n 1, 1) := by decide +kernel
theorem dX8_close_2 : decode cX8_close 2 = .ok (.invokevirtual 112, 3) := by decide +kernel
theorem dX8_close_5 : decode cX8_close 5 = .ok (.astore_n 2, 1) := by decide +kernel
theorem dX8_close_6 : decode cX8_close 6 = .ok (.aload_n 2, 1) := by decide +kernel
theorem dX8_close_7 : decode cX8_close 7 = .ok (.ifnonnull 9, 3) := by decide +kernel
theorem dX8_close_10 : decode cX8_close 10 = .ok (.aload_n 0, 1) := by decide +kernel
theorem dX8_close_11 : decode cX8_close 11 = .ok (.iload_n 1, 1) := by decide +kernel
theorem dX8_close_12 : decode cX8_close 12 = .ok (.invokevirtual 105, 3) := by decide +kernel
theorem dX8_close_15 : decode cX8_close 15 = .ok (.ireturn, 1) := by decide +kernel
theorem dX8_close_16 : decode cX8_close 16 = .ok (.aload_n 0, 1) := by decide +kernel
theorem dX8_close_17 : decode cX8_close 17 = .ok (.aload_n 2, 1) := by decide +kernel
theorem dX8_close_18 : decode cX8_close 18 = .ok (.invokevirtual 115, 3) := by decide +kernel
theorem dX8_close_21 : decode cX8_close 21 = .ok (.ireturn, 1) := by decide +kernel
theorem dX8_browse_0 : decode cX8_browse 0 = .ok (.aload_n 0, 1) := by decide +kernel
theorem dX8_browse_1 : decode cX8_browse 1 = .ok (.iload_n 1, 1) := by decide +kernel
theorem dX8_browse_2 : decode cX8_browse 2 = .ok (.invokevirtual 112, 3) := by decide +kernel
theorem dX8_browse_5 : decode cX8_browse 5 = .ok (.ifnonnull 9, 3) := by decide +kernel
theorem dX8_browse_8 : decode cX8_browse 8 = .ok (.aload_n 0, 1) := by decide +kernel
theorem dX8_browse_9 : decode cX8_browse 9 = .ok (.iload_n 1, 1) := by decide +kernel
theorem dX8_browse_10 : decode cX8_browse 10 = .ok (.invokevirtual 105, 3) := by decide +kernel
theorem dX8_browse_13 : decode cX8_browse 13 = .ok (.ireturn, 1) := by decide +kernel
theorem dX8_browse_14 : decode cX8_browse 14 = .ok (.aload_n 0, 1) := by decide +kernel
theorem dX8_browse_15 : decode cX8_browse 15 = .ok (.iload_n 2, 1) := by decide +kernel
theorem dX8_browse_16 : decode cX8_browse 16 = .ok (.invokevirtual 70, 3) := by decide +kernel
theorem dX8_browse_19 : decode cX8_browse 19 = .ok (.ifnonnull 10, 3) := by decide +kernel
theorem dX8_browse_22 : decode cX8_browse 22 = .ok (.aload_n 0, 1) := by decide +kernel
theorem dX8_browse_23 : decode cX8_browse 23 = .ok (.bipush (-4), 2) := by decide +kernel
theorem dX8_browse_25 : decode cX8_browse 25 = .ok (.invokevirtual 55, 3) := by decide +kernel
theorem dX8_browse_28 : decode cX8_browse 28 = .ok (.ireturn, 1) := by decide +kernel
theorem dX8_browse_29 : decode cX8_browse 29 = .ok (.iload_n 3, 1) := by decide +kernel
theorem dX8_browse_30 : decode cX8_browse 30 = .ok (.iconst 0, 1) := by decide +kernel
theorem dX8_browse_31 : decode cX8_browse 31 = .ok (.iconst 2, 1) := by decide +kernel
theorem dX8_browse_32 : decode cX8_browse 32 = .ok (.invokestatic 51, 3) := by decide +kernel
theorem dX8_browse_35 : decode cX8_browse 35 = .ok (.ifCond .ne 10, 3) := by decide +kernel
theorem dX8_browse_38 : decode cX8_browse 38 = .ok (.aload_n 0, 1) := by decide +kernel
theorem dX8_browse_39 : decode cX8_browse 39 = .ok (.bipush (-7), 2) := by decide +kernel
theorem dX8_browse_41 : decode cX8_browse 41 = .ok (.invokevirtual 55, 3) := by decide +kernel
theorem dX8_browse_44 : decode cX8_browse 44 = .ok (.ireturn, 1) := by decide +kernel
theorem dX8_browse_45 : decode cX8_browse 45 = .ok (.iconst 0, 1) := by decide +kernel
theorem dX8_browse_46 : decode cX8_browse 46 = .ok (.istore 6, 2) := by decide +kernel
theorem dX8_browse_48 : decode cX8_browse 48 = .ok (.iconst 0, 1) := by decide +kernel
theorem dX8_browse_49 : decode cX8_browse 49 = .ok (.istore 7, 2) := by decide +kernel
theorem dX8_browse_51 : decode cX8_browse 51 = .ok (.iload 7, 2) := by decide +kernel
theorem dX8_browse_53 : decode cX8_browse 53 = .ok (.aload_n 0, 1) := by decide +kernel
theorem dX8_browse_54 : decode cX8_browse 54 = .ok (.getfield 16, 3) := by decide +kernel
theorem dX8_browse_57 : decode cX8_browse 57 = .ok (.invokevirtual 59, 3) := by decide +kernel
theorem dX8_browse_60 : decode cX8_browse 60 = .ok (.if_icmp .ge 60, 3) := by decide +kernel
theorem dX8_browse_63 : decode cX8_browse 63 = .ok (.aload_n 0, 1) := by decide +kernel
theorem dX8_browse_64 : decode cX8_browse 64 = .ok (.getfield 16, 3) := by decide +kernel
theorem dX8_browse_67 : decode cX8_browse 67 = .ok (.iload 7, 2) := by decide +kernel
theorem dX8_browse_69 : decode cX8_browse 69 = .ok (.invokevirtual 119, 3) := by decide +kernel
theorem dX8_browse_72 : decode cX8_browse 72 = .ok (.checkcast 74, 3) := by decide +kernel
theorem dX8_browse_75 : decode cX8_browse 75 = .ok (.astore 8, 2) := by decide +kernel
theorem dX8_browse_77 : decode cX8_browse 77 = .ok (.aload 8, 2) := by decide +kernel
theorem dX8_browse_79 : decode cX8_browse 79 = .ok (.iload_n 2, 1) := by decide +kernel
theorem dX8_browse_80 : decode cX8_browse 80 = .ok (.iload_n 3, 1) := by decide +kernel
theorem dX8_browse_81 : decode cX8_browse 81 = .ok (.invokevirtual 123, 3) := by decide +kernel
theorem dX8_browse_84 : decode cX8_browse 84 = .ok (.ifCond .eq 30, 3) := by decide +kernel
theorem dX8_browse_87 : decode cX8_browse 87 = .ok (.aload 8, 2) := by decide +kernel
theorem dX8_browse_89 : decode cX8_browse 89 = .ok (.iload 4, 2) := by decide +kernel
theorem dX8_browse_91 : decode cX8_browse 91 = .ok (.invokevirtual 127, 3) := by decide +kernel
theorem dX8_browse_94 : decode cX8_browse 94 = .ok (.ifCond .eq 20, 3) := by decide +kernel
theorem dX8_browse_97 : decode cX8_browse 97 = .ok (.iload 6, 2) := by decide +kernel
theorem dX8_browse_99 : decode cX8_browse 99 = .ok (.iload 5, 2) := by decide +kernel
theorem dX8_browse_101 : decode cX8_browse 101 = .ok (.if_icmp .ne 10, 3) := by decide +kernel
theorem dX8_browse_104 : decode cX8_browse 104 = .ok (.aload 8, 2) := by decide +kernel
theorem dX8_browse_106 : decode cX8_browse 106 = .ok (.iload_n 2, 1) := by decide +kernel
theorem dX8_browse_107 : decode cX8_browse 107 = .ok (.invokevirtual 131, 3) := by decide +kernel
theorem dX8_browse_110 : decode cX8_browse 110 = .ok (.ireturn, 1) := by decide +kernel
theorem dX8_browse_111 : decode cX8_browse 111 = .ok (.iinc 6 1, 3) := by decide +kernel
theorem dX8_browse_114 : decode cX8_browse 114 = .ok (.iinc 7 1, 3) := by decide +kernel
theorem dX8_browse_117 : decode cX8_browse 117 = .ok (.goto (-66), 3) := by decide +kernel
theorem dX8_browse_120 : decode cX8_browse 120 = .ok (.aload_n 0, 1) := by decide +kernel
theorem dX8_browse_121 : decode cX8_browse 121 = .ok (.bipush (-9), 2) := by decide +kernel
theorem dX8_browse_123 : decode cX8_browse 123 = .ok (.invokevirtual 55, 3) := by decide +kernel
theorem dX8_browse_126 : decode cX8_browse 126 = .ok (.ireturn, 1) := by decide +kernel
theorem dX8_read_0 : decode cX8_read 0 = .ok (.aload_n 0, 1) := by decide +kernel
theorem dX8_read_1 : decode cX8_read 1 = .ok (.iload_n 1, 1) := by decide +kernel
theorem dX8_read_2 : decode cX8_read 2 = .ok (.invokevirtual 112, 3) := by decide +kernel
theorem dX8_read_5 : decode cX8_read 5 = .ok (.ifnonnull 9, 3) := by decide +kernel
theorem dX8_read_8 : decode cX8_read 8 = .ok (.aload_n 0, 1) := by decide +kernel
theorem dX8_read_9 : decode cX8_read 9 = .ok (.iload_n 1, 1) := by decide +kernel
theorem dX8_read_10 : decode cX8_read 10 = .ok (.invokevirtual 105, 3) := by decide +kernel
theorem dX8_read_13 : decode cX8_read 13 = .ok (.ireturn, 1) := by decide +kernel
theorem dX8_read_14 : decode cX8_read 14 = .ok (.aload_n 0, 1) := by decide +kernel
theorem dX8_read_15 : decode cX8_read 15 = .ok (.iload_n 2, 1) := by decide +kernel
theorem dX8_read_16 : decode cX8_read 16 = .ok (.invokevirtual 79, 3) := by decide +kernel
theorem dX8_read_19 : decode cX8_read 19 = .ok (.astore_n 3, 1) := by decide +kernel
theorem dX8_read_20 : decode cX8_read 20 = .ok (.aload_n 3, 1) := by decide +kernel
theorem dX8_read_21 : decode cX8_read 21 = .ok (.ifnonnull 10, 3) := by decide +kernel
theorem dX8_read_24 : decode cX8_read 24 = .ok (.aload_n 0, 1) := by decide +kernel
theorem dX8_read_25 : decode cX8_read 25 = .ok (.bipush (-4), 2) := by decide +kernel
theorem dX8_read_27 : decode cX8_read 27 = .ok (.invokevirtual 55, 3) := by decide +kernel
theorem dX8_read_30 : decode cX8_read 30 = .ok (.ireturn, 1) := by decide +kernel
theorem dX8_read_31 : decode cX8_read 31 = .ok (.aload_n 0, 1) := by decide +kernel
theorem dX8_read_32 : decode cX8_read 32 = .ok (.aload_n 3, 1) := by decide +kernel
theorem dX8_read_33 : decode cX8_read 33 = .ok (.getfield 82, 3) := by decide +kernel
theorem dX8_read_36 : decode cX8_read 36 = .ok (.putfield 39, 3) := by decide +kernel
theorem dX8_read_39 : decode cX8_read 39 = .ok (.iconst 0, 1) := by decide +kernel
theorem dX8_read_40 : decode cX8_read 40 = .ok (.ireturn, 1) := by decide +kernel
theorem dX8_value_0 : decode cX8_value 0 = .ok (.aload_n 0, 1) := by decide +kernel
theorem dX8_value_1 : decode cX8_value 1 = .ok (.getfield 39, 3) := by decide +kernel
theorem dX8_value_4 : decode cX8_value 4 = .ok (.lreturn, 1) := by decide +kernel
theorem dX8_write_0 : decode cX8_write 0 = .ok (.aload_n 0, 1) := by decide +kernel
theorem dX8_write_1 : decode cX8_write 1 = .ok (.iload_n 1, 1) := by decide +kernel
theorem dX8_write_2 : decode cX8_write 2 = .ok (.invokevirtual 112, 3) := by decide +kernel
theorem dX8_write_5 : decode cX8_write 5 = .ok (.ifnonnull 9, 3) := by decide +kernel
theorem dX8_write_8 : decode cX8_write 8 = .ok (.aload_n 0, 1) := by decide +kernel
theorem dX8_write_9 : decode cX8_write 9 = .ok (.iload_n 1, 1) := by decide +kernel
theorem dX8_write_10 : decode cX8_write 10 = .ok (.invokevirtual 105, 3) := by decide +kernel
theorem dX8_write_13 : decode cX8_write 13 = .ok (.ireturn, 1) := by decide +kernel
theorem dX8_write_14 : decode cX8_write 14 = .ok (.aload_n 0, 1) := by decide +kernel
theorem dX8_write_15 : decode cX8_write 15 = .ok (.iload_n 2, 1) := by decide +kernel
theorem dX8_write_16 : decode cX8_write 16 = .ok (.invokevirtual 79, 3) := by decide +kernel
theorem dX8_write_19 : decode cX8_write 19 = .ok (.astore 5, 2) := by decide +kernel
theorem dX8_write_21 : decode cX8_write 21 = .ok (.aload 5, 2) := by decide +kernel
theorem dX8_write_23 : decode cX8_write 23 = .ok (.ifnull 12, 3) := by decide +kernel
theorem dX8_write_26 : decode cX8_write 26 = .ok (.aload 5, 2) := by decide +kernel
theorem dX8_write_28 : decode cX8_write 28 = .ok (.getfield 134, 3) := by decide +kernel
theorem dX8_write_31 : decode cX8_write 31 = .ok (.iconst 2, 1) := by decide +kernel
theorem dX8_write_32 : decode cX8_write 32 = .ok (.if_icmp .eq 10, 3) := by decide +kernel
theorem dX8_write_35 : decode cX8_write 35 = .ok (.aload_n 0, 1) := by decide +kernel
theorem dX8_write_36 : decode cX8_write 36 = .ok (.bipush (-4), 2) := by decide +kernel
theorem dX8_write_38 : decode cX8_write 38 = .ok (.invokevirtual 55, 3) := by decide +kernel
theorem dX8_write_41 : decode cX8_write 41 = .ok (.ireturn, 1) := by decide +kernel
theorem dX8_write_42 : decode cX8_write 42 = .ok (.aload 5, 2) := by decide +kernel
theorem dX8_write_44 : decode cX8_write 44 = .ok (.lload_n 3, 1) := by decide +kernel
theorem dX8_write_45 : decode cX8_write 45 = .ok (.putfield 82, 3) := by decide +kernel
theorem dX8_write_48 : decode cX8_write 48 = .ok (.iconst 1, 1) := by decide +kernel
theorem dX8_write_49 : decode cX8_write 49 = .ok (.ireturn, 1) := by decide +kernel
theorem dX8_subscribe_0 : decode cX8_subscribe 0 = .ok (.aload_n 0, 1) := by decide +kernel
theorem dX8_subscribe_1 : decode cX8_subscribe 1 = .ok (.iload_n 1, 1) := by decide +kernel
theorem dX8_subscribe_2 : decode cX8_subscribe 2 = .ok (.invokevirtual 112, 3) := by decide +kernel
theorem dX8_subscribe_5 : decode cX8_subscribe 5 = .ok (.astore 6, 2) := by decide +kernel
theorem dX8_subscribe_7 : decode cX8_subscribe 7 = .ok (.aload 6, 2) := by decide +kernel
theorem dX8_subscribe_9 : decode cX8_subscribe 9 = .ok (.ifnonnull 9, 3) := by decide +kernel
theorem dX8_subscribe_12 : decode cX8_subscribe 12 = .ok (.aload_n 0, 1) := by decide +kernel
theorem dX8_subscribe_13 : decode cX8_subscribe 13 = .ok (.iload_n 1, 1) := by decide +kernel
theorem dX8_subscribe_14 : decode cX8_subscribe 14 = .ok (.invokevirtual 105, 3) := by decide +kernel
theorem dX8_subscribe_17 : decode cX8_subscribe 17 = .ok (.ireturn, 1) := by decide +kernel
theorem dX8_subscribe_18 : decode cX8_subscribe 18 = .ok (.iload_n 2, 1) := by decide +kernel
theorem dX8_subscribe_19 : decode cX8_subscribe 19 = .ok (.iload_n 3, 1) := by decide +kernel
theorem dX8_subscribe_20 : decode cX8_subscribe 20 = .ok (.iload 4, 2) := by decide +kernel
theorem dX8_subscribe_22 : decode cX8_subscribe 22 = .ok (.iload 5, 2) := by decide +kernel
theorem dX8_subscribe_24 : decode cX8_subscribe 24 = .ok (.invokestatic 137, 3) := by decide +kernel
theorem dX8_subscribe_27 : decode cX8_subscribe 27 = .ok (.ifCond .ne 10, 3) := by decide +kernel
theorem dX8_subscribe_30 : decode cX8_subscribe 30 = .ok (.aload_n 0, 1) := by decide +kernel
theorem dX8_subscribe_31 : decode cX8_subscribe 31 = .ok (.bipush (-7), 2) := by decide +kernel
theorem dX8_subscribe_33 : decode cX8_subscribe 33 = .ok (.invokevirtual 55, 3) := by decide +kernel
theorem dX8_subscribe_36 : decode cX8_subscribe 36 = .ok (.ireturn, 1) := by decide +kernel
theorem dX8_subscribe_37 : decode cX8_subscribe 37 = .ok (.aload_n 0, 1) := by decide +kernel
theorem dX8_subscribe_38 : decode cX8_subscribe 38 = .ok (.getfield 22, 3) := by decide +kernel
theorem dX8_subscribe_41 : decode cX8_subscribe 41 = .ok (.invokevirtual 59, 3) := by decide +kernel
theorem dX8_subscribe_44 : decode cX8_subscribe 44 = .ok (.bipush 20, 2) := by decide +kernel
theorem dX8_subscribe_46 : decode cX8_subscribe 46 = .ok (.if_icmp .lt 10, 3) := by decide +kernel
theorem dX8_subscribe_49 : decode cX8_subscribe 49 = .ok (.aload_n 0, 1) := by decide +kernel
theorem dX8_subscribe_50 : decode cX8_subscribe 50 = .ok (.bipush (-8), 2) := by decide +kernel
theorem dX8_subscribe_52 : decode cX8_subscribe 52 = .ok (.invokevirtual 55, 3) := by decide +kernel
theorem dX8_subscribe_55 : decode cX8_subscribe 55 = .ok (.ireturn, 1) := by decide +kernel
theorem dX8_subscribe_56 : decode cX8_subscribe 56 = .ok (.new 138, 3) := by decide +kernel
theorem dX8_subscribe_59 : decode cX8_subscribe 59 = .ok (.dup, 1) := by decide +kernel
theorem dX8_subscribe_60 : decode cX8_subscribe 60 = .ok (.aload_n 0, 1) := by decide +kernel
theorem dX8_subscribe_61 : decode cX8_subscribe 61 = .ok (.getfield 22, 3) := by decide +kernel
theorem dX8_subscribe_64 : decode cX8_subscribe 64 = .ok (.invokevirtual 59, 3) := by decide +kernel
theorem dX8_subscribe_67 : decode cX8_subscribe 67 = .ok (.aload 6, 2) := by decide +kernel
theorem dX8_subscribe_69 : decode cX8_subscribe 69 = .ok (.invokespecial 143, 3) := by decide +kernel
theorem dX8_subscribe_72 : decode cX8_subscribe 72 = .ok (.astore 7, 2) := by decide +kernel
theorem dX8_subscribe_74 : decode cX8_subscribe 74 = .ok (.aload 7, 2) := by decide +kernel
theorem dX8_subscribe_76 : decode cX8_subscribe 76 = .ok (.aload_n 0, 1) := by decide +kernel
theorem dX8_subscribe_77 : decode cX8_subscribe 77 = .ok (.getfield 35, 3) := by decide +kernel
theorem dX8_subscribe_80 : decode cX8_subscribe 80 = .ok (.iload_n 2, 1) := by decide +kernel
theorem dX8_subscribe_81 : decode cX8_subscribe 81 = .ok (.iload_n 3, 1) := by decide +kernel
theorem dX8_subscribe_82 : decode cX8_subscribe 82 = .ok (.iload 4, 2) := by decide +kernel
theorem dX8_subscribe_84 : decode cX8_subscribe 84 = .ok (.iload 5, 2) := by decide +kernel
theorem dX8_subscribe_86 : decode cX8_subscribe 86 = .ok (.invokevirtual 146, 3) := by decide +kernel
theorem dX8_subscribe_89 : decode cX8_subscribe 89 = .ok (.aload_n 0, 1) := by decide +kernel
theorem dX8_subscribe_90 : decode cX8_subscribe 90 = .ok (.getfield 22, 3) := by decide +kernel
theorem dX8_subscribe_93 : decode cX8_subscribe 93 = .ok (.aload 7, 2) := by decide +kernel
theorem dX8_subscribe_95 : decode cX8_subscribe 95 = .ok (.invokevirtual 66, 3) := by decide +kernel
theorem dX8_subscribe_98 : decode cX8_subscribe 98 = .ok (.pop, 1) := by decide +kernel
theorem dX8_subscribe_99 : decode cX8_subscribe 99 = .ok (.aload 7, 2) := by decide +kernel
theorem dX8_subscribe_101 : decode cX8_subscribe 101 = .ok (.getfield 150, 3) := by decide +kernel
theorem dX8_subscribe_104 : decode cX8_subscribe 104 = .ok (.ireturn, 1) := by decide +kernel
theorem dX8_modify_0 : decode cX8_modify 0 = .ok (.aload_n 0, 1) := by decide +kernel
theorem dX8_modify_1 : decode cX8_modify 1 = .ok (.iload_n 1, 1) := by decide +kernel
theorem dX8_modify_2 : decode cX8_modify 2 = .ok (.invokevirtual 112, 3) := by decide +kernel
theorem dX8_modify_5 : decode cX8_modify 5 = .ok (.astore 7, 2) := by decide +kernel
theorem dX8_modify_7 : decode cX8_modify 7 = .ok (.aload 7, 2) := by decide +kernel
theorem dX8_modify_9 : decode cX8_modify 9 = .ok (.ifnonnull 9, 3) := by decide +kernel
theorem dX8_modify_12 : decode cX8_modify 12 = .ok (.aload_n 0, 1) := by decide +kernel
theorem dX8_modify_13 : decode cX8_modify 13 = .ok (.iload_n 1, 1) := by decide +kernel
theorem dX8_modify_14 : decode cX8_modify 14 = .ok (.invokevirtual 105, 3) := by decide +kernel
theorem dX8_modify_17 : decode cX8_modify 17 = .ok (.ireturn, 1) := by decide +kernel
theorem dX8_modify_18 : decode cX8_modify 18 = .ok (.aload_n 0, 1) := by decide +kernel
theorem dX8_modify_19 : decode cX8_modify 19 = .ok (.aload 7, 2) := by decide +kernel
theorem dX8_modify_21 : decode cX8_modify 21 = .ok (.iload_n 2, 1) := by decide +kernel
theorem dX8_modify_22 : decode cX8_modify 22 = .ok (.invokevirtual 153, 3) := by decide +kernel
theorem dX8_modify_25 : decode cX8_modify 25 = .ok (.astore 8, 2) := by decide +kernel
theorem dX8_modify_27 : decode cX8_modify 27 = .ok (.aload 8, 2) := by decide +kernel
theorem dX8_modify_29 : decode cX8_modify 29 = .ok (.ifnonnull 10, 3) := by decide +kernel
theorem dX8_modify_32 : decode cX8_modify 32 = .ok (.aload_n 0, 1) := by decide +kernel
theorem dX8_modify_33 : decode cX8_modify 33 = .ok (.bipush (-5), 2) := by decide +kernel
theorem dX8_modify_35 : decode cX8_modify 35 = .ok (.invokevirtual 55, 3) := by decide +kernel
theorem dX8_modify_38 : decode cX8_modify 38 = .ok (.ireturn, 1) := by decide +kernel
theorem dX8_modify_39 : decode cX8_modify 39 = .ok (.iload_n 3, 1) := by decide +kernel
theorem dX8_modify_40 : decode cX8_modify 40 = .ok (.iload 4, 2) := by decide +kernel
theorem dX8_modify_42 : decode cX8_modify 42 = .ok (.iload 5, 2) := by decide +kernel
theorem dX8_modify_44 : decode cX8_modify 44 = .ok (.iload 6, 2) := by decide +kernel
theorem dX8_modify_46 : decode cX8_modify 46 = .ok (.invokestatic 137, 3) := by decide +kernel
theorem dX8_modify_49 : decode cX8_modify 49 = .ok (.ifCond .ne 10, 3) := by decide +kernel
theorem dX8_modify_52 : decode cX8_modify 52 = .ok (.aload_n 0, 1) := by decide +kernel
theorem dX8_modify_53 : decode cX8_modify 53 = .ok (.bipush (-7), 2) := by decide +kernel
theorem dX8_modify_55 : decode cX8_modify 55 = .ok (.invokevirtual 55, 3) := by decide +kernel
theorem dX8_modify_58 : decode cX8_modify 58 = .ok (.ireturn, 1) := by decide +kernel
theorem dX8_modify_59 : decode cX8_modify 59 = .ok (.aload 8, 2) := by decide +kernel
theorem dX8_modify_61 : decode cX8_modify 61 = .ok (.aload_n 0, 1) := by decide +kernel
theorem dX8_modify_62 : decode cX8_modify 62 = .ok (.getfield 35, 3) := by decide +kernel
theorem dX8_modify_65 : decode cX8_modify 65 = .ok (.iload_n 3, 1) := by decide +kernel
theorem dX8_modify_66 : decode cX8_modify 66 = .ok (.iload 4, 2) := by decide +kernel
theorem dX8_modify_68 : decode cX8_modify 68 = .ok (.iload 5, 2) := by decide +kernel
theorem dX8_modify_70 : decode cX8_modify 70 = .ok (.iload 6, 2) := by decide +kernel
theorem dX8_modify_72 : decode cX8_modify 72 = .ok (.invokevirtual 146, 3) := by decide +kernel
theorem dX8_modify_75 : decode cX8_modify 75 = .ok (.iconst 1, 1) := by decide +kernel
theorem dX8_modify_76 : decode cX8_modify 76 = .ok (.ireturn, 1) := by decide +kernel
theorem dX8_turn_0 : decode cX8_turn 0 = .ok (.aload_n 0, 1) := by decide +kernel
theorem dX8_turn_1 : decode cX8_turn 1 = .ok (.iload_n 1, 1) := by decide +kernel
theorem dX8_turn_2 : decode cX8_turn 2 = .ok (.invokevirtual 112, 3) := by decide +kernel
theorem dX8_turn_5 : decode cX8_turn 5 = .ok (.astore 4, 2) := by decide +kernel
theorem dX8_turn_7 : decode cX8_turn 7 = .ok (.aload 4, 2) := by decide +kernel
theorem dX8_turn_9 : decode cX8_turn 9 = .ok (.ifnonnull 9, 3) := by decide +kernel
theorem dX8_turn_12 : decode cX8_turn 12 = .ok (.aload_n 0, 1) := by decide +kernel
theorem dX8_turn_13 : decode cX8_turn 13 = .ok (.iload_n 1, 1) := by decide +kernel
theorem dX8_turn_14 : decode cX8_turn 14 = .ok (.invokevirtual 105, 3) := by decide +kernel
theorem dX8_turn_17 : decode cX8_turn 17 = .ok (.ireturn, 1) := by decide +kernel
theorem dX8_turn_18 : decode cX8_turn 18 = .ok (.aload_n 0, 1) := by decide +kernel
theorem dX8_turn_19 : decode cX8_turn 19 = .ok (.aload 4, 2) := by decide +kernel
theorem dX8_turn_21 : decode cX8_turn 21 = .ok (.iload_n 2, 1) := by decide +kernel
theorem dX8_turn_22 : decode cX8_turn 22 = .ok (.invokevirtual 153, 3) := by decide +kernel
theorem dX8_turn_25 : decode cX8_turn 25 = .ok (.astore 5, 2) := by decide +kernel
theorem dX8_turn_27 : decode cX8_turn 27 = .ok (.aload 5, 2) := by decide +kernel
theorem dX8_turn_29 : decode cX8_turn 29 = .ok (.ifnonnull 10, 3) := by decide +kernel
theorem dX8_turn_32 : decode cX8_turn 32 = .ok (.aload_n 0, 1) := by decide +kernel
theorem dX8_turn_33 : decode cX8_turn 33 = .ok (.bipush (-5), 2) := by decide +kernel
theorem dX8_turn_35 : decode cX8_turn 35 = .ok (.invokevirtual 55, 3) := by decide +kernel
theorem dX8_turn_38 : decode cX8_turn 38 = .ok (.ireturn, 1) := by decide +kernel
theorem dX8_turn_39 : decode cX8_turn 39 = .ok (.aload 5, 2) := by decide +kernel
theorem dX8_turn_41 : decode cX8_turn 41 = .ok (.getfield 157, 3) := by decide +kernel
theorem dX8_turn_44 : decode cX8_turn 44 = .ok (.iload_n 3, 1) := by decide +kernel
theorem dX8_turn_45 : decode cX8_turn 45 = .ok (.if_icmp .eq 7, 3) := by decide +kernel
theorem dX8_turn_48 : decode cX8_turn 48 = .ok (.iconst 1, 1) := by decide +kernel
theorem dX8_turn_49 : decode cX8_turn 49 = .ok (.goto 4, 3) := by decide +kernel
theorem dX8_turn_52 : decode cX8_turn 52 = .ok (.iconst 0, 1) := by decide +kernel
theorem dX8_turn_53 : decode cX8_turn 53 = .ok (.istore 6, 2) := by decide +kernel
theorem dX8_turn_55 : decode cX8_turn 55 = .ok (.aload 5, 2) := by decide +kernel
theorem dX8_turn_57 : decode cX8_turn 57 = .ok (.iload_n 3, 1) := by decide +kernel
theorem dX8_turn_58 : decode cX8_turn 58 = .ok (.putfield 157, 3) := by decide +kernel
theorem dX8_turn_61 : decode cX8_turn 61 = .ok (.aload 5, 2) := by decide +kernel
theorem dX8_turn_63 : decode cX8_turn 63 = .ok (.aload 5, 2) := by decide +kernel
theorem dX8_turn_65 : decode cX8_turn 65 = .ok (.getfield 161, 3) := by decide +kernel
theorem dX8_turn_68 : decode cX8_turn 68 = .ok (.putfield 164, 3) := by decide +kernel
theorem dX8_turn_71 : decode cX8_turn 71 = .ok (.iload 6, 2) := by decide +kernel
theorem dX8_turn_73 : decode cX8_turn 73 = .ok (.invokestatic 167, 3) := by decide +kernel
theorem dX8_turn_76 : decode cX8_turn 76 = .ok (.ireturn, 1) := by decide +kernel
theorem dX8_transfer_0 : decode cX8_transfer 0 = .ok (.aload_n 0, 1) := by decide +kernel
theorem dX8_transfer_1 : decode cX8_transfer 1 = .ok (.iload_n 1, 1) := by decide +kernel
theorem dX8_transfer_2 : decode cX8_transfer 2 = .ok (.invokevirtual 112, 3) := by decide +kernel
theorem dX8_transfer_5 : decode cX8_transfer 5 = .ok (.astore_n 3, 1) := by decide +kernel
theorem dX8_transfer_6 : decode cX8_transfer 6 = .ok (.aload_n 3, 1) := by decide +kernel
theorem dX8_transfer_7 : decode cX8_transfer 7 = .ok (.ifnonnull 9, 3) := by decide +kernel
theorem dX8_transfer_10 : decode cX8_transfer 10 = .ok (.aload_n 0, 1) := by decide +kernel
theorem dX8_transfer_11 : decode cX8_transfer 11 = .ok (.iload_n 1, 1) := by decide +kernel
theorem dX8_transfer_12 : decode cX8_transfer 12 = .ok (.invokevirtual 105, 3) := by decide +kernel
theorem dX8_transfer_15 : decode cX8_transfer 15 = .ok (.ireturn, 1) := by decide +kernel
theorem dX8_transfer_16 : decode cX8_transfer 16 = .ok (.aload_n 0, 1) := by decide +kernel
theorem dX8_transfer_17 : decode cX8_transfer 17 = .ok (.iload_n 2, 1) := by decide +kernel
theorem dX8_transfer_18 : decode cX8_transfer 18 = .ok (.invokevirtual 171, 3) := by decide +kernel
theorem dX8_transfer_21 : decode cX8_transfer 21 = .ok (.astore 4, 2) := by decide +kernel
theorem dX8_transfer_23 : decode cX8_transfer 23 = .ok (.aload 4, 2) := by decide +kernel
theorem dX8_transfer_25 : decode cX8_transfer 25 = .ok (.ifnonnull 10, 3) := by decide +kernel
theorem dX8_transfer_28 : decode cX8_transfer 28 = .ok (.aload_n 0, 1) := by decide +kernel
theorem dX8_transfer_29 : decode cX8_transfer 29 = .ok (.bipush (-5), 2) := by decide +kernel
theorem dX8_transfer_31 : decode cX8_transfer 31 = .ok (.invokevirtual 55, 3) := by decide +kernel
theorem dX8_transfer_34 : decode cX8_transfer 34 = .ok (.ireturn, 1) := by decide +kernel
theorem dX8_transfer_35 : decode cX8_transfer 35 = .ok (.aload 4, 2) := by decide +kernel
theorem dX8_transfer_37 : decode cX8_transfer 37 = .ok (.getfield 175, 3) := by decide +kernel
theorem dX8_transfer_40 : decode cX8_transfer 40 = .ok (.aload_n 3, 1) := by decide +kernel
theorem dX8_transfer_41 : decode cX8_transfer 41 = .ok (.if_acmp .eq 7, 3) := by decide +kernel
theorem dX8_transfer_44 : decode cX8_transfer 44 = .ok (.iconst 1, 1) := by decide +kernel
theorem dX8_transfer_45 : decode cX8_transfer 45 = .ok (.goto 4, 3) := by decide +kernel
theorem dX8_transfer_48 : decode cX8_transfer 48 = .ok (.iconst 0, 1) := by decide +kernel
theorem dX8_transfer_49 : decode cX8_transfer 49 = .ok (.istore 5, 2) := by decide +kernel
theorem dX8_transfer_51 : decode cX8_transfer 51 = .ok (.aload 4, 2) := by decide +kernel
theorem dX8_transfer_53 : decode cX8_transfer 53 = .ok (.aload_n 3, 1) := by decide +kernel
theorem dX8_transfer_54 : decode cX8_transfer 54 = .ok (.putfield 175, 3) := by decide +kernel
theorem dX8_transfer_57 : decode cX8_transfer 57 = .ok (.aload 4, 2) := by decide +kernel
theorem dX8_transfer_59 : decode cX8_transfer 59 = .ok (.aload 4, 2) := by decide +kernel
theorem dX8_transfer_61 : decode cX8_transfer 61 = .ok (.getfield 161, 3) := by decide +kernel
theorem dX8_transfer_64 : decode cX8_transfer 64 = .ok (.putfield 164, 3) := by decide +kernel
theorem dX8_transfer_67 : decode cX8_transfer 67 = .ok (.iload 5, 2) := by decide +kernel
theorem dX8_transfer_69 : decode cX8_transfer 69 = .ok (.invokestatic 167, 3) := by decide +kernel
theorem dX8_transfer_72 : decode cX8_transfer 72 = .ok (.ireturn, 1) := by decide +kernel
theorem dX8_unsubscribe_0 : decode cX8_unsubscribe 0 = .ok (.aload_n 0, 1) := by decide +kernel
theorem dX8_unsubscribe_1 : decode cX8_unsubscribe 1 = .ok (.iload_n 1, 1) := by decide +kernel
theorem dX8_unsubscribe_2 : decode cX8_unsubscribe 2 = .ok (.invokevirtual 112, 3) := by decide +kernel
theorem dX8_unsubscribe_5 : decode cX8_unsubscribe 5 = .ok (.astore_n 3, 1) := by decide +kernel
theorem dX8_unsubscribe_6 : decode cX8_unsubscribe 6 = .ok (.aload_n 3, 1) := by decide +kernel
theorem dX8_unsubscribe_7 : decode cX8_unsubscribe 7 = .ok (.ifnonnull 9, 3) := by decide +kernel
theorem dX8_unsubscribe_10 : decode cX8_unsubscribe 10 = .ok (.aload_n 0, 1) := by decide +kernel
theorem dX8_unsubscribe_11 : decode cX8_unsubscribe 11 = .ok (.iload_n 1, 1) := by decide +kernel
theorem dX8_unsubscribe_12 : decode cX8_unsubscribe 12 = .ok (.invokevirtual 105, 3) := by decide +kernel
theorem dX8_unsubscribe_15 : decode cX8_unsubscribe 15 = .ok (.ireturn, 1) := by decide +kernel
theorem dX8_unsubscribe_16 : decode cX8_unsubscribe 16 = .ok (.aload_n 0, 1) := by decide +kernel
theorem dX8_unsubscribe_17 : decode cX8_unsubscribe 17 = .ok (.aload_n 3, 1) := by decide +kernel
theorem dX8_unsubscribe_18 : decode cX8_unsubscribe 18 = .ok (.iload_n 2, 1) := by decide +kernel
theorem dX8_unsubscribe_19 : decode cX8_unsubscribe 19 = .ok (.invokevirtual 153, 3) := by decide +kernel
theorem dX8_unsubscribe_22 : decode cX8_unsubscribe 22 = .ok (.astore 4, 2) := by decide +kernel
theorem dX8_unsubscribe_24 : decode cX8_unsubscribe 24 = .ok (.aload 4, 2) := by decide +kernel
theorem dX8_unsubscribe_26 : decode cX8_unsubscribe 26 = .ok (.ifnonnull 10, 3) := by decide +kernel
theorem dX8_unsubscribe_29 : decode cX8_unsubscribe 29 = .ok (.aload_n 0, 1) := by decide +kernel
theorem dX8_unsubscribe_30 : decode cX8_unsubscribe 30 = .ok (.bipush (-5), 2) := by decide +kernel
theorem dX8_unsubscribe_32 : decode cX8_unsubscribe 32 = .ok (.invokevirtual 55, 3) := by decide +kernel
theorem dX8_unsubscribe_35 : decode cX8_unsubscribe 35 = .ok (.ireturn, 1) := by decide +kernel
theorem dX8_unsubscribe_36 : decode cX8_unsubscribe 36 = .ok (.aload 4, 2) := by decide +kernel
theorem dX8_unsubscribe_38 : decode cX8_unsubscribe 38 = .ok (.invokevirtual 179, 3) := by decide +kernel
theorem dX8_unsubscribe_41 : decode cX8_unsubscribe 41 = .ok (.iconst 1, 1) := by decide +kernel
theorem dX8_unsubscribe_42 : decode cX8_unsubscribe 42 = .ok (.ireturn, 1) := by decide +kernel
theorem dX8_item_0 : decode cX8_item 0 = .ok (.aload_n 0, 1) := by decide +kernel
theorem dX8_item_1 : decode cX8_item 1 = .ok (.iload_n 1, 1) := by decide +kernel
theorem dX8_item_2 : decode cX8_item 2 = .ok (.invokevirtual 112, 3) := by decide +kernel
theorem dX8_item_5 : decode cX8_item 5 = .ok (.astore 10, 2) := by decide +kernel
theorem dX8_item_7 : decode cX8_item 7 = .ok (.aload 10, 2) := by decide +kernel
theorem dX8_item_9 : decode cX8_item 9 = .ok (.ifnonnull 9, 3) := by decide +kernel
theorem dX8_item_12 : decode cX8_item 12 = .ok (.aload_n 0, 1) := by decide +kernel
theorem dX8_item_13 : decode cX8_item 13 = .ok (.iload_n 1, 1) := by decide +kernel
theorem dX8_item_14 : decode cX8_item 14 = .ok (.invokevirtual 105, 3) := by decide +kernel
theorem dX8_item_17 : decode cX8_item 17 = .ok (.ireturn, 1) := by decide +kernel
theorem dX8_item_18 : decode cX8_item 18 = .ok (.aload_n 0, 1) := by decide +kernel
theorem dX8_item_19 : decode cX8_item 19 = .ok (.aload 10, 2) := by decide +kernel
theorem dX8_item_21 : decode cX8_item 21 = .ok (.iload_n 2, 1) := by decide +kernel
theorem dX8_item_22 : decode cX8_item 22 = .ok (.invokevirtual 153, 3) := by decide +kernel
theorem dX8_item_25 : decode cX8_item 25 = .ok (.astore 11, 2) := by decide +kernel
theorem dX8_item_27 : decode cX8_item 27 = .ok (.aload 11, 2) := by decide +kernel
theorem dX8_item_29 : decode cX8_item 29 = .ok (.ifnonnull 10, 3) := by decide +kernel
theorem dX8_item_32 : decode cX8_item 32 = .ok (.aload_n 0, 1) := by decide +kernel
theorem dX8_item_33 : decode cX8_item 33 = .ok (.bipush (-5), 2) := by decide +kernel
theorem dX8_item_35 : decode cX8_item 35 = .ok (.invokevirtual 55, 3) := by decide +kernel
theorem dX8_item_38 : decode cX8_item 38 = .ok (.ireturn, 1) := by decide +kernel
theorem dX8_item_39 : decode cX8_item 39 = .ok (.aload_n 0, 1) := by decide +kernel
theorem dX8_item_40 : decode cX8_item 40 = .ok (.iload_n 3, 1) := by decide +kernel
theorem dX8_item_41 : decode cX8_item 41 = .ok (.invokevirtual 79, 3) := by decide +kernel
theorem dX8_item_44 : decode cX8_item 44 = .ok (.astore 12, 2) := by decide +kernel
theorem dX8_item_46 : decode cX8_item 46 = .ok (.aload 12, 2) := by decide +kernel
theorem dX8_item_48 : decode cX8_item 48 = .ok (.ifnonnull 10, 3) := by decide +kernel
theorem dX8_item_51 : decode cX8_item 51 = .ok (.aload_n 0, 1) := by decide +kernel
theorem dX8_item_52 : decode cX8_item 52 = .ok (.bipush (-4), 2) := by decide +kernel
theorem dX8_item_54 : decode cX8_item 54 = .ok (.invokevirtual 55, 3) := by decide +kernel
theorem dX8_item_57 : decode cX8_item 57 = .ok (.ireturn, 1) := by decide +kernel
theorem dX8_item_58 : decode cX8_item 58 = .ok (.iload 4, 2) := by decide +kernel
theorem dX8_item_60 : decode cX8_item 60 = .ok (.iload 5, 2) := by decide +kernel
theorem dX8_item_62 : decode cX8_item 62 = .ok (.iload 7, 2) := by decide +kernel
theorem dX8_item_64 : decode cX8_item 64 = .ok (.lload 8, 2) := by decide +kernel
theorem dX8_item_66 : decode cX8_item 66 = .ok (.invokestatic 182, 3) := by decide +kernel
theorem dX8_item_69 : decode cX8_item 69 = .ok (.ifCond .ne 10, 3) := by decide +kernel
theorem dX8_item_72 : decode cX8_item 72 = .ok (.aload_n 0, 1) := by decide +kernel
theorem dX8_item_73 : decode cX8_item 73 = .ok (.bipush (-7), 2) := by decide +kernel
theorem dX8_item_75 : decode cX8_item 75 = .ok (.invokevirtual 55, 3) := by decide +kernel
theorem dX8_item_78 : decode cX8_item 78 = .ok (.ireturn, 1) := by decide +kernel
theorem dX8_item_79 : decode cX8_item 79 = .ok (.aload_n 0, 1) := by decide +kernel
theorem dX8_item_80 : decode cX8_item 80 = .ok (.getfield 25, 3) := by decide +kernel
theorem dX8_item_83 : decode cX8_item 83 = .ok (.invokevirtual 59, 3) := by decide +kernel
theorem dX8_item_86 : decode cX8_item 86 = .ok (.bipush 60, 2) := by decide +kernel
theorem dX8_item_88 : decode cX8_item 88 = .ok (.if_icmp .lt 10, 3) := by decide +kernel
theorem dX8_item_91 : decode cX8_item 91 = .ok (.aload_n 0, 1) := by decide +kernel
theorem dX8_item_92 : decode cX8_item 92 = .ok (.bipush (-8), 2) := by decide +kernel
theorem dX8_item_94 : decode cX8_item 94 = .ok (.invokevirtual 55, 3) := by decide +kernel
theorem dX8_item_97 : decode cX8_item 97 = .ok (.ireturn, 1) := by decide +kernel
theorem dX8_item_98 : decode cX8_item 98 = .ok (.new 183, 3) := by decide +kernel
theorem dX8_item_101 : decode cX8_item 101 = .ok (.dup, 1) := by decide +kernel
theorem dX8_item_102 : decode cX8_item 102 = .ok (.aload_n 0, 1) := by decide +kernel
theorem dX8_item_103 : decode cX8_item 103 = .ok (.getfield 25, 3) := by decide +kernel
theorem dX8_item_106 : decode cX8_item 106 = .ok (.invokevirtual 59, 3) := by decide +kernel
theorem dX8_item_109 : decode cX8_item 109 = .ok (.aload 11, 2) := by decide +kernel
theorem dX8_item_111 : decode cX8_item 111 = .ok (.aload 12, 2) := by decide +kernel
theorem dX8_item_113 : decode cX8_item 113 = .ok (.aload_n 0, 1) := by decide +kernel
theorem dX8_item_114 : decode cX8_item 114 = .ok (.getfield 35, 3) := by decide +kernel
theorem dX8_item_117 : decode cX8_item 117 = .ok (.iload 4, 2) := by decide +kernel
theorem dX8_item_119 : decode cX8_item 119 = .ok (.lload 8, 2) := by decide +kernel
theorem dX8_item_121 : decode cX8_item 121 = .ok (.new 187, 3) := by decide +kernel
theorem dX8_item_124 : decode cX8_item 124 = .ok (.dup, 1) := by decide +kernel
theorem dX8_item_125 : decode cX8_item 125 = .ok (.iload 5, 2) := by decide +kernel
theorem dX8_item_127 : decode cX8_item 127 = .ok (.iload 6, 2) := by decide +kernel
theorem dX8_item_129 : decode cX8_item 129 = .ok (.invokespecial 189, 3) := by decide +kernel
theorem dX8_item_132 : decode cX8_item 132 = .ok (.invokespecial 192, 3) := by decide +kernel
theorem dX8_item_135 : decode cX8_item 135 = .ok (.astore 13, 2) := by decide +kernel
theorem dX8_item_137 : decode cX8_item 137 = .ok (.aload_n 0, 1) := by decide +kernel
theorem dX8_item_138 : decode cX8_item 138 = .ok (.getfield 25, 3) := by decide +kernel
theorem dX8_item_141 : decode cX8_item 141 = .ok (.aload 13, 2) := by decide +kernel
theorem dX8_item_143 : decode cX8_item 143 = .ok (.invokevirtual 66, 3) := by decide +kernel
theorem dX8_item_146 : decode cX8_item 146 = .ok (.pop, 1) := by decide +kernel
theorem dX8_item_147 : decode cX8_item 147 = .ok (.aload 11, 2) := by decide +kernel
theorem dX8_item_149 : decode cX8_item 149 = .ok (.getfield 195, 3) := by decide +kernel
theorem dX8_item_152 : decode cX8_item 152 = .ok (.aload 13, 2) := by decide +kernel
theorem dX8_item_154 : decode cX8_item 154 = .ok (.invokevirtual 66, 3) := by decide +kernel
theorem dX8_item_157 : decode cX8_item 157 = .ok (.pop, 1) := by decide +kernel
theorem dX8_item_158 : decode cX8_item 158 = .ok (.aload 11, 2) := by decide +kernel
theorem dX8_item_160 : decode cX8_item 160 = .ok (.aload 11, 2) := by decide +kernel
theorem dX8_item_162 : decode cX8_item 162 = .ok (.getfield 161, 3) := by decide +kernel
theorem dX8_item_165 : decode cX8_item 165 = .ok (.putfield 164, 3) := by decide +kernel
theorem dX8_item_168 : decode cX8_item 168 = .ok (.aload 13, 2) := by decide +kernel
theorem dX8_item_170 : decode cX8_item 170 = .ok (.iload 7, 2) := by decide +kernel
theorem dX8_item_172 : decode cX8_item 172 = .ok (.aload_n 0, 1) := by decide +kernel
theorem dX8_item_173 : decode cX8_item 173 = .ok (.getfield 35, 3) := by decide +kernel
theorem dX8_item_176 : decode cX8_item 176 = .ok (.invokevirtual 196, 3) := by decide +kernel
theorem dX8_item_179 : decode cX8_item 179 = .ok (.aload 13, 2) := by decide +kernel
theorem dX8_item_181 : decode cX8_item 181 = .ok (.getfield 199, 3) := by decide +kernel
theorem dX8_item_184 : decode cX8_item 184 = .ok (.ireturn, 1) := by decide +kernel
theorem dX8_mode_0 : decode cX8_mode 0 = .ok (.aload_n 0, 1) := by decide +kernel
theorem dX8_mode_1 : decode cX8_mode 1 = .ok (.iload_n 1, 1) := by decide +kernel
theorem dX8_mode_2 : decode cX8_mode 2 = .ok (.invokevirtual 112, 3) := by decide +kernel
theorem dX8_mode_5 : decode cX8_mode 5 = .ok (.astore 4, 2) := by decide +kernel
theorem dX8_mode_7 : decode cX8_mode 7 = .ok (.aload 4, 2) := by decide +kernel
theorem dX8_mode_9 : decode cX8_mode 9 = .ok (.ifnonnull 9, 3) := by decide +kernel
theorem dX8_mode_12 : decode cX8_mode 12 = .ok (.aload_n 0, 1) := by decide +kernel
theorem dX8_mode_13 : decode cX8_mode 13 = .ok (.iload_n 1, 1) := by decide +kernel
theorem dX8_mode_14 : decode cX8_mode 14 = .ok (.invokevirtual 105, 3) := by decide +kernel
theorem dX8_mode_17 : decode cX8_mode 17 = .ok (.ireturn, 1) := by decide +kernel
theorem dX8_mode_18 : decode cX8_mode 18 = .ok (.aload_n 0, 1) := by decide +kernel
theorem dX8_mode_19 : decode cX8_mode 19 = .ok (.aload 4, 2) := by decide +kernel
theorem dX8_mode_21 : decode cX8_mode 21 = .ok (.iload_n 2, 1) := by decide +kernel
theorem dX8_mode_22 : decode cX8_mode 22 = .ok (.invokevirtual 200, 3) := by decide +kernel
theorem dX8_mode_25 : decode cX8_mode 25 = .ok (.astore 5, 2) := by decide +kernel
theorem dX8_mode_27 : decode cX8_mode 27 = .ok (.aload 5, 2) := by decide +kernel
theorem dX8_mode_29 : decode cX8_mode 29 = .ok (.ifnonnull 10, 3) := by decide +kernel
theorem dX8_mode_32 : decode cX8_mode 32 = .ok (.aload_n 0, 1) := by decide +kernel
theorem dX8_mode_33 : decode cX8_mode 33 = .ok (.bipush (-6), 2) := by decide +kernel
theorem dX8_mode_35 : decode cX8_mode 35 = .ok (.invokevirtual 55, 3) := by decide +kernel
theorem dX8_mode_38 : decode cX8_mode 38 = .ok (.ireturn, 1) := by decide +kernel
theorem dX8_mode_39 : decode cX8_mode 39 = .ok (.iload_n 3, 1) := by decide +kernel
theorem dX8_mode_40 : decode cX8_mode 40 = .ok (.iconst 0, 1) := by decide +kernel
theorem dX8_mode_41 : decode cX8_mode 41 = .ok (.iconst 2, 1) := by decide +kernel
theorem dX8_mode_42 : decode cX8_mode 42 = .ok (.invokestatic 51, 3) := by decide +kernel
theorem dX8_mode_45 : decode cX8_mode 45 = .ok (.ifCond .ne 10, 3) := by decide +kernel
theorem dX8_mode_48 : decode cX8_mode 48 = .ok (.aload_n 0, 1) := by decide +kernel
theorem dX8_mode_49 : decode cX8_mode 49 = .ok (.bipush (-7), 2) := by decide +kernel
theorem dX8_mode_51 : decode cX8_mode 51 = .ok (.invokevirtual 55, 3) := by decide +kernel
theorem dX8_mode_54 : decode cX8_mode 54 = .ok (.ireturn, 1) := by decide +kernel
theorem dX8_mode_55 : decode cX8_mode 55 = .ok (.aload 5, 2) := by decide +kernel
theorem dX8_mode_57 : decode cX8_mode 57 = .ok (.getfield 204, 3) := by decide +kernel
theorem dX8_mode_60 : decode cX8_mode 60 = .ok (.istore 6, 2) := by decide +kernel
theorem dX8_mode_62 : decode cX8_mode 62 = .ok (.aload 5, 2) := by decide +kernel
theorem dX8_mode_64 : decode cX8_mode 64 = .ok (.iload_n 3, 1) := by decide +kernel
theorem dX8_mode_65 : decode cX8_mode 65 = .ok (.aload_n 0, 1) := by decide +kernel
theorem dX8_mode_66 : decode cX8_mode 66 = .ok (.getfield 35, 3) := by decide +kernel
theorem dX8_mode_69 : decode cX8_mode 69 = .ok (.invokevirtual 196, 3) := by decide +kernel
theorem dX8_mode_72 : decode cX8_mode 72 = .ok (.aload 5, 2) := by decide +kernel
theorem dX8_mode_74 : decode cX8_mode 74 = .ok (.getfield 207, 3) := by decide +kernel
theorem dX8_mode_77 : decode cX8_mode 77 = .ok (.aload 5, 2) := by decide +kernel
theorem dX8_mode_79 : decode cX8_mode 79 = .ok (.getfield 207, 3) := by decide +kernel
theorem dX8_mode_82 : decode cX8_mode 82 = .ok (.getfield 161, 3) := by decide +kernel
theorem dX8_mode_85 : decode cX8_mode 85 = .ok (.putfield 164, 3) := by decide +kernel
theorem dX8_mode_88 : decode cX8_mode 88 = .ok (.iload 6, 2) := by decide +kernel
theorem dX8_mode_90 : decode cX8_mode 90 = .ok (.ireturn, 1) := by decide +kernel
theorem dX8_drop_0 : decode cX8_drop 0 = .ok (.aload_n 0, 1) := by decide +kernel
theorem dX8_drop_1 : decode cX8_drop 1 = .ok (.iload_n 1, 1) := by decide +kernel
theorem dX8_drop_2 : decode cX8_drop 2 = .ok (.invokevirtual 112, 3) := by decide +kernel
theorem dX8_drop_5 : decode cX8_drop 5 = .ok (.astore_n 3, 1) := by decide +kernel
theorem dX8_drop_6 : decode cX8_drop 6 = .ok (.aload_n 3, 1) := by decide +kernel
theorem dX8_drop_7 : decode cX8_drop 7 = .ok (.ifnonnull 9, 3) := by decide +kernel
theorem dX8_drop_10 : decode cX8_drop 10 = .ok (.aload_n 0, 1) := by decide +kernel
theorem dX8_drop_11 : decode cX8_drop 11 = .ok (.iload_n 1, 1) := by decide +kernel
theorem dX8_drop_12 : decode cX8_drop 12 = .ok (.invokevirtual 105, 3) := by decide +kernel
theorem dX8_drop_15 : decode cX8_drop 15 = .ok (.ireturn, 1) := by decide +kernel
theorem dX8_drop_16 : decode cX8_drop 16 = .ok (.aload_n 0, 1) := by decide +kernel
theorem dX8_drop_17 : decode cX8_drop 17 = .ok (.aload_n 3, 1) := by decide +kernel
theorem dX8_drop_18 : decode cX8_drop 18 = .ok (.iload_n 2, 1) := by decide +kernel
theorem dX8_drop_19 : decode cX8_drop 19 = .ok (.invokevirtual 200, 3) := by decide +kernel
theorem dX8_drop_22 : decode cX8_drop 22 = .ok (.astore 4, 2) := by decide +kernel
theorem dX8_drop_24 : decode cX8_drop 24 = .ok (.aload 4, 2) := by decide +kernel
theorem dX8_drop_26 : decode cX8_drop 26 = .ok (.ifnonnull 10, 3) := by decide +kernel
theorem dX8_drop_29 : decode cX8_drop 29 = .ok (.aload_n 0, 1) := by decide +kernel
theorem dX8_drop_30 : decode cX8_drop 30 = .ok (.bipush (-6), 2) := by decide +kernel
theorem dX8_drop_32 : decode cX8_drop 32 = .ok (.invokevirtual 55, 3) := by decide +kernel
theorem dX8_drop_35 : decode cX8_drop 35 = .ok (.ireturn, 1) := by decide +kernel
theorem dX8_drop_36 : decode cX8_drop 36 = .ok (.aload 4, 2) := by decide +kernel
theorem dX8_drop_38 : decode cX8_drop 38 = .ok (.getfield 210, 3) := by decide +kernel
theorem dX8_drop_41 : decode cX8_drop 41 = .ok (.getfield 214, 3) := by decide +kernel
theorem dX8_drop_44 : decode cX8_drop 44 = .ok (.invokevirtual 59, 3) := by decide +kernel
theorem dX8_drop_47 : decode cX8_drop 47 = .ok (.istore 5, 2) := by decide +kernel
theorem dX8_drop_49 : decode cX8_drop 49 = .ok (.aload 4, 2) := by decide +kernel
theorem dX8_drop_51 : decode cX8_drop 51 = .ok (.getfield 207, 3) := by decide +kernel
theorem dX8_drop_54 : decode cX8_drop 54 = .ok (.aload 4, 2) := by decide +kernel
theorem dX8_drop_56 : decode cX8_drop 56 = .ok (.invokevirtual 217, 3) := by decide +kernel
theorem dX8_drop_59 : decode cX8_drop 59 = .ok (.aload 4, 2) := by decide +kernel
theorem dX8_drop_61 : decode cX8_drop 61 = .ok (.getfield 207, 3) := by decide +kernel
theorem dX8_drop_64 : decode cX8_drop 64 = .ok (.aload 4, 2) := by decide +kernel
theorem dX8_drop_66 : decode cX8_drop 66 = .ok (.getfield 207, 3) := by decide +kernel
theorem dX8_drop_69 : decode cX8_drop 69 = .ok (.getfield 161, 3) := by decide +kernel
theorem dX8_drop_72 : decode cX8_drop 72 = .ok (.putfield 164, 3) := by decide +kernel
theorem dX8_drop_75 : decode cX8_drop 75 = .ok (.iload 5, 2) := by decide +kernel
theorem dX8_drop_77 : decode cX8_drop 77 = .ok (.ireturn, 1) := by decide +kernel
theorem dX8_publish_0 : decode cX8_publish 0 = .ok (.aload_n 0, 1) := by decide +kernel
theorem dX8_publish_1 : decode cX8_publish 1 = .ok (.iload_n 1, 1) := by decide +kernel
theorem dX8_publish_2 : decode cX8_publish 2 = .ok (.invokevirtual 112, 3) := by decide +kernel
theorem dX8_publish_5 : decode cX8_publish 5 = .ok (.astore 4, 2) := by decide +kernel
theorem dX8_publish_7 : decode cX8_publish 7 = .ok (.aload 4, 2) := by decide +kernel
theorem dX8_publish_9 : decode cX8_publish 9 = .ok (.ifnonnull 9, 3) := by decide +kernel
theorem dX8_publish_12 : decode cX8_publish 12 = .ok (.aload_n 0, 1) := by decide +kernel
theorem dX8_publish_13 : decode cX8_publish 13 = .ok (.iload_n 1, 1) := by decide +kernel
theorem dX8_publish_14 : decode cX8_publish 14 = .ok (.invokevirtual 105, 3) := by decide +kernel
theorem dX8_publish_17 : decode cX8_publish 17 = .ok (.ireturn, 1) := by decide +kernel
theorem dX8_publish_18 : decode cX8_publish 18 = .ok (.aload_n 0, 1) := by decide +kernel
theorem dX8_publish_19 : decode cX8_publish 19 = .ok (.aload 4, 2) := by decide +kernel
theorem dX8_publish_21 : decode cX8_publish 21 = .ok (.invokevirtual 221, 3) := by decide +kernel
theorem dX8_publish_24 : decode cX8_publish 24 = .ok (.ifCond .ne 10, 3) := by decide +kernel
theorem dX8_publish_27 : decode cX8_publish 27 = .ok (.aload_n 0, 1) := by decide +kernel
theorem dX8_publish_28 : decode cX8_publish 28 = .ok (.bipush (-9), 2) := by decide +kernel
theorem dX8_publish_30 : decode cX8_publish 30 = .ok (.invokevirtual 55, 3) := by decide +kernel
theorem dX8_publish_33 : decode cX8_publish 33 = .ok (.ireturn, 1) := by decide +kernel
theorem dX8_publish_34 : decode cX8_publish 34 = .ok (.aload 4, 2) := by decide +kernel
theorem dX8_publish_36 : decode cX8_publish 36 = .ok (.getfield 224, 3) := by decide +kernel
theorem dX8_publish_39 : decode cX8_publish 39 = .ok (.iconst 4, 1) := by decide +kernel
theorem dX8_publish_40 : decode cX8_publish 40 = .ok (.if_icmp .ge 16, 3) := by decide +kernel
theorem dX8_publish_43 : decode cX8_publish 43 = .ok (.aload_n 0, 1) := by decide +kernel
theorem dX8_publish_44 : decode cX8_publish 44 = .ok (.getfield 28, 3) := by decide +kernel
theorem dX8_publish_47 : decode cX8_publish 47 = .ok (.invokevirtual 59, 3) := by decide +kernel
theorem dX8_publish_50 : decode cX8_publish 50 = .ok (.sipush 900, 3) := by decide +kernel
theorem dX8_publish_53 : decode cX8_publish 53 = .ok (.if_icmp .lt 10, 3) := by decide +kernel
theorem dX8_publish_56 : decode cX8_publish 56 = .ok (.aload_n 0, 1) := by decide +kernel
theorem dX8_publish_57 : decode cX8_publish 57 = .ok (.bipush (-8), 2) := by decide +kernel
theorem dX8_publish_59 : decode cX8_publish 59 = .ok (.invokevirtual 55, 3) := by decide +kernel
theorem dX8_publish_62 : decode cX8_publish 62 = .ok (.ireturn, 1) := by decide +kernel
theorem dX8_publish_63 : decode cX8_publish 63 = .ok (.aload_n 0, 1) := by decide +kernel
theorem dX8_publish_64 : decode cX8_publish 64 = .ok (.iload_n 2, 1) := by decide +kernel
theorem dX8_publish_65 : decode cX8_publish 65 = .ok (.iconst (-1), 1) := by decide +kernel
theorem dX8_publish_66 : decode cX8_publish 66 = .ok (.if_icmp .ne 7, 3) := by decide +kernel
theorem dX8_publish_69 : decode cX8_publish 69 = .ok (.iconst 0, 1) := by decide +kernel
theorem dX8_publish_70 : decode cX8_publish 70 = .ok (.goto 11, 3) := by decide +kernel
theorem dX8_publish_73 : decode cX8_publish 73 = .ok (.aload_n 0, 1) := by decide +kernel
theorem dX8_publish_74 : decode cX8_publish 74 = .ok (.aload 4, 2) := by decide +kernel
theorem dX8_publish_76 : decode cX8_publish 76 = .ok (.iload_n 2, 1) := by decide +kernel
theorem dX8_publish_77 : decode cX8_publish 77 = .ok (.iload_n 3, 1) := by decide +kernel
theorem dX8_publish_78 : decode cX8_publish 78 = .ok (.invokevirtual 227, 3) := by decide +kernel
theorem dX8_publish_81 : decode cX8_publish 81 = .ok (.putfield 43, 3) := by decide +kernel
theorem dX8_publish_84 : decode cX8_publish 84 = .ok (.aload 4, 2) := by decide +kernel
theorem dX8_publish_86 : decode cX8_publish 86 = .ok (.dup, 1) := by decide +kernel
theorem dX8_publish_87 : decode cX8_publish 87 = .ok (.getfield 224, 3) := by decide +kernel
theorem dX8_publish_90 : decode cX8_publish 90 = .ok (.iconst 1, 1) := by decide +kernel
theorem dX8_publish_91 : decode cX8_publish 91 = .ok (.iadd, 1) := by decide +kernel
theorem dX8_publish_92 : decode cX8_publish 92 = .ok (.putfield 224, 3) := by decide +kernel
theorem dX8_publish_95 : decode cX8_publish 95 = .ok (.aload_n 0, 1) := by decide +kernel
theorem dX8_publish_96 : decode cX8_publish 96 = .ok (.aload 4, 2) := by decide +kernel
theorem dX8_publish_98 : decode cX8_publish 98 = .ok (.invokevirtual 231, 3) := by decide +kernel
theorem dX8_publish_101 : decode cX8_publish 101 = .ok (.astore 5, 2) := by decide +kernel
theorem dX8_publish_103 : decode cX8_publish 103 = .ok (.aload 5, 2) := by decide +kernel
theorem dX8_publish_105 : decode cX8_publish 105 = .ok (.ifnonnull 11, 3) := by decide +kernel
theorem dX8_publish_108 : decode cX8_publish 108 = .ok (.aload_n 0, 1) := by decide +kernel
theorem dX8_publish_109 : decode cX8_publish 109 = .ok (.aload 4, 2) := by decide +kernel
theorem dX8_publish_111 : decode cX8_publish 111 = .ok (.invokevirtual 235, 3) := by decide +kernel
theorem dX8_publish_114 : decode cX8_publish 114 = .ok (.astore 5, 2) := by decide +kernel
theorem dX8_publish_116 : decode cX8_publish 116 = .ok (.aload 5, 2) := by decide +kernel
theorem dX8_publish_118 : decode cX8_publish 118 = .ok (.ifnonnull 5, 3) := by decide +kernel
theorem dX8_publish_121 : decode cX8_publish 121 = .ok (.iconst 0, 1) := by decide +kernel
theorem dX8_publish_122 : decode cX8_publish 122 = .ok (.ireturn, 1) := by decide +kernel
theorem dX8_publish_123 : decode cX8_publish 123 = .ok (.aload_n 0, 1) := by decide +kernel
theorem dX8_publish_124 : decode cX8_publish 124 = .ok (.aload 5, 2) := by decide +kernel
theorem dX8_publish_126 : decode cX8_publish 126 = .ok (.invokevirtual 238, 3) := by decide +kernel
theorem dX8_publish_129 : decode cX8_publish 129 = .ok (.iconst 1, 1) := by decide +kernel
theorem dX8_publish_130 : decode cX8_publish 130 = .ok (.ireturn, 1) := by decide +kernel
theorem dX8_acknowledged_0 : decode cX8_acknowledged 0 = .ok (.aload_n 0, 1) := by decide +kernel
theorem dX8_acknowledged_1 : decode cX8_acknowledged 1 = .ok (.getfield 43, 3) := by decide +kernel
theorem dX8_acknowledged_4 : decode cX8_acknowledged 4 = .ok (.ireturn, 1) := by decide +kernel
theorem dX8_again_0 : decode cX8_again 0 = .ok (.aload_n 0, 1) := by decide +kernel
theorem dX8_again_1 : decode cX8_again 1 = .ok (.iload_n 1, 1) := by decide +kernel
theorem dX8_again_2 : decode cX8_again 2 = .ok (.invokevirtual 112, 3) := by decide +kernel
theorem dX8_again_5 : decode cX8_again 5 = .ok (.astore 4, 2) := by decide +kernel
theorem dX8_again_7 : decode cX8_again 7 = .ok (.aload 4, 2) := by decide +kernel
theorem dX8_again_9 : decode cX8_again 9 = .ok (.ifnonnull 9, 3) := by decide +kernel
theorem dX8_again_12 : decode cX8_again 12 = .ok (.aload_n 0, 1) := by decide +kernel
theorem dX8_again_13 : decode cX8_again 13 = .ok (.iload_n 1, 1) := by decide +kernel
theorem dX8_again_14 : decode cX8_again 14 = .ok (.invokevirtual 105, 3) := by decide +kernel
theorem dX8_again_17 : decode cX8_again 17 = .ok (.ireturn, 1) := by decide +kernel
theorem dX8_again_18 : decode cX8_again 18 = .ok (.aload_n 0, 1) := by decide +kernel
theorem dX8_again_19 : decode cX8_again 19 = .ok (.aload 4, 2) := by decide +kernel
theorem dX8_again_21 : decode cX8_again 21 = .ok (.iload_n 2, 1) := by decide +kernel
theorem dX8_again_22 : decode cX8_again 22 = .ok (.invokevirtual 153, 3) := by decide +kernel
theorem dX8_again_25 : decode cX8_again 25 = .ok (.astore 5, 2) := by decide +kernel
theorem dX8_again_27 : decode cX8_again 27 = .ok (.aload 5, 2) := by decide +kernel
theorem dX8_again_29 : decode cX8_again 29 = .ok (.ifnonnull 10, 3) := by decide +kernel
theorem dX8_again_32 : decode cX8_again 32 = .ok (.aload_n 0, 1) := by decide +kernel
theorem dX8_again_33 : decode cX8_again 33 = .ok (.bipush (-5), 2) := by decide +kernel
theorem dX8_again_35 : decode cX8_again 35 = .ok (.invokevirtual 55, 3) := by decide +kernel
theorem dX8_again_38 : decode cX8_again 38 = .ok (.ireturn, 1) := by decide +kernel
theorem dX8_again_39 : decode cX8_again 39 = .ok (.aload 5, 2) := by decide +kernel
theorem dX8_again_41 : decode cX8_again 41 = .ok (.iload_n 3, 1) := by decide +kernel
theorem dX8_again_42 : decode cX8_again 42 = .ok (.invokevirtual 242, 3) := by decide +kernel
theorem dX8_again_45 : decode cX8_again 45 = .ok (.astore 6, 2) := by decide +kernel
theorem dX8_again_47 : decode cX8_again 47 = .ok (.aload 6, 2) := by decide +kernel
theorem dX8_again_49 : decode cX8_again 49 = .ok (.ifnonnull 10, 3) := by decide +kernel
theorem dX8_again_52 : decode cX8_again 52 = .ok (.aload_n 0, 1) := by decide +kernel
theorem dX8_again_53 : decode cX8_again 53 = .ok (.bipush (-9), 2) := by decide +kernel
theorem dX8_again_55 : decode cX8_again 55 = .ok (.invokevirtual 55, 3) := by decide +kernel
theorem dX8_again_58 : decode cX8_again 58 = .ok (.ireturn, 1) := by decide +kernel
theorem dX8_again_59 : decode cX8_again 59 = .ok (.aload 4, 2) := by decide +kernel
theorem dX8_again_61 : decode cX8_again 61 = .ok (.getfield 246, 3) := by decide +kernel
theorem dX8_again_64 : decode cX8_again 64 = .ok (.invokevirtual 59, 3) := by decide +kernel
theorem dX8_again_67 : decode cX8_again 67 = .ok (.sipush 200, 3) := by decide +kernel
theorem dX8_again_70 : decode cX8_again 70 = .ok (.if_icmp .lt 10, 3) := by decide +kernel
theorem dX8_again_73 : decode cX8_again 73 = .ok (.aload_n 0, 1) := by decide +kernel
theorem dX8_again_74 : decode cX8_again 74 = .ok (.bipush (-8), 2) := by decide +kernel
theorem dX8_again_76 : decode cX8_again 76 = .ok (.invokevirtual 55, 3) := by decide +kernel
theorem dX8_again_79 : decode cX8_again 79 = .ok (.ireturn, 1) := by decide +kernel
theorem dX8_again_80 : decode cX8_again 80 = .ok (.aload 4, 2) := by decide +kernel
theorem dX8_again_82 : decode cX8_again 82 = .ok (.getfield 246, 3) := by decide +kernel
theorem dX8_again_85 : decode cX8_again 85 = .ok (.aload 6, 2) := by decide +kernel
theorem dX8_again_87 : decode cX8_again 87 = .ok (.invokevirtual 66, 3) := by decide +kernel
theorem dX8_again_90 : decode cX8_again 90 = .ok (.pop, 1) := by decide +kernel
theorem dX8_again_91 : decode cX8_again 91 = .ok (.aload 5, 2) := by decide +kernel
theorem dX8_again_93 : decode cX8_again 93 = .ok (.aload 5, 2) := by decide +kernel
theorem dX8_again_95 : decode cX8_again 95 = .ok (.getfield 161, 3) := by decide +kernel
theorem dX8_again_98 : decode cX8_again 98 = .ok (.putfield 164, 3) := by decide +kernel
theorem dX8_again_101 : decode cX8_again 101 = .ok (.aload 6, 2) := by decide +kernel
theorem dX8_again_103 : decode cX8_again 103 = .ok (.getfield 249, 3) := by decide +kernel
theorem dX8_again_106 : decode cX8_again 106 = .ok (.ireturn, 1) := by decide +kernel
theorem dX8_mail_0 : decode cX8_mail 0 = .ok (.aload_n 0, 1) := by decide +kernel
theorem dX8_mail_1 : decode cX8_mail 1 = .ok (.iload_n 1, 1) := by decide +kernel
theorem dX8_mail_2 : decode cX8_mail 2 = .ok (.invokevirtual 98, 3) := by decide +kernel
theorem dX8_mail_5 : decode cX8_mail 5 = .ok (.astore_n 3, 1) := by decide +kernel
theorem dX8_mail_6 : decode cX8_mail 6 = .ok (.aload_n 3, 1) := by decide +kernel
theorem dX8_mail_7 : decode cX8_mail 7 = .ok (.ifnonnull 5, 3) := by decide +kernel
theorem dX8_mail_10 : decode cX8_mail 10 = .ok (.iconst (-1), 1) := by decide +kernel
theorem dX8_mail_11 : decode cX8_mail 11 = .ok (.ireturn, 1) := by decide +kernel
theorem dX8_mail_12 : decode cX8_mail 12 = .ok (.iload_n 2, 1) := by decide +kernel
theorem dX8_mail_13 : decode cX8_mail 13 = .ok (.ifCond .lt 31, 3) := by decide +kernel
theorem dX8_mail_16 : decode cX8_mail 16 = .ok (.iload_n 2, 1) := by decide +kernel
theorem dX8_mail_17 : decode cX8_mail 17 = .ok (.aload_n 3, 1) := by decide +kernel
theorem dX8_mail_18 : decode cX8_mail 18 = .ok (.getfield 246, 3) := by decide +kernel
theorem dX8_mail_21 : decode cX8_mail 21 = .ok (.invokevirtual 59, 3) := by decide +kernel
theorem dX8_mail_24 : decode cX8_mail 24 = .ok (.if_icmp .ge 20, 3) := by decide +kernel
theorem dX8_mail_27 : decode cX8_mail 27 = .ok (.aload_n 3, 1) := by decide +kernel
theorem dX8_mail_28 : decode cX8_mail 28 = .ok (.getfield 246, 3) := by decide +kernel
theorem dX8_mail_31 : decode cX8_mail 31 = .ok (.iload_n 2, 1) := by decide +kernel
theorem dX8_mail_32 : decode cX8_mail 32 = .ok (.invokevirtual 119, 3) := by decide +kernel
theorem dX8_mail_35 : decode cX8_mail 35 = .ok (.checkcast 250, 3) := by decide +kernel
theorem dX8_mail_38 : decode cX8_mail 38 = .ok (.getfield 249, 3) := by decide +kernel
theorem dX8_mail_41 : decode cX8_mail 41 = .ok (.goto 5, 3) := by decide +kernel
theorem dX8_mail_44 : decode cX8_mail 44 = .ok (.bipush (-9), 2) := by decide +kernel
theorem dX8_mail_46 : decode cX8_mail 46 = .ok (.ireturn, 1) := by decide +kernel
theorem dX8_message_0 : decode cX8_message 0 = .ok (.aload_n 0, 1) := by decide +kernel
theorem dX8_message_1 : decode cX8_message 1 = .ok (.iload_n 1, 1) := by decide +kernel
theorem dX8_message_2 : decode cX8_message 2 = .ok (.invokevirtual 254, 3) := by decide +kernel
theorem dX8_message_5 : decode cX8_message 5 = .ok (.astore_n 3, 1) := by decide +kernel
theorem dX8_message_6 : decode cX8_message 6 = .ok (.aload_n 3, 1) := by decide +kernel
theorem dX8_message_7 : decode cX8_message 7 = .ok (.ifnonnull 6, 3) := by decide +kernel
theorem dX8_message_10 : decode cX8_message 10 = .ok (.bipush (-9), 2) := by decide +kernel
theorem dX8_message_12 : decode cX8_message 12 = .ok (.ireturn, 1) := by decide +kernel
theorem dX8_message_13 : decode cX8_message 13 = .ok (.iload_n 2, 1) := by decide +kernel
theorem dX8_message_14 : decode cX8_message 14 = .ok (.tableswitch 75 0 5 #[38, 43, 48, 54, 62, 67], 38) := by decide +kernel
theorem dX8_message_52 : decode cX8_message 52 = .ok (.aload_n 3, 1) := by decide +kernel
theorem dX8_message_53 : decode cX8_message 53 = .ok (.getfield 257, 3) := by decide +kernel
theorem dX8_message_56 : decode cX8_message 56 = .ok (.ireturn, 1) := by decide +kernel
theorem dX8_message_57 : decode cX8_message 57 = .ok (.aload_n 3, 1) := by decide +kernel
theorem dX8_message_58 : decode cX8_message 58 = .ok (.getfield 260, 3) := by decide +kernel
theorem dX8_message_61 : decode cX8_message 61 = .ok (.ireturn, 1) := by decide +kernel
theorem dX8_message_62 : decode cX8_message 62 = .ok (.aload_n 3, 1) := by decide +kernel
theorem dX8_message_63 : decode cX8_message 63 = .ok (.getfield 261, 3) := by decide +kernel
theorem dX8_message_66 : decode cX8_message 66 = .ok (.arraylength, 1) := by decide +kernel
theorem dX8_message_67 : decode cX8_message 67 = .ok (.ireturn, 1) := by decide +kernel
theorem dX8_message_68 : decode cX8_message 68 = .ok (.aload_n 3, 1) := by decide +kernel
theorem dX8_message_69 : decode cX8_message 69 = .ok (.getfield 264, 3) := by decide +kernel
theorem dX8_message_72 : decode cX8_message 72 = .ok (.invokestatic 167, 3) := by decide +kernel
theorem dX8_message_75 : decode cX8_message 75 = .ok (.ireturn, 1) := by decide +kernel
theorem dX8_message_76 : decode cX8_message 76 = .ok (.aload_n 3, 1) := by decide +kernel
theorem dX8_message_77 : decode cX8_message 77 = .ok (.getfield 267, 3) := by decide +kernel
theorem dX8_message_80 : decode cX8_message 80 = .ok (.ireturn, 1) := by decide +kernel
theorem dX8_message_81 : decode cX8_message 81 = .ok (.aload_n 3, 1) := by decide +kernel
theorem dX8_message_82 : decode cX8_message 82 = .ok (.getfield 268, 3) := by decide +kernel
theorem dX8_message_85 : decode cX8_message 85 = .ok (.invokestatic 167, 3) := by decide +kernel
theorem dX8_message_88 : decode cX8_message 88 = .ok (.ireturn, 1) := by decide +kernel
theorem dX8_message_89 : decode cX8_message 89 = .ok (.bipush (-9), 2) := by decide +kernel
theorem dX8_message_91 : decode cX8_message 91 = .ok (.ireturn, 1) := by decide +kernel
theorem dX8_entry_0 : decode cX8_entry 0 = .ok (.aload_n 0, 1) := by decide +kernel
theorem dX8_entry_1 : decode cX8_entry 1 = .ok (.iload_n 1, 1) := by decide +kernel
theorem dX8_entry_2 : decode cX8_entry 2 = .ok (.invokevirtual 254, 3) := by decide +kernel
theorem dX8_entry_5 : decode cX8_entry 5 = .ok (.astore 4, 2) := by decide +kernel
theorem dX8_entry_7 : decode cX8_entry 7 = .ok (.aload 4, 2) := by decide +kernel
theorem dX8_entry_9 : decode cX8_entry 9 = .ok (.ifnull 17, 3) := by decide +kernel
theorem dX8_entry_12 : decode cX8_entry 12 = .ok (.iload_n 2, 1) := by decide +kernel
theorem dX8_entry_13 : decode cX8_entry 13 = .ok (.ifCond .lt 13, 3) := by decide +kernel
theorem dX8_entry_16 : decode cX8_entry 16 = .ok (.iload_n 2, 1) := by decide +kernel
theorem dX8_entry_17 : decode cX8_entry 17 = .ok (.aload 4, 2) := by decide +kernel
theorem dX8_entry_19 : decode cX8_entry 19 = .ok (.getfield 261, 3) := by decide +kernel
theorem dX8_entry_22 : decode cX8_entry 22 = .ok (.arraylength, 1) := by decide +kernel
theorem dX8_entry_23 : decode cX8_entry 23 = .ok (.if_icmp .lt 7, 3) := by decide +kernel
theorem dX8_entry_26 : decode cX8_entry 26 = .ok (.ldc2_w 271, 3) := by decide +kernel
theorem dX8_entry_29 : decode cX8_entry 29 = .ok (.lreturn, 1) := by decide +kernel
theorem dX8_entry_30 : decode cX8_entry 30 = .ok (.aload 4, 2) := by decide +kernel
theorem dX8_entry_32 : decode cX8_entry 32 = .ok (.getfield 261, 3) := by decide +kernel
theorem dX8_entry_35 : decode cX8_entry 35 = .ok (.iload_n 2, 1) := by decide +kernel
theorem dX8_entry_36 : decode cX8_entry 36 = .ok (.aaload, 1) := by decide +kernel
theorem dX8_entry_37 : decode cX8_entry 37 = .ok (.astore 5, 2) := by decide +kernel
theorem dX8_entry_39 : decode cX8_entry 39 = .ok (.aload 5, 2) := by decide +kernel
theorem dX8_entry_41 : decode cX8_entry 41 = .ok (.ifnonnull 7, 3) := by decide +kernel
theorem dX8_entry_44 : decode cX8_entry 44 = .ok (.ldc2_w 271, 3) := by decide +kernel
theorem dX8_entry_47 : decode cX8_entry 47 = .ok (.lreturn, 1) := by decide +kernel
theorem dX8_entry_48 : decode cX8_entry 48 = .ok (.iload_n 3, 1) := by decide +kernel
theorem dX8_entry_49 : decode cX8_entry 49 = .ok (.tableswitch 61 0 3 #[31, 37, 44, 51], 31) := by decide +kernel
theorem dX8_entry_80 : decode cX8_entry 80 = .ok (.aload 5, 2) := by decide +kernel
theorem dX8_entry_82 : decode cX8_entry 82 = .ok (.getfield 273, 3) := by decide +kernel
theorem dX8_entry_85 : decode cX8_entry 85 = .ok (.lreturn, 1) := by decide +kernel
theorem dX8_entry_86 : decode cX8_entry 86 = .ok (.aload 5, 2) := by decide +kernel
theorem dX8_entry_88 : decode cX8_entry 88 = .ok (.getfield 276, 3) := by decide +kernel
theorem dX8_entry_91 : decode cX8_entry 91 = .ok (.i2l, 1) := by decide +kernel
theorem dX8_entry_92 : decode cX8_entry 92 = .ok (.lreturn, 1) := by decide +kernel
theorem dX8_entry_93 : decode cX8_entry 93 = .ok (.aload 5, 2) := by decide +kernel
theorem dX8_entry_95 : decode cX8_entry 95 = .ok (.getfield 279, 3) := by decide +kernel
theorem dX8_entry_98 : decode cX8_entry 98 = .ok (.i2l, 1) := by decide +kernel
theorem dX8_entry_99 : decode cX8_entry 99 = .ok (.lreturn, 1) := by decide +kernel
theorem dX8_entry_100 : decode cX8_entry 100 = .ok (.aload 5, 2) := by decide +kernel
theorem dX8_entry_102 : decode cX8_entry 102 = .ok (.getfield 280, 3) := by decide +kernel
theorem dX8_entry_105 : decode cX8_entry 105 = .ok (.invokestatic 167, 3) := by decide +kernel
theorem dX8_entry_108 : decode cX8_entry 108 = .ok (.i2l, 1) := by decide +kernel
theorem dX8_entry_109 : decode cX8_entry 109 = .ok (.lreturn, 1) := by decide +kernel
theorem dX8_entry_110 : decode cX8_entry 110 = .ok (.ldc2_w 271, 3) := by decide +kernel
theorem dX8_entry_113 : decode cX8_entry 113 = .ok (.lreturn, 1) := by decide +kernel
theorem dX8_sessionOf_0 : decode cX8_sessionOf 0 = .ok (.aload_n 0, 1) := by decide +kernel
theorem dX8_sessionOf_1 : decode cX8_sessionOf 1 = .ok (.iload_n 1, 1) := by decide +kernel
theorem dX8_sessionOf_2 : decode cX8_sessionOf 2 = .ok (.invokevirtual 98, 3) := by decide +kernel
theorem dX8_sessionOf_5 : decode cX8_sessionOf 5 = .ok (.astore_n 3, 1) := by decide +kernel
theorem dX8_sessionOf_6 : decode cX8_sessionOf 6 = .ok (.aload_n 3, 1) := by decide +kernel
theorem dX8_sessionOf_7 : decode cX8_sessionOf 7 = .ok (.ifnonnull 6, 3) := by decide +kernel
theorem dX8_sessionOf_10 : decode cX8_sessionOf 10 = .ok (.bipush (-9), 2) := by decide +kernel
theorem dX8_sessionOf_12 : decode cX8_sessionOf 12 = .ok (.ireturn, 1) := by decide +kernel
theorem dX8_sessionOf_13 : decode cX8_sessionOf 13 = .ok (.iload_n 2, 1) := by decide +kernel
theorem dX8_sessionOf_14 : decode cX8_sessionOf 14 = .ok (.tableswitch 68 0 4 #[34, 39, 49, 54, 60], 34) := by decide +kernel
theorem dX8_sessionOf_48 : decode cX8_sessionOf 48 = .ok (.aload_n 3, 1) := by decide +kernel
theorem dX8_sessionOf_49 : decode cX8_sessionOf 49 = .ok (.getfield 102, 3) := by decide +kernel
theorem dX8_sessionOf_52 : decode cX8_sessionOf 52 = .ok (.ireturn, 1) := by decide +kernel
theorem dX8_sessionOf_53 : decode cX8_sessionOf 53 = .ok (.aload_n 3, 1) := by decide +kernel
theorem dX8_sessionOf_54 : decode cX8_sessionOf 54 = .ok (.getfield 283, 3) := by decide +kernel
theorem dX8_sessionOf_57 : decode cX8_sessionOf 57 = .ok (.aload_n 0, 1) := by decide +kernel
theorem dX8_sessionOf_58 : decode cX8_sessionOf 58 = .ok (.getfield 35, 3) := by decide +kernel
theorem dX8_sessionOf_61 : decode cX8_sessionOf 61 = .ok (.isub, 1) := by decide +kernel
theorem dX8_sessionOf_62 : decode cX8_sessionOf 62 = .ok (.ireturn, 1) := by decide +kernel
theorem dX8_sessionOf_63 : decode cX8_sessionOf 63 = .ok (.aload_n 3, 1) := by decide +kernel
theorem dX8_sessionOf_64 : decode cX8_sessionOf 64 = .ok (.getfield 224, 3) := by decide +kernel
theorem dX8_sessionOf_67 : decode cX8_sessionOf 67 = .ok (.ireturn, 1) := by decide +kernel
theorem dX8_sessionOf_68 : decode cX8_sessionOf 68 = .ok (.aload_n 0, 1) := by decide +kernel
theorem dX8_sessionOf_69 : decode cX8_sessionOf 69 = .ok (.aload_n 3, 1) := by decide +kernel
theorem dX8_sessionOf_70 : decode cX8_sessionOf 70 = .ok (.invokevirtual 221, 3) := by decide +kernel
theorem dX8_sessionOf_73 : decode cX8_sessionOf 73 = .ok (.ireturn, 1) := by decide +kernel
theorem dX8_sessionOf_74 : decode cX8_sessionOf 74 = .ok (.aload_n 3, 1) := by decide +kernel
theorem dX8_sessionOf_75 : decode cX8_sessionOf 75 = .ok (.getfield 246, 3) := by decide +kernel
theorem dX8_sessionOf_78 : decode cX8_sessionOf 78 = .ok (.invokevirtual 59, 3) := by decide +kernel
theorem dX8_sessionOf_81 : decode cX8_sessionOf 81 = .ok (.ireturn, 1) := by decide +kernel
theorem dX8_sessionOf_82 : decode cX8_sessionOf 82 = .ok (.bipush (-9), 2) := by decide +kernel
theorem dX8_sessionOf_84 : decode cX8_sessionOf 84 = .ok (.ireturn, 1) := by decide +kernel
theorem dX8_subscription_0 : decode cX8_subscription 0 = .ok (.aload_n 0, 1) := by decide +kernel
theorem dX8_subscription_1 : decode cX8_subscription 1 = .ok (.iload_n 1, 1) := by decide +kernel
theorem dX8_subscription_2 : decode cX8_subscription 2 = .ok (.invokevirtual 171, 3) := by decide +kernel
theorem dX8_subscription_5 : decode cX8_subscription 5 = .ok (.astore_n 3, 1) := by decide +kernel
theorem dX8_subscription_6 : decode cX8_subscription 6 = .ok (.aload_n 3, 1) := by decide +kernel
theorem dX8_subscription_7 : decode cX8_subscription 7 = .ok (.ifnonnull 6, 3) := by decide +kernel
theorem dX8_subscription_10 : decode cX8_subscription 10 = .ok (.bipush (-9), 2) := by decide +kernel
theorem dX8_subscription_12 : decode cX8_subscription 12 = .ok (.ireturn, 1) := by decide +kernel
theorem dX8_subscription_13 : decode cX8_subscription 13 = .ok (.iload_n 2, 1) := by decide +kernel
theorem dX8_subscription_14 : decode cX8_subscription 14 = .ok (.tableswitch 113 0 8 #[50, 58, 66, 71, 76, 81, 89, 97, 105], 50) := by decide +kernel
theorem dX8_subscription_64 : decode cX8_subscription 64 = .ok (.aload_n 3, 1) := by decide +kernel
theorem dX8_subscription_65 : decode cX8_subscription 65 = .ok (.getfield 175, 3) := by decide +kernel
theorem dX8_subscription_68 : decode cX8_subscription 68 = .ok (.getfield 285, 3) := by decide +kernel
theorem dX8_subscription_71 : decode cX8_subscription 71 = .ok (.ireturn, 1) := by decide +kernel
theorem dX8_subscription_72 : decode cX8_subscription 72 = .ok (.aload_n 3, 1) := by decide +kernel
theorem dX8_subscription_73 : decode cX8_subscription 73 = .ok (.getfield 157, 3) := by decide +kernel
theorem dX8_subscription_76 : decode cX8_subscription 76 = .ok (.invokestatic 167, 3) := by decide +kernel
theorem dX8_subscription_79 : decode cX8_subscription 79 = .ok (.ireturn, 1) := by decide +kernel
theorem dX8_subscription_80 : decode cX8_subscription 80 = .ok (.aload_n 3, 1) := by decide +kernel
theorem dX8_subscription_81 : decode cX8_subscription 81 = .ok (.getfield 286, 3) := by decide +kernel
theorem dX8_subscription_84 : decode cX8_subscription 84 = .ok (.ireturn, 1) := by decide +kernel
theorem dX8_subscription_85 : decode cX8_subscription 85 = .ok (.aload_n 3, 1) := by decide +kernel
theorem dX8_subscription_86 : decode cX8_subscription 86 = .ok (.getfield 289, 3) := by decide +kernel
theorem dX8_subscription_89 : decode cX8_subscription 89 = .ok (.ireturn, 1) := by decide +kernel
theorem dX8_subscription_90 : decode cX8_subscription 90 = .ok (.aload_n 3, 1) := by decide +kernel
theorem dX8_subscription_91 : decode cX8_subscription 91 = .ok (.getfield 164, 3) := by decide +kernel
theorem dX8_subscription_94 : decode cX8_subscription 94 = .ok (.ireturn, 1) := by decide +kernel
theorem dX8_subscription_95 : decode cX8_subscription 95 = .ok (.aload_n 3, 1) := by decide +kernel
theorem dX8_subscription_96 : decode cX8_subscription 96 = .ok (.getfield 292, 3) := by decide +kernel
theorem dX8_subscription_99 : decode cX8_subscription 99 = .ok (.invokestatic 167, 3) := by decide +kernel
theorem dX8_subscription_102 : decode cX8_subscription 102 = .ok (.ireturn, 1) := by decide +kernel
theorem dX8_subscription_103 : decode cX8_subscription 103 = .ok (.aload_n 3, 1) := by decide +kernel
theorem dX8_subscription_104 : decode cX8_subscription 104 = .ok (.getfield 195, 3) := by decide +kernel
theorem dX8_subscription_107 : decode cX8_subscription 107 = .ok (.invokevirtual 59, 3) := by decide +kernel
theorem dX8_subscription_110 : decode cX8_subscription 110 = .ok (.ireturn, 1) := by decide +kernel
theorem dX8_subscription_111 : decode cX8_subscription 111 = .ok (.aload_n 3, 1) := by decide +kernel
theorem dX8_subscription_112 : decode cX8_subscription 112 = .ok (.getfield 295, 3) := by decide +kernel
theorem dX8_subscription_115 : decode cX8_subscription 115 = .ok (.invokevirtual 59, 3) := by decide +kernel
theorem dX8_subscription_118 : decode cX8_subscription 118 = .ok (.ireturn, 1) := by decide +kernel
theorem dX8_subscription_119 : decode cX8_subscription 119 = .ok (.aload_n 3, 1) := by decide +kernel
theorem dX8_subscription_120 : decode cX8_subscription 120 = .ok (.invokevirtual 297, 3) := by decide +kernel
theorem dX8_subscription_123 : decode cX8_subscription 123 = .ok (.invokestatic 167, 3) := by decide +kernel
theorem dX8_subscription_126 : decode cX8_subscription 126 = .ok (.ireturn, 1) := by decide +kernel
theorem dX8_subscription_127 : decode cX8_subscription 127 = .ok (.bipush (-9), 2) := by decide +kernel
theorem dX8_subscription_129 : decode cX8_subscription 129 = .ok (.ireturn, 1) := by decide +kernel
theorem dX8_itemOf_0 : decode cX8_itemOf 0 = .ok (.aload_n 0, 1) := by decide +kernel
theorem dX8_itemOf_1 : decode cX8_itemOf 1 = .ok (.iload_n 1, 1) := by decide +kernel
theorem dX8_itemOf_2 : decode cX8_itemOf 2 = .ok (.invokevirtual 301, 3) := by decide +kernel
theorem dX8_itemOf_5 : decode cX8_itemOf 5 = .ok (.astore_n 3, 1) := by decide +kernel
theorem dX8_itemOf_6 : decode cX8_itemOf 6 = .ok (.aload_n 3, 1) := by decide +kernel
theorem dX8_itemOf_7 : decode cX8_itemOf 7 = .ok (.ifnonnull 6, 3) := by decide +kernel
theorem dX8_itemOf_10 : decode cX8_itemOf 10 = .ok (.bipush (-9), 2) := by decide +kernel
theorem dX8_itemOf_12 : decode cX8_itemOf 12 = .ok (.ireturn, 1) := by decide +kernel
theorem dX8_itemOf_13 : decode cX8_itemOf 13 = .ok (.iload_n 2, 1) := by decide +kernel
theorem dX8_itemOf_14 : decode cX8_itemOf 14 = .ok (.tableswitch 77 0 4 #[34, 42, 50, 55, 66], 34) := by decide +kernel
theorem dX8_itemOf_48 : decode cX8_itemOf 48 = .ok (.aload_n 3, 1) := by decide +kernel
theorem dX8_itemOf_49 : decode cX8_itemOf 49 = .ok (.getfield 207, 3) := by decide +kernel
theorem dX8_itemOf_52 : decode cX8_itemOf 52 = .ok (.getfield 150, 3) := by decide +kernel
theorem dX8_itemOf_55 : decode cX8_itemOf 55 = .ok (.ireturn, 1) := by decide +kernel
end
section
theorem dX8_itemOf_56 : decode cX8_itemOf 56 = .ok (.aload_n 3, 1) := by decide +kernel
theorem dX8_itemOf_57 : decode cX8_itemOf 57 = .ok (.getfield 305, 3) := by decide +kernel
theorem dX8_itemOf_60 : decode cX8_itemOf 60 = .ok (.getfield 309, 3) := by decide +kernel
theorem dX8_itemOf_63 : decode cX8_itemOf 63 = .ok (.ireturn, 1) := by decide +kernel
theorem dX8_itemOf_64 : decode cX8_itemOf 64 = .ok (.aload_n 3, 1) := by decide +kernel
theorem dX8_itemOf_65 : decode cX8_itemOf 65 = .ok (.getfield 204, 3) := by decide +kernel
theorem dX8_itemOf_68 : decode cX8_itemOf 68 = .ok (.ireturn, 1) := by decide +kernel
theorem dX8_itemOf_69 : decode cX8_itemOf 69 = .ok (.aload_n 3, 1) := by decide +kernel
theorem dX8_itemOf_70 : decode cX8_itemOf 70 = .ok (.getfield 210, 3) := by decide +kernel
theorem dX8_itemOf_73 : decode cX8_itemOf 73 = .ok (.getfield 214, 3) := by decide +kernel
theorem dX8_itemOf_76 : decode cX8_itemOf 76 = .ok (.invokevirtual 59, 3) := by decide +kernel
theorem dX8_itemOf_79 : decode cX8_itemOf 79 = .ok (.ireturn, 1) := by decide +kernel
theorem dX8_itemOf_80 : decode cX8_itemOf 80 = .ok (.aload_n 3, 1) := by decide +kernel
theorem dX8_itemOf_81 : decode cX8_itemOf 81 = .ok (.getfield 210, 3) := by decide +kernel
theorem dX8_itemOf_84 : decode cX8_itemOf 84 = .ok (.invokevirtual 310, 3) := by decide +kernel
theorem dX8_itemOf_87 : decode cX8_itemOf 87 = .ok (.invokestatic 167, 3) := by decide +kernel
theorem dX8_itemOf_90 : decode cX8_itemOf 90 = .ok (.ireturn, 1) := by decide +kernel
theorem dX8_itemOf_91 : decode cX8_itemOf 91 = .ok (.bipush (-9), 2) := by decide +kernel
theorem dX8_itemOf_93 : decode cX8_itemOf 93 = .ok (.ireturn, 1) := by decide +kernel
theorem dX8_status_0 : decode cX8_status 0 = .ok (.iload_n 1, 1) := by decide +kernel
theorem dX8_status_1 : decode cX8_status 1 = .ok (.bipush 10, 2) := by decide +kernel
theorem dX8_status_3 : decode cX8_status 3 = .ok (.isub, 1) := by decide +kernel
theorem dX8_status_4 : decode cX8_status 4 = .ok (.istore_n 2, 1) := by decide +kernel
theorem dX8_status_5 : decode cX8_status 5 = .ok (.iload_n 2, 1) := by decide +kernel
theorem dX8_status_6 : decode cX8_status 6 = .ok (.iconst 1, 1) := by decide +kernel
theorem dX8_status_7 : decode cX8_status 7 = .ok (.bipush 9, 2) := by decide +kernel
theorem dX8_status_9 : decode cX8_status 9 = .ok (.invokestatic 51, 3) := by decide +kernel
theorem dX8_status_12 : decode cX8_status 12 = .ok (.ifCond .eq 10, 3) := by decide +kernel
theorem dX8_status_15 : decode cX8_status 15 = .ok (.aload_n 0, 1) := by decide +kernel
theorem dX8_status_16 : decode cX8_status 16 = .ok (.getfield 31, 3) := by decide +kernel
theorem dX8_status_19 : decode cX8_status 19 = .ok (.iload_n 2, 1) := by decide +kernel
theorem dX8_status_20 : decode cX8_status 20 = .ok (.iaload, 1) := by decide +kernel
theorem dX8_status_21 : decode cX8_status 21 = .ok (.ireturn, 1) := by decide +kernel
theorem dX8_status_22 : decode cX8_status 22 = .ok (.iload_n 1, 1) := by decide +kernel
theorem dX8_status_23 : decode cX8_status 23 = .ok (.tableswitch 86 0 6 #[41, 46, 54, 62, 67, 73, 78], 41) := by decide +kernel
theorem dX8_status_64 : decode cX8_status 64 = .ok (.aload_n 0, 1) := by decide +kernel
theorem dX8_status_65 : decode cX8_status 65 = .ok (.getfield 35, 3) := by decide +kernel
theorem dX8_status_68 : decode cX8_status 68 = .ok (.ireturn, 1) := by decide +kernel
theorem dX8_status_69 : decode cX8_status 69 = .ok (.aload_n 0, 1) := by decide +kernel
theorem dX8_status_70 : decode cX8_status 70 = .ok (.getfield 10, 3) := by decide +kernel
theorem dX8_status_73 : decode cX8_status 73 = .ok (.invokevirtual 59, 3) := by decide +kernel
theorem dX8_status_76 : decode cX8_status 76 = .ok (.ireturn, 1) := by decide +kernel
theorem dX8_status_77 : decode cX8_status 77 = .ok (.aload_n 0, 1) := by decide +kernel
theorem dX8_status_78 : decode cX8_status 78 = .ok (.getfield 16, 3) := by decide +kernel
theorem dX8_status_81 : decode cX8_status 81 = .ok (.invokevirtual 59, 3) := by decide +kernel
theorem dX8_status_84 : decode cX8_status 84 = .ok (.ireturn, 1) := by decide +kernel
theorem dX8_status_85 : decode cX8_status 85 = .ok (.aload_n 0, 1) := by decide +kernel
theorem dX8_status_86 : decode cX8_status 86 = .ok (.invokevirtual 313, 3) := by decide +kernel
theorem dX8_status_89 : decode cX8_status 89 = .ok (.ireturn, 1) := by decide +kernel
theorem dX8_status_90 : decode cX8_status 90 = .ok (.aload_n 0, 1) := by decide +kernel
theorem dX8_status_91 : decode cX8_status 91 = .ok (.aconst_null, 1) := by decide +kernel
theorem dX8_status_92 : decode cX8_status 92 = .ok (.invokevirtual 221, 3) := by decide +kernel
theorem dX8_status_95 : decode cX8_status 95 = .ok (.ireturn, 1) := by decide +kernel
theorem dX8_status_96 : decode cX8_status 96 = .ok (.aload_n 0, 1) := by decide +kernel
theorem dX8_status_97 : decode cX8_status 97 = .ok (.invokevirtual 316, 3) := by decide +kernel
theorem dX8_status_100 : decode cX8_status 100 = .ok (.ireturn, 1) := by decide +kernel
theorem dX8_status_101 : decode cX8_status 101 = .ok (.aload_n 0, 1) := by decide +kernel
theorem dX8_status_102 : decode cX8_status 102 = .ok (.getfield 28, 3) := by decide +kernel
theorem dX8_status_105 : decode cX8_status 105 = .ok (.invokevirtual 59, 3) := by decide +kernel
theorem dX8_status_108 : decode cX8_status 108 = .ok (.ireturn, 1) := by decide +kernel
theorem dX8_status_109 : decode cX8_status 109 = .ok (.bipush (-9), 2) := by decide +kernel
theorem dX8_status_111 : decode cX8_status 111 = .ok (.ireturn, 1) := by decide +kernel
theorem dX8_isWithin_0 : decode cX8_isWithin 0 = .ok (.iload_n 0, 1) := by decide +kernel
theorem dX8_isWithin_1 : decode cX8_isWithin 1 = .ok (.iload_n 1, 1) := by decide +kernel
theorem dX8_isWithin_2 : decode cX8_isWithin 2 = .ok (.if_icmp .lt 12, 3) := by decide +kernel
theorem dX8_isWithin_5 : decode cX8_isWithin 5 = .ok (.iload_n 0, 1) := by decide +kernel
theorem dX8_isWithin_6 : decode cX8_isWithin 6 = .ok (.iload_n 2, 1) := by decide +kernel
theorem dX8_isWithin_7 : decode cX8_isWithin 7 = .ok (.if_icmp .gt 7, 3) := by decide +kernel
theorem dX8_isWithin_10 : decode cX8_isWithin 10 = .ok (.iconst 1, 1) := by decide +kernel
theorem dX8_isWithin_11 : decode cX8_isWithin 11 = .ok (.goto 4, 3) := by decide +kernel
theorem dX8_isWithin_14 : decode cX8_isWithin 14 = .ok (.iconst 0, 1) := by decide +kernel
theorem dX8_isWithin_15 : decode cX8_isWithin 15 = .ok (.ireturn, 1) := by decide +kernel
theorem dX8_isMultiple_0 : decode cX8_isMultiple 0 = .ok (.iload_n 1, 1) := by decide +kernel
theorem dX8_isMultiple_1 : decode cX8_isMultiple 1 = .ok (.ifCond .le 13, 3) := by decide +kernel
theorem dX8_isMultiple_4 : decode cX8_isMultiple 4 = .ok (.iload_n 0, 1) := by decide +kernel
theorem dX8_isMultiple_5 : decode cX8_isMultiple 5 = .ok (.iload_n 1, 1) := by decide +kernel
theorem dX8_isMultiple_6 : decode cX8_isMultiple 6 = .ok (.irem, 1) := by decide +kernel
theorem dX8_isMultiple_7 : decode cX8_isMultiple 7 = .ok (.ifCond .ne 7, 3) := by decide +kernel
theorem dX8_isMultiple_10 : decode cX8_isMultiple 10 = .ok (.iconst 1, 1) := by decide +kernel
theorem dX8_isMultiple_11 : decode cX8_isMultiple 11 = .ok (.goto 4, 3) := by decide +kernel
theorem dX8_isMultiple_14 : decode cX8_isMultiple 14 = .ok (.iconst 0, 1) := by decide +kernel
theorem dX8_isMultiple_15 : decode cX8_isMultiple 15 = .ok (.ireturn, 1) := by decide +kernel
theorem dX8_asNumber_0 : decode cX8_asNumber 0 = .ok (.iload_n 0, 1) := by decide +kernel
theorem dX8_asNumber_1 : decode cX8_asNumber 1 = .ok (.ifCond .eq 7, 3) := by decide +kernel
theorem dX8_asNumber_4 : decode cX8_asNumber 4 = .ok (.iconst 1, 1) := by decide +kernel
theorem dX8_asNumber_5 : decode cX8_asNumber 5 = .ok (.goto 4, 3) := by decide +kernel
theorem dX8_asNumber_8 : decode cX8_asNumber 8 = .ok (.iconst 0, 1) := by decide +kernel
theorem dX8_asNumber_9 : decode cX8_asNumber 9 = .ok (.ireturn, 1) := by decide +kernel
theorem dX8_refuse_0 : decode cX8_refuse 0 = .ok (.iload_n 1, 1) := by decide +kernel
theorem dX8_refuse_1 : decode cX8_refuse 1 = .ok (.ineg, 1) := by decide +kernel
theorem dX8_refuse_2 : decode cX8_refuse 2 = .ok (.istore_n 2, 1) := by decide +kernel
theorem dX8_refuse_3 : decode cX8_refuse 3 = .ok (.iload_n 2, 1) := by decide +kernel
theorem dX8_refuse_4 : decode cX8_refuse 4 = .ok (.iconst 1, 1) := by decide +kernel
theorem dX8_refuse_5 : decode cX8_refuse 5 = .ok (.bipush 9, 2) := by decide +kernel
theorem dX8_refuse_7 : decode cX8_refuse 7 = .ok (.invokestatic 51, 3) := by decide +kernel
theorem dX8_refuse_10 : decode cX8_refuse 10 = .ok (.ifCond .eq 13, 3) := by decide +kernel
theorem dX8_refuse_13 : decode cX8_refuse 13 = .ok (.aload_n 0, 1) := by decide +kernel
theorem dX8_refuse_14 : decode cX8_refuse 14 = .ok (.getfield 31, 3) := by decide +kernel
theorem dX8_refuse_17 : decode cX8_refuse 17 = .ok (.iload_n 2, 1) := by decide +kernel
theorem dX8_refuse_18 : decode cX8_refuse 18 = .ok (.dup2, 1) := by decide +kernel
theorem dX8_refuse_19 : decode cX8_refuse 19 = .ok (.iaload, 1) := by decide +kernel
theorem dX8_refuse_20 : decode cX8_refuse 20 = .ok (.iconst 1, 1) := by decide +kernel
theorem dX8_refuse_21 : decode cX8_refuse 21 = .ok (.iadd, 1) := by decide +kernel
theorem dX8_refuse_22 : decode cX8_refuse 22 = .ok (.iastore, 1) := by decide +kernel
theorem dX8_refuse_23 : decode cX8_refuse 23 = .ok (.iload_n 1, 1) := by decide +kernel
theorem dX8_refuse_24 : decode cX8_refuse 24 = .ok (.ireturn, 1) := by decide +kernel
theorem dX8_refuseSession_0 : decode cX8_refuseSession 0 = .ok (.aload_n 0, 1) := by decide +kernel
theorem dX8_refuseSession_1 : decode cX8_refuseSession 1 = .ok (.iload_n 1, 1) := by decide +kernel
theorem dX8_refuseSession_2 : decode cX8_refuseSession 2 = .ok (.invokevirtual 98, 3) := by decide +kernel
theorem dX8_refuseSession_5 : decode cX8_refuseSession 5 = .ok (.astore_n 2, 1) := by decide +kernel
theorem dX8_refuseSession_6 : decode cX8_refuseSession 6 = .ok (.aload_n 2, 1) := by decide +kernel
theorem dX8_refuseSession_7 : decode cX8_refuseSession 7 = .ok (.ifnonnull 9, 3) := by decide +kernel
theorem dX8_refuseSession_10 : decode cX8_refuseSession 10 = .ok (.aload_n 0, 1) := by decide +kernel
theorem dX8_refuseSession_11 : decode cX8_refuseSession 11 = .ok (.iconst (-1), 1) := by decide +kernel
theorem dX8_refuseSession_12 : decode cX8_refuseSession 12 = .ok (.invokevirtual 55, 3) := by decide +kernel
theorem dX8_refuseSession_15 : decode cX8_refuseSession 15 = .ok (.ireturn, 1) := by decide +kernel
theorem dX8_refuseSession_16 : decode cX8_refuseSession 16 = .ok (.aload_n 0, 1) := by decide +kernel
theorem dX8_refuseSession_17 : decode cX8_refuseSession 17 = .ok (.aload_n 2, 1) := by decide +kernel
theorem dX8_refuseSession_18 : decode cX8_refuseSession 18 = .ok (.getfield 102, 3) := by decide +kernel
theorem dX8_refuseSession_21 : decode cX8_refuseSession 21 = .ok (.iconst 2, 1) := by decide +kernel
theorem dX8_refuseSession_22 : decode cX8_refuseSession 22 = .ok (.if_icmp .ne 8, 3) := by decide +kernel
theorem dX8_refuseSession_25 : decode cX8_refuseSession 25 = .ok (.bipush (-2), 2) := by decide +kernel
theorem dX8_refuseSession_27 : decode cX8_refuseSession 27 = .ok (.goto 5, 3) := by decide +kernel
theorem dX8_refuseSession_30 : decode cX8_refuseSession 30 = .ok (.bipush (-3), 2) := by decide +kernel
theorem dX8_refuseSession_32 : decode cX8_refuseSession 32 = .ok (.invokevirtual 55, 3) := by decide +kernel
theorem dX8_refuseSession_35 : decode cX8_refuseSession 35 = .ok (.ireturn, 1) := by decide +kernel
theorem dX8_enter_0 : decode cX8_enter 0 = .ok (.aload_n 0, 1) := by decide +kernel
theorem dX8_enter_1 : decode cX8_enter 1 = .ok (.iload_n 1, 1) := by decide +kernel
theorem dX8_enter_2 : decode cX8_enter 2 = .ok (.invokevirtual 98, 3) := by decide +kernel
theorem dX8_enter_5 : decode cX8_enter 5 = .ok (.astore_n 2, 1) := by decide +kernel
theorem dX8_enter_6 : decode cX8_enter 6 = .ok (.aload_n 2, 1) := by decide +kernel
theorem dX8_enter_7 : decode cX8_enter 7 = .ok (.ifnull 11, 3) := by decide +kernel
theorem dX8_enter_10 : decode cX8_enter 10 = .ok (.aload_n 2, 1) := by decide +kernel
theorem dX8_enter_11 : decode cX8_enter 11 = .ok (.getfield 102, 3) := by decide +kernel
theorem dX8_enter_14 : decode cX8_enter 14 = .ok (.iconst 1, 1) := by decide +kernel
theorem dX8_enter_15 : decode cX8_enter 15 = .ok (.if_icmp .eq 5, 3) := by decide +kernel
theorem dX8_enter_18 : decode cX8_enter 18 = .ok (.aconst_null, 1) := by decide +kernel
theorem dX8_enter_19 : decode cX8_enter 19 = .ok (.areturn, 1) := by decide +kernel
theorem dX8_enter_20 : decode cX8_enter 20 = .ok (.aload_n 2, 1) := by decide +kernel
theorem dX8_enter_21 : decode cX8_enter 21 = .ok (.aload_n 0, 1) := by decide +kernel
theorem dX8_enter_22 : decode cX8_enter 22 = .ok (.getfield 35, 3) := by decide +kernel
theorem dX8_enter_25 : decode cX8_enter 25 = .ok (.invokevirtual 108, 3) := by decide +kernel
theorem dX8_enter_28 : decode cX8_enter 28 = .ok (.aload_n 2, 1) := by decide +kernel
theorem dX8_enter_29 : decode cX8_enter 29 = .ok (.areturn, 1) := by decide +kernel
theorem dX8_nodeAt_0 : decode cX8_nodeAt 0 = .ok (.iload_n 1, 1) := by decide +kernel
theorem dX8_nodeAt_1 : decode cX8_nodeAt 1 = .ok (.ifCond .lt 28, 3) := by decide +kernel
theorem dX8_nodeAt_4 : decode cX8_nodeAt 4 = .ok (.iload_n 1, 1) := by decide +kernel
theorem dX8_nodeAt_5 : decode cX8_nodeAt 5 = .ok (.aload_n 0, 1) := by decide +kernel
theorem dX8_nodeAt_6 : decode cX8_nodeAt 6 = .ok (.getfield 10, 3) := by decide +kernel
theorem dX8_nodeAt_9 : decode cX8_nodeAt 9 = .ok (.invokevirtual 59, 3) := by decide +kernel
theorem dX8_nodeAt_12 : decode cX8_nodeAt 12 = .ok (.if_icmp .ge 17, 3) := by decide +kernel
theorem dX8_nodeAt_15 : decode cX8_nodeAt 15 = .ok (.aload_n 0, 1) := by decide +kernel
theorem dX8_nodeAt_16 : decode cX8_nodeAt 16 = .ok (.getfield 10, 3) := by decide +kernel
theorem dX8_nodeAt_19 : decode cX8_nodeAt 19 = .ok (.iload_n 1, 1) := by decide +kernel
theorem dX8_nodeAt_20 : decode cX8_nodeAt 20 = .ok (.invokevirtual 119, 3) := by decide +kernel
theorem dX8_nodeAt_23 : decode cX8_nodeAt 23 = .ok (.checkcast 49, 3) := by decide +kernel
theorem dX8_nodeAt_26 : decode cX8_nodeAt 26 = .ok (.goto 4, 3) := by decide +kernel
theorem dX8_nodeAt_29 : decode cX8_nodeAt 29 = .ok (.aconst_null, 1) := by decide +kernel
theorem dX8_nodeAt_30 : decode cX8_nodeAt 30 = .ok (.areturn, 1) := by decide +kernel
theorem dX8_variableAt_0 : decode cX8_variableAt 0 = .ok (.aload_n 0, 1) := by decide +kernel
theorem dX8_variableAt_1 : decode cX8_variableAt 1 = .ok (.iload_n 1, 1) := by decide +kernel
theorem dX8_variableAt_2 : decode cX8_variableAt 2 = .ok (.invokevirtual 70, 3) := by decide +kernel
theorem dX8_variableAt_5 : decode cX8_variableAt 5 = .ok (.astore_n 2, 1) := by decide +kernel
theorem dX8_variableAt_6 : decode cX8_variableAt 6 = .ok (.aload_n 2, 1) := by decide +kernel
theorem dX8_variableAt_7 : decode cX8_variableAt 7 = .ok (.ifnull 10, 3) := by decide +kernel
theorem dX8_variableAt_10 : decode cX8_variableAt 10 = .ok (.aload_n 2, 1) := by decide +kernel
theorem dX8_variableAt_11 : decode cX8_variableAt 11 = .ok (.getfield 134, 3) := by decide +kernel
theorem dX8_variableAt_14 : decode cX8_variableAt 14 = .ok (.ifCond .ne 7, 3) := by decide +kernel
theorem dX8_variableAt_17 : decode cX8_variableAt 17 = .ok (.aconst_null, 1) := by decide +kernel
theorem dX8_variableAt_18 : decode cX8_variableAt 18 = .ok (.goto 4, 3) := by decide +kernel
theorem dX8_variableAt_21 : decode cX8_variableAt 21 = .ok (.aload_n 2, 1) := by decide +kernel
theorem dX8_variableAt_22 : decode cX8_variableAt 22 = .ok (.areturn, 1) := by decide +kernel
theorem dX8_sessionAt_0 : decode cX8_sessionAt 0 = .ok (.iload_n 1, 1) := by decide +kernel
theorem dX8_sessionAt_1 : decode cX8_sessionAt 1 = .ok (.ifCond .lt 28, 3) := by decide +kernel
theorem dX8_sessionAt_4 : decode cX8_sessionAt 4 = .ok (.iload_n 1, 1) := by decide +kernel
theorem dX8_sessionAt_5 : decode cX8_sessionAt 5 = .ok (.aload_n 0, 1) := by decide +kernel
theorem dX8_sessionAt_6 : decode cX8_sessionAt 6 = .ok (.getfield 19, 3) := by decide +kernel
theorem dX8_sessionAt_9 : decode cX8_sessionAt 9 = .ok (.invokevirtual 59, 3) := by decide +kernel
theorem dX8_sessionAt_12 : decode cX8_sessionAt 12 = .ok (.if_icmp .ge 17, 3) := by decide +kernel
theorem dX8_sessionAt_15 : decode cX8_sessionAt 15 = .ok (.aload_n 0, 1) := by decide +kernel
theorem dX8_sessionAt_16 : decode cX8_sessionAt 16 = .ok (.getfield 19, 3) := by decide +kernel
theorem dX8_sessionAt_19 : decode cX8_sessionAt 19 = .ok (.iload_n 1, 1) := by decide +kernel
theorem dX8_sessionAt_20 : decode cX8_sessionAt 20 = .ok (.invokevirtual 119, 3) := by decide +kernel
theorem dX8_sessionAt_23 : decode cX8_sessionAt 23 = .ok (.checkcast 95, 3) := by decide +kernel
theorem dX8_sessionAt_26 : decode cX8_sessionAt 26 = .ok (.goto 4, 3) := by decide +kernel
theorem dX8_sessionAt_29 : decode cX8_sessionAt 29 = .ok (.aconst_null, 1) := by decide +kernel
theorem dX8_sessionAt_30 : decode cX8_sessionAt 30 = .ok (.areturn, 1) := by decide +kernel
theorem dX8_messageAt_0 : decode cX8_messageAt 0 = .ok (.iload_n 1, 1) := by decide +kernel
theorem dX8_messageAt_1 : decode cX8_messageAt 1 = .ok (.ifCond .lt 28, 3) := by decide +kernel
theorem dX8_messageAt_4 : decode cX8_messageAt 4 = .ok (.iload_n 1, 1) := by decide +kernel
theorem dX8_messageAt_5 : decode cX8_messageAt 5 = .ok (.aload_n 0, 1) := by decide +kernel
theorem dX8_messageAt_6 : decode cX8_messageAt 6 = .ok (.getfield 28, 3) := by decide +kernel
theorem dX8_messageAt_9 : decode cX8_messageAt 9 = .ok (.invokevirtual 59, 3) := by decide +kernel
theorem dX8_messageAt_12 : decode cX8_messageAt 12 = .ok (.if_icmp .ge 17, 3) := by decide +kernel
theorem dX8_messageAt_15 : decode cX8_messageAt 15 = .ok (.aload_n 0, 1) := by decide +kernel
theorem dX8_messageAt_16 : decode cX8_messageAt 16 = .ok (.getfield 28, 3) := by decide +kernel
theorem dX8_messageAt_19 : decode cX8_messageAt 19 = .ok (.iload_n 1, 1) := by decide +kernel
theorem dX8_messageAt_20 : decode cX8_messageAt 20 = .ok (.invokevirtual 119, 3) := by decide +kernel
theorem dX8_messageAt_23 : decode cX8_messageAt 23 = .ok (.checkcast 250, 3) := by decide +kernel
theorem dX8_messageAt_26 : decode cX8_messageAt 26 = .ok (.goto 4, 3) := by decide +kernel
theorem dX8_messageAt_29 : decode cX8_messageAt 29 = .ok (.aconst_null, 1) := by decide +kernel
theorem dX8_messageAt_30 : decode cX8_messageAt 30 = .ok (.areturn, 1) := by decide +kernel
theorem dX8_subscriptionAt_0 : decode cX8_subscriptionAt 0 = .ok (.iload_n 1, 1) := by decide +kernel
theorem dX8_subscriptionAt_1 : decode cX8_subscriptionAt 1 = .ok (.ifCond .lt 14, 3) := by decide +kernel
theorem dX8_subscriptionAt_4 : decode cX8_subscriptionAt 4 = .ok (.iload_n 1, 1) := by decide +kernel
theorem dX8_subscriptionAt_5 : decode cX8_subscriptionAt 5 = .ok (.aload_n 0, 1) := by decide +kernel
theorem dX8_subscriptionAt_6 : decode cX8_subscriptionAt 6 = .ok (.getfield 22, 3) := by decide +kernel
theorem dX8_subscriptionAt_9 : decode cX8_subscriptionAt 9 = .ok (.invokevirtual 59, 3) := by decide +kernel
theorem dX8_subscriptionAt_12 : decode cX8_subscriptionAt 12 = .ok (.if_icmp .lt 5, 3) := by decide +kernel
theorem dX8_subscriptionAt_15 : decode cX8_subscriptionAt 15 = .ok (.aconst_null, 1) := by decide +kernel
theorem dX8_subscriptionAt_16 : decode cX8_subscriptionAt 16 = .ok (.areturn, 1) := by decide +kernel
theorem dX8_subscriptionAt_17 : decode cX8_subscriptionAt 17 = .ok (.aload_n 0, 1) := by decide +kernel
theorem dX8_subscriptionAt_18 : decode cX8_subscriptionAt 18 = .ok (.getfield 22, 3) := by decide +kernel
theorem dX8_subscriptionAt_21 : decode cX8_subscriptionAt 21 = .ok (.iload_n 1, 1) := by decide +kernel
theorem dX8_subscriptionAt_22 : decode cX8_subscriptionAt 22 = .ok (.invokevirtual 119, 3) := by decide +kernel
theorem dX8_subscriptionAt_25 : decode cX8_subscriptionAt 25 = .ok (.checkcast 138, 3) := by decide +kernel
theorem dX8_subscriptionAt_28 : decode cX8_subscriptionAt 28 = .ok (.astore_n 2, 1) := by decide +kernel
theorem dX8_subscriptionAt_29 : decode cX8_subscriptionAt 29 = .ok (.aload_n 2, 1) := by decide +kernel
theorem dX8_subscriptionAt_30 : decode cX8_subscriptionAt 30 = .ok (.getfield 319, 3) := by decide +kernel
theorem dX8_subscriptionAt_33 : decode cX8_subscriptionAt 33 = .ok (.ifCond .eq 7, 3) := by decide +kernel
theorem dX8_subscriptionAt_36 : decode cX8_subscriptionAt 36 = .ok (.aconst_null, 1) := by decide +kernel
theorem dX8_subscriptionAt_37 : decode cX8_subscriptionAt 37 = .ok (.goto 4, 3) := by decide +kernel
theorem dX8_subscriptionAt_40 : decode cX8_subscriptionAt 40 = .ok (.aload_n 2, 1) := by decide +kernel
theorem dX8_subscriptionAt_41 : decode cX8_subscriptionAt 41 = .ok (.areturn, 1) := by decide +kernel
theorem dX8_subscriptionOf_0 : decode cX8_subscriptionOf 0 = .ok (.aload_n 0, 1) := by decide +kernel
theorem dX8_subscriptionOf_1 : decode cX8_subscriptionOf 1 = .ok (.iload_n 2, 1) := by decide +kernel
theorem dX8_subscriptionOf_2 : decode cX8_subscriptionOf 2 = .ok (.invokevirtual 171, 3) := by decide +kernel
theorem dX8_subscriptionOf_5 : decode cX8_subscriptionOf 5 = .ok (.astore_n 3, 1) := by decide +kernel
theorem dX8_subscriptionOf_6 : decode cX8_subscriptionOf 6 = .ok (.aload_n 3, 1) := by decide +kernel
theorem dX8_subscriptionOf_7 : decode cX8_subscriptionOf 7 = .ok (.ifnull 11, 3) := by decide +kernel
theorem dX8_subscriptionOf_10 : decode cX8_subscriptionOf 10 = .ok (.aload_n 3, 1) := by decide +kernel
theorem dX8_subscriptionOf_11 : decode cX8_subscriptionOf 11 = .ok (.getfield 175, 3) := by decide +kernel
theorem dX8_subscriptionOf_14 : decode cX8_subscriptionOf 14 = .ok (.aload_n 1, 1) := by decide +kernel
theorem dX8_subscriptionOf_15 : decode cX8_subscriptionOf 15 = .ok (.if_acmp .eq 7, 3) := by decide +kernel
theorem dX8_subscriptionOf_18 : decode cX8_subscriptionOf 18 = .ok (.aconst_null, 1) := by decide +kernel
theorem dX8_subscriptionOf_19 : decode cX8_subscriptionOf 19 = .ok (.goto 4, 3) := by decide +kernel
theorem dX8_subscriptionOf_22 : decode cX8_subscriptionOf 22 = .ok (.aload_n 3, 1) := by decide +kernel
theorem dX8_subscriptionOf_23 : decode cX8_subscriptionOf 23 = .ok (.areturn, 1) := by decide +kernel
theorem dX8_itemAt_0 : decode cX8_itemAt 0 = .ok (.iload_n 1, 1) := by decide +kernel
theorem dX8_itemAt_1 : decode cX8_itemAt 1 = .ok (.ifCond .lt 14, 3) := by decide +kernel
theorem dX8_itemAt_4 : decode cX8_itemAt 4 = .ok (.iload_n 1, 1) := by decide +kernel
theorem dX8_itemAt_5 : decode cX8_itemAt 5 = .ok (.aload_n 0, 1) := by decide +kernel
theorem dX8_itemAt_6 : decode cX8_itemAt 6 = .ok (.getfield 25, 3) := by decide +kernel
theorem dX8_itemAt_9 : decode cX8_itemAt 9 = .ok (.invokevirtual 59, 3) := by decide +kernel
theorem dX8_itemAt_12 : decode cX8_itemAt 12 = .ok (.if_icmp .lt 5, 3) := by decide +kernel
theorem dX8_itemAt_15 : decode cX8_itemAt 15 = .ok (.aconst_null, 1) := by decide +kernel
theorem dX8_itemAt_16 : decode cX8_itemAt 16 = .ok (.areturn, 1) := by decide +kernel
theorem dX8_itemAt_17 : decode cX8_itemAt 17 = .ok (.aload_n 0, 1) := by decide +kernel
theorem dX8_itemAt_18 : decode cX8_itemAt 18 = .ok (.getfield 25, 3) := by decide +kernel
theorem dX8_itemAt_21 : decode cX8_itemAt 21 = .ok (.iload_n 1, 1) := by decide +kernel
theorem dX8_itemAt_22 : decode cX8_itemAt 22 = .ok (.invokevirtual 119, 3) := by decide +kernel
theorem dX8_itemAt_25 : decode cX8_itemAt 25 = .ok (.checkcast 183, 3) := by decide +kernel
theorem dX8_itemAt_28 : decode cX8_itemAt 28 = .ok (.astore_n 2, 1) := by decide +kernel
theorem dX8_itemAt_29 : decode cX8_itemAt 29 = .ok (.aload_n 2, 1) := by decide +kernel
theorem dX8_itemAt_30 : decode cX8_itemAt 30 = .ok (.getfield 322, 3) := by decide +kernel
theorem dX8_itemAt_33 : decode cX8_itemAt 33 = .ok (.ifCond .eq 7, 3) := by decide +kernel
theorem dX8_itemAt_36 : decode cX8_itemAt 36 = .ok (.aconst_null, 1) := by decide +kernel
theorem dX8_itemAt_37 : decode cX8_itemAt 37 = .ok (.goto 4, 3) := by decide +kernel
theorem dX8_itemAt_40 : decode cX8_itemAt 40 = .ok (.aload_n 2, 1) := by decide +kernel
theorem dX8_itemAt_41 : decode cX8_itemAt 41 = .ok (.areturn, 1) := by decide +kernel
theorem dX8_itemOfClient_0 : decode cX8_itemOfClient 0 = .ok (.aload_n 0, 1) := by decide +kernel
theorem dX8_itemOfClient_1 : decode cX8_itemOfClient 1 = .ok (.iload_n 2, 1) := by decide +kernel
theorem dX8_itemOfClient_2 : decode cX8_itemOfClient 2 = .ok (.invokevirtual 301, 3) := by decide +kernel
theorem dX8_itemOfClient_5 : decode cX8_itemOfClient 5 = .ok (.astore_n 3, 1) := by decide +kernel
theorem dX8_itemOfClient_6 : decode cX8_itemOfClient 6 = .ok (.aload_n 3, 1) := by decide +kernel
theorem dX8_itemOfClient_7 : decode cX8_itemOfClient 7 = .ok (.ifnull 14, 3) := by decide +kernel
theorem dX8_itemOfClient_10 : decode cX8_itemOfClient 10 = .ok (.aload_n 3, 1) := by decide +kernel
theorem dX8_itemOfClient_11 : decode cX8_itemOfClient 11 = .ok (.getfield 207, 3) := by decide +kernel
theorem dX8_itemOfClient_14 : decode cX8_itemOfClient 14 = .ok (.getfield 175, 3) := by decide +kernel
theorem dX8_itemOfClient_17 : decode cX8_itemOfClient 17 = .ok (.aload_n 1, 1) := by decide +kernel
theorem dX8_itemOfClient_18 : decode cX8_itemOfClient 18 = .ok (.if_acmp .eq 7, 3) := by decide +kernel
theorem dX8_itemOfClient_21 : decode cX8_itemOfClient 21 = .ok (.aconst_null, 1) := by decide +kernel
theorem dX8_itemOfClient_22 : decode cX8_itemOfClient 22 = .ok (.goto 4, 3) := by decide +kernel
theorem dX8_itemOfClient_25 : decode cX8_itemOfClient 25 = .ok (.aload_n 3, 1) := by decide +kernel
theorem dX8_itemOfClient_26 : decode cX8_itemOfClient 26 = .ok (.areturn, 1) := by decide +kernel
theorem dX8_countOpenSessions_0 : decode cX8_countOpenSessions 0 = .ok (.iconst 0, 1) := by decide +kernel
theorem dX8_countOpenSessions_1 : decode cX8_countOpenSessions 1 = .ok (.istore_n 1, 1) := by decide +kernel
theorem dX8_countOpenSessions_2 : decode cX8_countOpenSessions 2 = .ok (.iconst 0, 1) := by decide +kernel
theorem dX8_countOpenSessions_3 : decode cX8_countOpenSessions 3 = .ok (.istore_n 2, 1) := by decide +kernel
theorem dX8_countOpenSessions_4 : decode cX8_countOpenSessions 4 = .ok (.iload_n 2, 1) := by decide +kernel
theorem dX8_countOpenSessions_5 : decode cX8_countOpenSessions 5 = .ok (.aload_n 0, 1) := by decide +kernel
theorem dX8_countOpenSessions_6 : decode cX8_countOpenSessions 6 = .ok (.getfield 19, 3) := by decide +kernel
theorem dX8_countOpenSessions_9 : decode cX8_countOpenSessions 9 = .ok (.invokevirtual 59, 3) := by decide +kernel
theorem dX8_countOpenSessions_12 : decode cX8_countOpenSessions 12 = .ok (.if_icmp .ge 30, 3) := by decide +kernel
theorem dX8_countOpenSessions_15 : decode cX8_countOpenSessions 15 = .ok (.aload_n 0, 1) := by decide +kernel
theorem dX8_countOpenSessions_16 : decode cX8_countOpenSessions 16 = .ok (.getfield 19, 3) := by decide +kernel
theorem dX8_countOpenSessions_19 : decode cX8_countOpenSessions 19 = .ok (.iload_n 2, 1) := by decide +kernel
theorem dX8_countOpenSessions_20 : decode cX8_countOpenSessions 20 = .ok (.invokevirtual 119, 3) := by decide +kernel
theorem dX8_countOpenSessions_23 : decode cX8_countOpenSessions 23 = .ok (.checkcast 95, 3) := by decide +kernel
theorem dX8_countOpenSessions_26 : decode cX8_countOpenSessions 26 = .ok (.getfield 102, 3) := by decide +kernel
theorem dX8_countOpenSessions_29 : decode cX8_countOpenSessions 29 = .ok (.iconst 2, 1) := by decide +kernel
theorem dX8_countOpenSessions_30 : decode cX8_countOpenSessions 30 = .ok (.if_icmp .eq 6, 3) := by decide +kernel
theorem dX8_countOpenSessions_33 : decode cX8_countOpenSessions 33 = .ok (.iinc 1 1, 3) := by decide +kernel
theorem dX8_countOpenSessions_36 : decode cX8_countOpenSessions 36 = .ok (.iinc 2 1, 3) := by decide +kernel
theorem dX8_countOpenSessions_39 : decode cX8_countOpenSessions 39 = .ok (.goto (-35), 3) := by decide +kernel
theorem dX8_countOpenSessions_42 : decode cX8_countOpenSessions 42 = .ok (.iload_n 1, 1) := by decide +kernel
theorem dX8_countOpenSessions_43 : decode cX8_countOpenSessions 43 = .ok (.ireturn, 1) := by decide +kernel
theorem dX8_countSubscriptions_0 : decode cX8_countSubscriptions 0 = .ok (.iconst 0, 1) := by decide +kernel
theorem dX8_countSubscriptions_1 : decode cX8_countSubscriptions 1 = .ok (.istore_n 2, 1) := by decide +kernel
theorem dX8_countSubscriptions_2 : decode cX8_countSubscriptions 2 = .ok (.iconst 0, 1) := by decide +kernel
theorem dX8_countSubscriptions_3 : decode cX8_countSubscriptions 3 = .ok (.istore_n 3, 1) := by decide +kernel
theorem dX8_countSubscriptions_4 : decode cX8_countSubscriptions 4 = .ok (.iload_n 3, 1) := by decide +kernel
theorem dX8_countSubscriptions_5 : decode cX8_countSubscriptions 5 = .ok (.aload_n 0, 1) := by decide +kernel
theorem dX8_countSubscriptions_6 : decode cX8_countSubscriptions 6 = .ok (.getfield 22, 3) := by decide +kernel
theorem dX8_countSubscriptions_9 : decode cX8_countSubscriptions 9 = .ok (.invokevirtual 59, 3) := by decide +kernel
theorem dX8_countSubscriptions_12 : decode cX8_countSubscriptions 12 = .ok (.if_icmp .ge 46, 3) := by decide +kernel
theorem dX8_countSubscriptions_15 : decode cX8_countSubscriptions 15 = .ok (.aload_n 0, 1) := by decide +kernel
theorem dX8_countSubscriptions_16 : decode cX8_countSubscriptions 16 = .ok (.getfield 22, 3) := by decide +kernel
theorem dX8_countSubscriptions_19 : decode cX8_countSubscriptions 19 = .ok (.iload_n 3, 1) := by decide +kernel
theorem dX8_countSubscriptions_20 : decode cX8_countSubscriptions 20 = .ok (.invokevirtual 119, 3) := by decide +kernel
theorem dX8_countSubscriptions_23 : decode cX8_countSubscriptions 23 = .ok (.checkcast 138, 3) := by decide +kernel
theorem dX8_countSubscriptions_26 : decode cX8_countSubscriptions 26 = .ok (.astore 4, 2) := by decide +kernel
theorem dX8_countSubscriptions_28 : decode cX8_countSubscriptions 28 = .ok (.aload 4, 2) := by decide +kernel
theorem dX8_countSubscriptions_30 : decode cX8_countSubscriptions 30 = .ok (.getfield 319, 3) := by decide +kernel
theorem dX8_countSubscriptions_33 : decode cX8_countSubscriptions 33 = .ok (.ifCond .ne 19, 3) := by decide +kernel
theorem dX8_countSubscriptions_36 : decode cX8_countSubscriptions 36 = .ok (.aload_n 1, 1) := by decide +kernel
theorem dX8_countSubscriptions_37 : decode cX8_countSubscriptions 37 = .ok (.ifnull 12, 3) := by decide +kernel
theorem dX8_countSubscriptions_40 : decode cX8_countSubscriptions 40 = .ok (.aload 4, 2) := by decide +kernel
theorem dX8_countSubscriptions_42 : decode cX8_countSubscriptions 42 = .ok (.getfield 175, 3) := by decide +kernel
theorem dX8_countSubscriptions_45 : decode cX8_countSubscriptions 45 = .ok (.aload_n 1, 1) := by decide +kernel
theorem dX8_countSubscriptions_46 : decode cX8_countSubscriptions 46 = .ok (.if_acmp .ne 6, 3) := by decide +kernel
theorem dX8_countSubscriptions_49 : decode cX8_countSubscriptions 49 = .ok (.iinc 2 1, 3) := by decide +kernel
theorem dX8_countSubscriptions_52 : decode cX8_countSubscriptions 52 = .ok (.iinc 3 1, 3) := by decide +kernel
theorem dX8_countSubscriptions_55 : decode cX8_countSubscriptions 55 = .ok (.goto (-51), 3) := by decide +kernel
theorem dX8_countSubscriptions_58 : decode cX8_countSubscriptions 58 = .ok (.iload_n 2, 1) := by decide +kernel
theorem dX8_countSubscriptions_59 : decode cX8_countSubscriptions 59 = .ok (.ireturn, 1) := by decide +kernel
theorem dX8_countItems_0 : decode cX8_countItems 0 = .ok (.iconst 0, 1) := by decide +kernel
theorem dX8_countItems_1 : decode cX8_countItems 1 = .ok (.istore_n 1, 1) := by decide +kernel
theorem dX8_countItems_2 : decode cX8_countItems 2 = .ok (.iconst 0, 1) := by decide +kernel
theorem dX8_countItems_3 : decode cX8_countItems 3 = .ok (.istore_n 2, 1) := by decide +kernel
theorem dX8_countItems_4 : decode cX8_countItems 4 = .ok (.iload_n 2, 1) := by decide +kernel
theorem dX8_countItems_5 : decode cX8_countItems 5 = .ok (.aload_n 0, 1) := by decide +kernel
theorem dX8_countItems_6 : decode cX8_countItems 6 = .ok (.getfield 25, 3) := by decide +kernel
theorem dX8_countItems_9 : decode cX8_countItems 9 = .ok (.invokevirtual 59, 3) := by decide +kernel
theorem dX8_countItems_12 : decode cX8_countItems 12 = .ok (.if_icmp .ge 29, 3) := by decide +kernel
theorem dX8_countItems_15 : decode cX8_countItems 15 = .ok (.aload_n 0, 1) := by decide +kernel
theorem dX8_countItems_16 : decode cX8_countItems 16 = .ok (.getfield 25, 3) := by decide +kernel
theorem dX8_countItems_19 : decode cX8_countItems 19 = .ok (.iload_n 2, 1) := by decide +kernel
theorem dX8_countItems_20 : decode cX8_countItems 20 = .ok (.invokevirtual 119, 3) := by decide +kernel
theorem dX8_countItems_23 : decode cX8_countItems 23 = .ok (.checkcast 183, 3) := by decide +kernel
theorem dX8_countItems_26 : decode cX8_countItems 26 = .ok (.getfield 322, 3) := by decide +kernel
theorem dX8_countItems_29 : decode cX8_countItems 29 = .ok (.ifCond .ne 6, 3) := by decide +kernel
theorem dX8_countItems_32 : decode cX8_countItems 32 = .ok (.iinc 1 1, 3) := by decide +kernel
theorem dX8_countItems_35 : decode cX8_countItems 35 = .ok (.iinc 2 1, 3) := by decide +kernel
theorem dX8_countItems_38 : decode cX8_countItems 38 = .ok (.goto (-34), 3) := by decide +kernel
theorem dX8_countItems_41 : decode cX8_countItems 41 = .ok (.iload_n 1, 1) := by decide +kernel
theorem dX8_countItems_42 : decode cX8_countItems 42 = .ok (.ireturn, 1) := by decide +kernel
theorem dX8_sampleItems_0 : decode cX8_sampleItems 0 = .ok (.iconst 0, 1) := by decide +kernel
theorem dX8_sampleItems_1 : decode cX8_sampleItems 1 = .ok (.istore_n 1, 1) := by decide +kernel
theorem dX8_sampleItems_2 : decode cX8_sampleItems 2 = .ok (.iload_n 1, 1) := by decide +kernel
theorem dX8_sampleItems_3 : decode cX8_sampleItems 3 = .ok (.aload_n 0, 1) := by decide +kernel
theorem dX8_sampleItems_4 : decode cX8_sampleItems 4 = .ok (.getfield 25, 3) := by decide +kernel
theorem dX8_sampleItems_7 : decode cX8_sampleItems 7 = .ok (.invokevirtual 59, 3) := by decide +kernel
theorem dX8_sampleItems_10 : decode cX8_sampleItems 10 = .ok (.if_icmp .ge 62, 3) := by decide +kernel
theorem dX8_sampleItems_13 : decode cX8_sampleItems 13 = .ok (.aload_n 0, 1) := by decide +kernel
theorem dX8_sampleItems_14 : decode cX8_sampleItems 14 = .ok (.getfield 25, 3) := by decide +kernel
theorem dX8_sampleItems_17 : decode cX8_sampleItems 17 = .ok (.iload_n 1, 1) := by decide +kernel
theorem dX8_sampleItems_18 : decode cX8_sampleItems 18 = .ok (.invokevirtual 119, 3) := by decide +kernel
theorem dX8_sampleItems_21 : decode cX8_sampleItems 21 = .ok (.checkcast 183, 3) := by decide +kernel
theorem dX8_sampleItems_24 : decode cX8_sampleItems 24 = .ok (.astore_n 2, 1) := by decide +kernel
theorem dX8_sampleItems_25 : decode cX8_sampleItems 25 = .ok (.aload_n 2, 1) := by decide +kernel
theorem dX8_sampleItems_26 : decode cX8_sampleItems 26 = .ok (.getfield 322, 3) := by decide +kernel
theorem dX8_sampleItems_29 : decode cX8_sampleItems 29 = .ok (.ifCond .ne 37, 3) := by decide +kernel
theorem dX8_sampleItems_32 : decode cX8_sampleItems 32 = .ok (.aload_n 2, 1) := by decide +kernel
theorem dX8_sampleItems_33 : decode cX8_sampleItems 33 = .ok (.getfield 204, 3) := by decide +kernel
theorem dX8_sampleItems_36 : decode cX8_sampleItems 36 = .ok (.ifCond .eq 30, 3) := by decide +kernel
theorem dX8_sampleItems_39 : decode cX8_sampleItems 39 = .ok (.aload_n 0, 1) := by decide +kernel
theorem dX8_sampleItems_40 : decode cX8_sampleItems 40 = .ok (.getfield 35, 3) := by decide +kernel
theorem dX8_sampleItems_43 : decode cX8_sampleItems 43 = .ok (.aload_n 2, 1) := by decide +kernel
theorem dX8_sampleItems_44 : decode cX8_sampleItems 44 = .ok (.getfield 323, 3) := by decide +kernel
theorem dX8_sampleItems_47 : decode cX8_sampleItems 47 = .ok (.isub, 1) := by decide +kernel
theorem dX8_sampleItems_48 : decode cX8_sampleItems 48 = .ok (.aload_n 2, 1) := by decide +kernel
theorem dX8_sampleItems_49 : decode cX8_sampleItems 49 = .ok (.getfield 326, 3) := by decide +kernel
theorem dX8_sampleItems_52 : decode cX8_sampleItems 52 = .ok (.invokestatic 329, 3) := by decide +kernel
theorem dX8_sampleItems_55 : decode cX8_sampleItems 55 = .ok (.ifCond .eq 11, 3) := by decide +kernel
theorem dX8_sampleItems_58 : decode cX8_sampleItems 58 = .ok (.aload_n 2, 1) := by decide +kernel
theorem dX8_sampleItems_59 : decode cX8_sampleItems 59 = .ok (.aload_n 0, 1) := by decide +kernel
theorem dX8_sampleItems_60 : decode cX8_sampleItems 60 = .ok (.getfield 35, 3) := by decide +kernel
theorem dX8_sampleItems_63 : decode cX8_sampleItems 63 = .ok (.invokevirtual 332, 3) := by decide +kernel
theorem dX8_sampleItems_66 : decode cX8_sampleItems 66 = .ok (.iinc 1 1, 3) := by decide +kernel
theorem dX8_sampleItems_69 : decode cX8_sampleItems 69 = .ok (.goto (-67), 3) := by decide +kernel
theorem dX8_sampleItems_72 : decode cX8_sampleItems 72 = .ok (.return_, 1) := by decide +kernel
theorem dX8_serveSubscriptions_0 : decode cX8_serveSubscriptions 0 = .ok (.iconst 0, 1) := by decide +kernel
theorem dX8_serveSubscriptions_1 : decode cX8_serveSubscriptions 1 = .ok (.istore_n 1, 1) := by decide +kernel
theorem dX8_serveSubscriptions_2 : decode cX8_serveSubscriptions 2 = .ok (.iload_n 1, 1) := by decide +kernel
theorem dX8_serveSubscriptions_3 : decode cX8_serveSubscriptions 3 = .ok (.aload_n 0, 1) := by decide +kernel
theorem dX8_serveSubscriptions_4 : decode cX8_serveSubscriptions 4 = .ok (.getfield 22, 3) := by decide +kernel
theorem dX8_serveSubscriptions_7 : decode cX8_serveSubscriptions 7 = .ok (.invokevirtual 59, 3) := by decide +kernel
theorem dX8_serveSubscriptions_10 : decode cX8_serveSubscriptions 10 = .ok (.if_icmp .ge 59, 3) := by decide +kernel
theorem dX8_serveSubscriptions_13 : decode cX8_serveSubscriptions 13 = .ok (.aload_n 0, 1) := by decide +kernel
theorem dX8_serveSubscriptions_14 : decode cX8_serveSubscriptions 14 = .ok (.getfield 22, 3) := by decide +kernel
theorem dX8_serveSubscriptions_17 : decode cX8_serveSubscriptions 17 = .ok (.iload_n 1, 1) := by decide +kernel
theorem dX8_serveSubscriptions_18 : decode cX8_serveSubscriptions 18 = .ok (.invokevirtual 119, 3) := by decide +kernel
theorem dX8_serveSubscriptions_21 : decode cX8_serveSubscriptions 21 = .ok (.checkcast 138, 3) := by decide +kernel
theorem dX8_serveSubscriptions_24 : decode cX8_serveSubscriptions 24 = .ok (.astore_n 2, 1) := by decide +kernel
theorem dX8_serveSubscriptions_25 : decode cX8_serveSubscriptions 25 = .ok (.aload_n 2, 1) := by decide +kernel
theorem dX8_serveSubscriptions_26 : decode cX8_serveSubscriptions 26 = .ok (.getfield 319, 3) := by decide +kernel
theorem dX8_serveSubscriptions_29 : decode cX8_serveSubscriptions 29 = .ok (.ifCond .ne 34, 3) := by decide +kernel
theorem dX8_serveSubscriptions_32 : decode cX8_serveSubscriptions 32 = .ok (.aload_n 0, 1) := by decide +kernel
theorem dX8_serveSubscriptions_33 : decode cX8_serveSubscriptions 33 = .ok (.getfield 35, 3) := by decide +kernel
theorem dX8_serveSubscriptions_36 : decode cX8_serveSubscriptions 36 = .ok (.aload_n 2, 1) := by decide +kernel
theorem dX8_serveSubscriptions_37 : decode cX8_serveSubscriptions 37 = .ok (.getfield 335, 3) := by decide +kernel
theorem dX8_serveSubscriptions_40 : decode cX8_serveSubscriptions 40 = .ok (.isub, 1) := by decide +kernel
theorem dX8_serveSubscriptions_41 : decode cX8_serveSubscriptions 41 = .ok (.aload_n 2, 1) := by decide +kernel
theorem dX8_serveSubscriptions_42 : decode cX8_serveSubscriptions 42 = .ok (.getfield 336, 3) := by decide +kernel
theorem dX8_serveSubscriptions_45 : decode cX8_serveSubscriptions 45 = .ok (.invokestatic 329, 3) := by decide +kernel
theorem dX8_serveSubscriptions_48 : decode cX8_serveSubscriptions 48 = .ok (.ifCond .eq 15, 3) := by decide +kernel
theorem dX8_serveSubscriptions_51 : decode cX8_serveSubscriptions 51 = .ok (.aload_n 2, 1) := by decide +kernel
theorem dX8_serveSubscriptions_52 : decode cX8_serveSubscriptions 52 = .ok (.invokevirtual 339, 3) := by decide +kernel
theorem dX8_serveSubscriptions_55 : decode cX8_serveSubscriptions 55 = .ok (.ifCond .eq 8, 3) := by decide +kernel
theorem dX8_serveSubscriptions_58 : decode cX8_serveSubscriptions 58 = .ok (.aload_n 0, 1) := by decide +kernel
theorem dX8_serveSubscriptions_59 : decode cX8_serveSubscriptions 59 = .ok (.aload_n 2, 1) := by decide +kernel
theorem dX8_serveSubscriptions_60 : decode cX8_serveSubscriptions 60 = .ok (.invokevirtual 342, 3) := by decide +kernel
theorem dX8_serveSubscriptions_63 : decode cX8_serveSubscriptions 63 = .ok (.iinc 1 1, 3) := by decide +kernel
theorem dX8_serveSubscriptions_66 : decode cX8_serveSubscriptions 66 = .ok (.goto (-64), 3) := by decide +kernel
theorem dX8_serveSubscriptions_69 : decode cX8_serveSubscriptions 69 = .ok (.return_, 1) := by decide +kernel
theorem dX8_answerRequests_0 : decode cX8_answerRequests 0 = .ok (.aload_n 1, 1) := by decide +kernel
theorem dX8_answerRequests_1 : decode cX8_answerRequests 1 = .ok (.getfield 175, 3) := by decide +kernel
theorem dX8_answerRequests_4 : decode cX8_answerRequests 4 = .ok (.getfield 224, 3) := by decide +kernel
theorem dX8_answerRequests_7 : decode cX8_answerRequests 7 = .ok (.istore_n 2, 1) := by decide +kernel
theorem dX8_answerRequests_8 : decode cX8_answerRequests 8 = .ok (.iload_n 2, 1) := by decide +kernel
theorem dX8_answerRequests_9 : decode cX8_answerRequests 9 = .ok (.ifCond .ne 9, 3) := by decide +kernel
theorem dX8_answerRequests_12 : decode cX8_answerRequests 12 = .ok (.aload_n 0, 1) := by decide +kernel
theorem dX8_answerRequests_13 : decode cX8_answerRequests 13 = .ok (.aload_n 1, 1) := by decide +kernel
theorem dX8_answerRequests_14 : decode cX8_answerRequests 14 = .ok (.invokevirtual 345, 3) := by decide +kernel
theorem dX8_answerRequests_17 : decode cX8_answerRequests 17 = .ok (.return_, 1) := by decide +kernel
theorem dX8_answerRequests_18 : decode cX8_answerRequests 18 = .ok (.iconst 0, 1) := by decide +kernel
theorem dX8_answerRequests_19 : decode cX8_answerRequests 19 = .ok (.istore_n 3, 1) := by decide +kernel
theorem dX8_answerRequests_20 : decode cX8_answerRequests 20 = .ok (.iload_n 3, 1) := by decide +kernel
theorem dX8_answerRequests_21 : decode cX8_answerRequests 21 = .ok (.iload_n 2, 1) := by decide +kernel
theorem dX8_answerRequests_22 : decode cX8_answerRequests 22 = .ok (.if_icmp .ge 41, 3) := by decide +kernel
theorem dX8_answerRequests_25 : decode cX8_answerRequests 25 = .ok (.aload_n 0, 1) := by decide +kernel
theorem dX8_answerRequests_26 : decode cX8_answerRequests 26 = .ok (.getfield 28, 3) := by decide +kernel
theorem dX8_answerRequests_29 : decode cX8_answerRequests 29 = .ok (.invokevirtual 59, 3) := by decide +kernel
theorem dX8_answerRequests_32 : decode cX8_answerRequests 32 = .ok (.sipush 900, 3) := by decide +kernel
theorem dX8_answerRequests_35 : decode cX8_answerRequests 35 = .ok (.if_icmp .lt 9, 3) := by decide +kernel
theorem dX8_answerRequests_38 : decode cX8_answerRequests 38 = .ok (.aload_n 0, 1) := by decide +kernel
theorem dX8_answerRequests_39 : decode cX8_answerRequests 39 = .ok (.aload_n 1, 1) := by decide +kernel
theorem dX8_answerRequests_40 : decode cX8_answerRequests 40 = .ok (.invokevirtual 345, 3) := by decide +kernel
theorem dX8_answerRequests_43 : decode cX8_answerRequests 43 = .ok (.return_, 1) := by decide +kernel
theorem dX8_answerRequests_44 : decode cX8_answerRequests 44 = .ok (.aload_n 0, 1) := by decide +kernel
theorem dX8_answerRequests_45 : decode cX8_answerRequests 45 = .ok (.aload_n 1, 1) := by decide +kernel
theorem dX8_answerRequests_46 : decode cX8_answerRequests 46 = .ok (.invokevirtual 238, 3) := by decide +kernel
theorem dX8_answerRequests_49 : decode cX8_answerRequests 49 = .ok (.aload_n 1, 1) := by decide +kernel
theorem dX8_answerRequests_50 : decode cX8_answerRequests 50 = .ok (.getfield 348, 3) := by decide +kernel
theorem dX8_answerRequests_53 : decode cX8_answerRequests 53 = .ok (.ifCond .ne 4, 3) := by decide +kernel
theorem dX8_answerRequests_56 : decode cX8_answerRequests 56 = .ok (.return_, 1) := by decide +kernel
theorem dX8_answerRequests_57 : decode cX8_answerRequests 57 = .ok (.iinc 3 1, 3) := by decide +kernel
theorem dX8_answerRequests_60 : decode cX8_answerRequests 60 = .ok (.goto (-40), 3) := by decide +kernel
theorem dX8_answerRequests_63 : decode cX8_answerRequests 63 = .ok (.return_, 1) := by decide +kernel
theorem dX8_fallShort_0 : decode cX8_fallShort 0 = .ok (.aload_n 1, 1) := by decide +kernel
theorem dX8_fallShort_1 : decode cX8_fallShort 1 = .ok (.getfield 292, 3) := by decide +kernel
theorem dX8_fallShort_4 : decode cX8_fallShort 4 = .ok (.ifCond .ne 26, 3) := by decide +kernel
theorem dX8_fallShort_7 : decode cX8_fallShort 7 = .ok (.aload_n 1, 1) := by decide +kernel
theorem dX8_fallShort_8 : decode cX8_fallShort 8 = .ok (.iconst 1, 1) := by decide +kernel
theorem dX8_fallShort_9 : decode cX8_fallShort 9 = .ok (.putfield 292, 3) := by decide +kernel
theorem dX8_fallShort_12 : decode cX8_fallShort 12 = .ok (.aload_n 1, 1) := by decide +kernel
theorem dX8_fallShort_13 : decode cX8_fallShort 13 = .ok (.aload_n 0, 1) := by decide +kernel
theorem dX8_fallShort_14 : decode cX8_fallShort 14 = .ok (.getfield 46, 3) := by decide +kernel
theorem dX8_fallShort_17 : decode cX8_fallShort 17 = .ok (.putfield 349, 3) := by decide +kernel
theorem dX8_fallShort_20 : decode cX8_fallShort 20 = .ok (.aload_n 0, 1) := by decide +kernel
theorem dX8_fallShort_21 : decode cX8_fallShort 21 = .ok (.dup, 1) := by decide +kernel
theorem dX8_fallShort_22 : decode cX8_fallShort 22 = .ok (.getfield 46, 3) := by decide +kernel
theorem dX8_fallShort_25 : decode cX8_fallShort 25 = .ok (.iconst 1, 1) := by decide +kernel
theorem dX8_fallShort_26 : decode cX8_fallShort 26 = .ok (.iadd, 1) := by decide +kernel
theorem dX8_fallShort_27 : decode cX8_fallShort 27 = .ok (.putfield 46, 3) := by decide +kernel
theorem dX8_fallShort_30 : decode cX8_fallShort 30 = .ok (.aload_n 1, 1) := by decide +kernel
theorem dX8_fallShort_31 : decode cX8_fallShort 31 = .ok (.dup, 1) := by decide +kernel
theorem dX8_fallShort_32 : decode cX8_fallShort 32 = .ok (.getfield 164, 3) := by decide +kernel
theorem dX8_fallShort_35 : decode cX8_fallShort 35 = .ok (.iconst 1, 1) := by decide +kernel
theorem dX8_fallShort_36 : decode cX8_fallShort 36 = .ok (.isub, 1) := by decide +kernel
theorem dX8_fallShort_37 : decode cX8_fallShort 37 = .ok (.putfield 164, 3) := by decide +kernel
theorem dX8_fallShort_40 : decode cX8_fallShort 40 = .ok (.aload_n 1, 1) := by decide +kernel
theorem dX8_fallShort_41 : decode cX8_fallShort 41 = .ok (.getfield 164, 3) := by decide +kernel
theorem dX8_fallShort_44 : decode cX8_fallShort 44 = .ok (.ifCond .gt 7, 3) := by decide +kernel
theorem dX8_fallShort_47 : decode cX8_fallShort 47 = .ok (.aload_n 1, 1) := by decide +kernel
theorem dX8_fallShort_48 : decode cX8_fallShort 48 = .ok (.invokevirtual 179, 3) := by decide +kernel
theorem dX8_fallShort_51 : decode cX8_fallShort 51 = .ok (.return_, 1) := by decide +kernel
theorem dX8_send_0 : decode cX8_send 0 = .ok (.aload_n 1, 1) := by decide +kernel
theorem dX8_send_1 : decode cX8_send 1 = .ok (.invokevirtual 297, 3) := by decide +kernel
theorem dX8_send_4 : decode cX8_send 4 = .ok (.istore_n 2, 1) := by decide +kernel
theorem dX8_send_5 : decode cX8_send 5 = .ok (.new 250, 3) := by decide +kernel
theorem dX8_send_8 : decode cX8_send 8 = .ok (.dup, 1) := by decide +kernel
theorem dX8_send_9 : decode cX8_send 9 = .ok (.aload_n 0, 1) := by decide +kernel
theorem dX8_send_10 : decode cX8_send 10 = .ok (.getfield 28, 3) := by decide +kernel
theorem dX8_send_13 : decode cX8_send 13 = .ok (.invokevirtual 59, 3) := by decide +kernel
theorem dX8_send_16 : decode cX8_send 16 = .ok (.aload_n 1, 1) := by decide +kernel
theorem dX8_send_17 : decode cX8_send 17 = .ok (.getfield 150, 3) := by decide +kernel
theorem dX8_send_20 : decode cX8_send 20 = .ok (.aload_n 1, 1) := by decide +kernel
theorem dX8_send_21 : decode cX8_send 21 = .ok (.getfield 286, 3) := by decide +kernel
theorem dX8_send_24 : decode cX8_send 24 = .ok (.aload_n 0, 1) := by decide +kernel
theorem dX8_send_25 : decode cX8_send 25 = .ok (.getfield 35, 3) := by decide +kernel
theorem dX8_send_28 : decode cX8_send 28 = .ok (.aload_n 1, 1) := by decide +kernel
theorem dX8_send_29 : decode cX8_send 29 = .ok (.invokevirtual 352, 3) := by decide +kernel
theorem dX8_send_32 : decode cX8_send 32 = .ok (.invokespecial 356, 3) := by decide +kernel
theorem dX8_send_35 : decode cX8_send 35 = .ok (.astore_n 3, 1) := by decide +kernel
theorem dX8_send_36 : decode cX8_send 36 = .ok (.iload_n 2, 1) := by decide +kernel
theorem dX8_send_37 : decode cX8_send 37 = .ok (.ifCond .eq 18, 3) := by decide +kernel
theorem dX8_send_40 : decode cX8_send 40 = .ok (.aload_n 1, 1) := by decide +kernel
theorem dX8_send_41 : decode cX8_send 41 = .ok (.dup, 1) := by decide +kernel
theorem dX8_send_42 : decode cX8_send 42 = .ok (.getfield 286, 3) := by decide +kernel
theorem dX8_send_45 : decode cX8_send 45 = .ok (.iconst 1, 1) := by decide +kernel
theorem dX8_send_46 : decode cX8_send 46 = .ok (.iadd, 1) := by decide +kernel
theorem dX8_send_47 : decode cX8_send 47 = .ok (.putfield 286, 3) := by decide +kernel
theorem dX8_send_50 : decode cX8_send 50 = .ok (.aload_n 1, 1) := by decide +kernel
theorem dX8_send_51 : decode cX8_send 51 = .ok (.aload_n 3, 1) := by decide +kernel
theorem dX8_send_52 : decode cX8_send 52 = .ok (.invokevirtual 359, 3) := by decide +kernel
theorem dX8_send_55 : decode cX8_send 55 = .ok (.aload_n 3, 1) := by decide +kernel
theorem dX8_send_56 : decode cX8_send 56 = .ok (.aload_n 1, 1) := by decide +kernel
theorem dX8_send_57 : decode cX8_send 57 = .ok (.invokevirtual 297, 3) := by decide +kernel
theorem dX8_send_60 : decode cX8_send 60 = .ok (.putfield 264, 3) := by decide +kernel
theorem dX8_send_63 : decode cX8_send 63 = .ok (.aload_n 1, 1) := by decide +kernel
theorem dX8_send_64 : decode cX8_send 64 = .ok (.aload_n 3, 1) := by decide +kernel
theorem dX8_send_65 : decode cX8_send 65 = .ok (.getfield 264, 3) := by decide +kernel
theorem dX8_send_68 : decode cX8_send 68 = .ok (.putfield 348, 3) := by decide +kernel
theorem dX8_send_71 : decode cX8_send 71 = .ok (.aload_n 1, 1) := by decide +kernel
theorem dX8_send_72 : decode cX8_send 72 = .ok (.iconst 1, 1) := by decide +kernel
theorem dX8_send_73 : decode cX8_send 73 = .ok (.putfield 363, 3) := by decide +kernel
theorem dX8_send_76 : decode cX8_send 76 = .ok (.aload_n 1, 1) := by decide +kernel
theorem dX8_send_77 : decode cX8_send 77 = .ok (.iconst 0, 1) := by decide +kernel
theorem dX8_send_78 : decode cX8_send 78 = .ok (.putfield 292, 3) := by decide +kernel
theorem dX8_send_81 : decode cX8_send 81 = .ok (.aload_n 1, 1) := by decide +kernel
theorem dX8_send_82 : decode cX8_send 82 = .ok (.aload_n 1, 1) := by decide +kernel
theorem dX8_send_83 : decode cX8_send 83 = .ok (.getfield 366, 3) := by decide +kernel
theorem dX8_send_86 : decode cX8_send 86 = .ok (.putfield 289, 3) := by decide +kernel
theorem dX8_send_89 : decode cX8_send 89 = .ok (.aload_n 1, 1) := by decide +kernel
theorem dX8_send_90 : decode cX8_send 90 = .ok (.aload_n 1, 1) := by decide +kernel
theorem dX8_send_91 : decode cX8_send 91 = .ok (.getfield 161, 3) := by decide +kernel
theorem dX8_send_94 : decode cX8_send 94 = .ok (.putfield 164, 3) := by decide +kernel
theorem dX8_send_97 : decode cX8_send 97 = .ok (.aload_n 1, 1) := by decide +kernel
theorem dX8_send_98 : decode cX8_send 98 = .ok (.getfield 175, 3) := by decide +kernel
theorem dX8_send_101 : decode cX8_send 101 = .ok (.dup, 1) := by decide +kernel
theorem dX8_send_102 : decode cX8_send 102 = .ok (.getfield 224, 3) := by decide +kernel
theorem dX8_send_105 : decode cX8_send 105 = .ok (.iconst 1, 1) := by decide +kernel
theorem dX8_send_106 : decode cX8_send 106 = .ok (.isub, 1) := by decide +kernel
theorem dX8_send_107 : decode cX8_send 107 = .ok (.putfield 224, 3) := by decide +kernel
theorem dX8_send_110 : decode cX8_send 110 = .ok (.aload_n 1, 1) := by decide +kernel
theorem dX8_send_111 : decode cX8_send 111 = .ok (.getfield 175, 3) := by decide +kernel
theorem dX8_send_114 : decode cX8_send 114 = .ok (.getfield 246, 3) := by decide +kernel
theorem dX8_send_117 : decode cX8_send 117 = .ok (.aload_n 3, 1) := by decide +kernel
theorem dX8_send_118 : decode cX8_send 118 = .ok (.invokevirtual 66, 3) := by decide +kernel
theorem dX8_send_121 : decode cX8_send 121 = .ok (.pop, 1) := by decide +kernel
theorem dX8_send_122 : decode cX8_send 122 = .ok (.aload_n 0, 1) := by decide +kernel
theorem dX8_send_123 : decode cX8_send 123 = .ok (.getfield 28, 3) := by decide +kernel
theorem dX8_send_126 : decode cX8_send 126 = .ok (.aload_n 3, 1) := by decide +kernel
theorem dX8_send_127 : decode cX8_send 127 = .ok (.invokevirtual 66, 3) := by decide +kernel
theorem dX8_send_130 : decode cX8_send 130 = .ok (.pop, 1) := by decide +kernel
theorem dX8_send_131 : decode cX8_send 131 = .ok (.return_, 1) := by decide +kernel
theorem dX8_closeTimedOut_0 : decode cX8_closeTimedOut 0 = .ok (.iconst 0, 1) := by decide +kernel
theorem dX8_closeTimedOut_1 : decode cX8_closeTimedOut 1 = .ok (.istore_n 1, 1) := by decide +kernel
theorem dX8_closeTimedOut_2 : decode cX8_closeTimedOut 2 = .ok (.iload_n 1, 1) := by decide +kernel
theorem dX8_closeTimedOut_3 : decode cX8_closeTimedOut 3 = .ok (.aload_n 0, 1) := by decide +kernel
theorem dX8_closeTimedOut_4 : decode cX8_closeTimedOut 4 = .ok (.getfield 19, 3) := by decide +kernel
theorem dX8_closeTimedOut_7 : decode cX8_closeTimedOut 7 = .ok (.invokevirtual 59, 3) := by decide +kernel
theorem dX8_closeTimedOut_10 : decode cX8_closeTimedOut 10 = .ok (.if_icmp .ge 46, 3) := by decide +kernel
theorem dX8_closeTimedOut_13 : decode cX8_closeTimedOut 13 = .ok (.aload_n 0, 1) := by decide +kernel
theorem dX8_closeTimedOut_14 : decode cX8_closeTimedOut 14 = .ok (.getfield 19, 3) := by decide +kernel
theorem dX8_closeTimedOut_17 : decode cX8_closeTimedOut 17 = .ok (.iload_n 1, 1) := by decide +kernel
theorem dX8_closeTimedOut_18 : decode cX8_closeTimedOut 18 = .ok (.invokevirtual 119, 3) := by decide +kernel
theorem dX8_closeTimedOut_21 : decode cX8_closeTimedOut 21 = .ok (.checkcast 95, 3) := by decide +kernel
theorem dX8_closeTimedOut_24 : decode cX8_closeTimedOut 24 = .ok (.astore_n 2, 1) := by decide +kernel
theorem dX8_closeTimedOut_25 : decode cX8_closeTimedOut 25 = .ok (.aload_n 2, 1) := by decide +kernel
theorem dX8_closeTimedOut_26 : decode cX8_closeTimedOut 26 = .ok (.getfield 102, 3) := by decide +kernel
theorem dX8_closeTimedOut_29 : decode cX8_closeTimedOut 29 = .ok (.iconst 2, 1) := by decide +kernel
theorem dX8_closeTimedOut_30 : decode cX8_closeTimedOut 30 = .ok (.if_icmp .eq 20, 3) := by decide +kernel
theorem dX8_closeTimedOut_33 : decode cX8_closeTimedOut 33 = .ok (.aload_n 2, 1) := by decide +kernel
theorem dX8_closeTimedOut_34 : decode cX8_closeTimedOut 34 = .ok (.getfield 283, 3) := by decide +kernel
theorem dX8_closeTimedOut_37 : decode cX8_closeTimedOut 37 = .ok (.aload_n 0, 1) := by decide +kernel
theorem dX8_closeTimedOut_38 : decode cX8_closeTimedOut 38 = .ok (.getfield 35, 3) := by decide +kernel
theorem dX8_closeTimedOut_41 : decode cX8_closeTimedOut 41 = .ok (.if_icmp .ne 9, 3) := by decide +kernel
theorem dX8_closeTimedOut_44 : decode cX8_closeTimedOut 44 = .ok (.aload_n 0, 1) := by decide +kernel
theorem dX8_closeTimedOut_45 : decode cX8_closeTimedOut 45 = .ok (.aload_n 2, 1) := by decide +kernel
theorem dX8_closeTimedOut_46 : decode cX8_closeTimedOut 46 = .ok (.invokevirtual 115, 3) := by decide +kernel
theorem dX8_closeTimedOut_49 : decode cX8_closeTimedOut 49 = .ok (.pop, 1) := by decide +kernel
theorem dX8_closeTimedOut_50 : decode cX8_closeTimedOut 50 = .ok (.iinc 1 1, 3) := by decide +kernel
theorem dX8_closeTimedOut_53 : decode cX8_closeTimedOut 53 = .ok (.goto (-51), 3) := by decide +kernel
theorem dX8_closeTimedOut_56 : decode cX8_closeTimedOut 56 = .ok (.return_, 1) := by decide +kernel
theorem dX8_shut_0 : decode cX8_shut 0 = .ok (.aload_n 1, 1) := by decide +kernel
theorem dX8_shut_1 : decode cX8_shut 1 = .ok (.iconst 2, 1) := by decide +kernel
theorem dX8_shut_2 : decode cX8_shut 2 = .ok (.putfield 102, 3) := by decide +kernel
theorem dX8_shut_5 : decode cX8_shut 5 = .ok (.aload_n 1, 1) := by decide +kernel
theorem dX8_shut_6 : decode cX8_shut 6 = .ok (.iconst 0, 1) := by decide +kernel
theorem dX8_shut_7 : decode cX8_shut 7 = .ok (.putfield 224, 3) := by decide +kernel
theorem dX8_shut_10 : decode cX8_shut 10 = .ok (.iconst 0, 1) := by decide +kernel
theorem dX8_shut_11 : decode cX8_shut 11 = .ok (.istore_n 2, 1) := by decide +kernel
theorem dX8_shut_12 : decode cX8_shut 12 = .ok (.iconst 0, 1) := by decide +kernel
theorem dX8_shut_13 : decode cX8_shut 13 = .ok (.istore_n 3, 1) := by decide +kernel
theorem dX8_shut_14 : decode cX8_shut 14 = .ok (.iload_n 3, 1) := by decide +kernel
theorem dX8_shut_15 : decode cX8_shut 15 = .ok (.aload_n 0, 1) := by decide +kernel
theorem dX8_shut_16 : decode cX8_shut 16 = .ok (.getfield 22, 3) := by decide +kernel
theorem dX8_shut_19 : decode cX8_shut 19 = .ok (.invokevirtual 59, 3) := by decide +kernel
theorem dX8_shut_22 : decode cX8_shut 22 = .ok (.if_icmp .ge 47, 3) := by decide +kernel
theorem dX8_shut_25 : decode cX8_shut 25 = .ok (.aload_n 0, 1) := by decide +kernel
theorem dX8_shut_26 : decode cX8_shut 26 = .ok (.getfield 22, 3) := by decide +kernel
theorem dX8_shut_29 : decode cX8_shut 29 = .ok (.iload_n 3, 1) := by decide +kernel
theorem dX8_shut_30 : decode cX8_shut 30 = .ok (.invokevirtual 119, 3) := by decide +kernel
theorem dX8_shut_33 : decode cX8_shut 33 = .ok (.checkcast 138, 3) := by decide +kernel
theorem dX8_shut_36 : decode cX8_shut 36 = .ok (.astore 4, 2) := by decide +kernel
theorem dX8_shut_38 : decode cX8_shut 38 = .ok (.aload 4, 2) := by decide +kernel
theorem dX8_shut_40 : decode cX8_shut 40 = .ok (.getfield 319, 3) := by decide +kernel
theorem dX8_shut_43 : decode cX8_shut 43 = .ok (.ifCond .ne 20, 3) := by decide +kernel
theorem dX8_shut_46 : decode cX8_shut 46 = .ok (.aload 4, 2) := by decide +kernel
theorem dX8_shut_48 : decode cX8_shut 48 = .ok (.getfield 175, 3) := by decide +kernel
theorem dX8_shut_51 : decode cX8_shut 51 = .ok (.aload_n 1, 1) := by decide +kernel
theorem dX8_shut_52 : decode cX8_shut 52 = .ok (.if_acmp .ne 11, 3) := by decide +kernel
theorem dX8_shut_55 : decode cX8_shut 55 = .ok (.aload 4, 2) := by decide +kernel
theorem dX8_shut_57 : decode cX8_shut 57 = .ok (.invokevirtual 179, 3) := by decide +kernel
theorem dX8_shut_60 : decode cX8_shut 60 = .ok (.iinc 2 1, 3) := by decide +kernel
theorem dX8_shut_63 : decode cX8_shut 63 = .ok (.iinc 3 1, 3) := by decide +kernel
theorem dX8_shut_66 : decode cX8_shut 66 = .ok (.goto (-52), 3) := by decide +kernel
theorem dX8_shut_69 : decode cX8_shut 69 = .ok (.iload_n 2, 1) := by decide +kernel
theorem dX8_shut_70 : decode cX8_shut 70 = .ok (.ireturn, 1) := by decide +kernel
theorem dX8_acknowledge_0 : decode cX8_acknowledge 0 = .ok (.aload_n 0, 1) := by decide +kernel
theorem dX8_acknowledge_1 : decode cX8_acknowledge 1 = .ok (.aload_n 1, 1) := by decide +kernel
theorem dX8_acknowledge_2 : decode cX8_acknowledge 2 = .ok (.iload_n 2, 1) := by decide +kernel
theorem dX8_acknowledge_3 : decode cX8_acknowledge 3 = .ok (.invokevirtual 153, 3) := by decide +kernel
theorem dX8_acknowledge_6 : decode cX8_acknowledge 6 = .ok (.astore 4, 2) := by decide +kernel
theorem dX8_acknowledge_8 : decode cX8_acknowledge 8 = .ok (.aload 4, 2) := by decide +kernel
theorem dX8_acknowledge_10 : decode cX8_acknowledge 10 = .ok (.ifnonnull 6, 3) := by decide +kernel
theorem dX8_acknowledge_13 : decode cX8_acknowledge 13 = .ok (.bipush (-5), 2) := by decide +kernel
theorem dX8_acknowledge_15 : decode cX8_acknowledge 15 = .ok (.ireturn, 1) := by decide +kernel
theorem dX8_acknowledge_16 : decode cX8_acknowledge 16 = .ok (.aload 4, 2) := by decide +kernel
theorem dX8_acknowledge_18 : decode cX8_acknowledge 18 = .ok (.iload_n 3, 1) := by decide +kernel
theorem dX8_acknowledge_19 : decode cX8_acknowledge 19 = .ok (.invokevirtual 369, 3) := by decide +kernel
theorem dX8_acknowledge_22 : decode cX8_acknowledge 22 = .ok (.ifCond .eq 7, 3) := by decide +kernel
theorem dX8_acknowledge_25 : decode cX8_acknowledge 25 = .ok (.iconst 1, 1) := by decide +kernel
theorem dX8_acknowledge_26 : decode cX8_acknowledge 26 = .ok (.goto 5, 3) := by decide +kernel
theorem dX8_acknowledge_29 : decode cX8_acknowledge 29 = .ok (.bipush (-9), 2) := by decide +kernel
theorem dX8_acknowledge_31 : decode cX8_acknowledge 31 = .ok (.ireturn, 1) := by decide +kernel
theorem dX8_longestLate_0 : decode cX8_longestLate 0 = .ok (.aconst_null, 1) := by decide +kernel
theorem dX8_longestLate_1 : decode cX8_longestLate 1 = .ok (.astore_n 2, 1) := by decide +kernel
theorem dX8_longestLate_2 : decode cX8_longestLate 2 = .ok (.iconst 0, 1) := by decide +kernel
theorem dX8_longestLate_3 : decode cX8_longestLate 3 = .ok (.istore_n 3, 1) := by decide +kernel
theorem dX8_longestLate_4 : decode cX8_longestLate 4 = .ok (.iload_n 3, 1) := by decide +kernel
theorem dX8_longestLate_5 : decode cX8_longestLate 5 = .ok (.aload_n 0, 1) := by decide +kernel
theorem dX8_longestLate_6 : decode cX8_longestLate 6 = .ok (.getfield 22, 3) := by decide +kernel
theorem dX8_longestLate_9 : decode cX8_longestLate 9 = .ok (.invokevirtual 59, 3) := by decide +kernel
theorem dX8_longestLate_12 : decode cX8_longestLate 12 = .ok (.if_icmp .ge 66, 3) := by decide +kernel
theorem dX8_longestLate_15 : decode cX8_longestLate 15 = .ok (.aload_n 0, 1) := by decide +kernel
theorem dX8_longestLate_16 : decode cX8_longestLate 16 = .ok (.getfield 22, 3) := by decide +kernel
theorem dX8_longestLate_19 : decode cX8_longestLate 19 = .ok (.iload_n 3, 1) := by decide +kernel
theorem dX8_longestLate_20 : decode cX8_longestLate 20 = .ok (.invokevirtual 119, 3) := by decide +kernel
theorem dX8_longestLate_23 : decode cX8_longestLate 23 = .ok (.checkcast 138, 3) := by decide +kernel
theorem dX8_longestLate_26 : decode cX8_longestLate 26 = .ok (.astore 4, 2) := by decide +kernel
theorem dX8_longestLate_28 : decode cX8_longestLate 28 = .ok (.aload 4, 2) := by decide +kernel
theorem dX8_longestLate_30 : decode cX8_longestLate 30 = .ok (.getfield 319, 3) := by decide +kernel
theorem dX8_longestLate_33 : decode cX8_longestLate 33 = .ok (.ifCond .ne 39, 3) := by decide +kernel
theorem dX8_longestLate_36 : decode cX8_longestLate 36 = .ok (.aload 4, 2) := by decide +kernel
theorem dX8_longestLate_38 : decode cX8_longestLate 38 = .ok (.getfield 175, 3) := by decide +kernel
theorem dX8_longestLate_41 : decode cX8_longestLate 41 = .ok (.aload_n 1, 1) := by decide +kernel
theorem dX8_longestLate_42 : decode cX8_longestLate 42 = .ok (.if_acmp .ne 30, 3) := by decide +kernel
theorem dX8_longestLate_45 : decode cX8_longestLate 45 = .ok (.aload 4, 2) := by decide +kernel
theorem dX8_longestLate_47 : decode cX8_longestLate 47 = .ok (.getfield 292, 3) := by decide +kernel
theorem dX8_longestLate_50 : decode cX8_longestLate 50 = .ok (.ifCond .eq 22, 3) := by decide +kernel
theorem dX8_longestLate_53 : decode cX8_longestLate 53 = .ok (.aload_n 2, 1) := by decide +kernel
theorem dX8_longestLate_54 : decode cX8_longestLate 54 = .ok (.ifnull 15, 3) := by decide +kernel
theorem dX8_longestLate_57 : decode cX8_longestLate 57 = .ok (.aload 4, 2) := by decide +kernel
theorem dX8_longestLate_59 : decode cX8_longestLate 59 = .ok (.getfield 349, 3) := by decide +kernel
theorem dX8_longestLate_62 : decode cX8_longestLate 62 = .ok (.aload_n 2, 1) := by decide +kernel
theorem dX8_longestLate_63 : decode cX8_longestLate 63 = .ok (.getfield 349, 3) := by decide +kernel
theorem dX8_longestLate_66 : decode cX8_longestLate 66 = .ok (.if_icmp .ge 6, 3) := by decide +kernel
theorem dX8_longestLate_69 : decode cX8_longestLate 69 = .ok (.aload 4, 2) := by decide +kernel
theorem dX8_longestLate_71 : decode cX8_longestLate 71 = .ok (.astore_n 2, 1) := by decide +kernel
theorem dX8_longestLate_72 : decode cX8_longestLate 72 = .ok (.iinc 3 1, 3) := by decide +kernel
theorem dX8_longestLate_75 : decode cX8_longestLate 75 = .ok (.goto (-71), 3) := by decide +kernel
theorem dX8_longestLate_78 : decode cX8_longestLate 78 = .ok (.aload_n 2, 1) := by decide +kernel
theorem dX8_longestLate_79 : decode cX8_longestLate 79 = .ok (.areturn, 1) := by decide +kernel
theorem dX8_firstWithMore_0 : decode cX8_firstWithMore 0 = .ok (.iconst 0, 1) := by decide +kernel
theorem dX8_firstWithMore_1 : decode cX8_firstWithMore 1 = .ok (.istore_n 2, 1) := by decide +kernel
theorem dX8_firstWithMore_2 : decode cX8_firstWithMore 2 = .ok (.iload_n 2, 1) := by decide +kernel
theorem dX8_firstWithMore_3 : decode cX8_firstWithMore 3 = .ok (.aload_n 0, 1) := by decide +kernel
theorem dX8_firstWithMore_4 : decode cX8_firstWithMore 4 = .ok (.getfield 22, 3) := by decide +kernel
theorem dX8_firstWithMore_7 : decode cX8_firstWithMore 7 = .ok (.invokevirtual 59, 3) := by decide +kernel
theorem dX8_firstWithMore_10 : decode cX8_firstWithMore 10 = .ok (.if_icmp .ge 52, 3) := by decide +kernel
theorem dX8_firstWithMore_13 : decode cX8_firstWithMore 13 = .ok (.aload_n 0, 1) := by decide +kernel
theorem dX8_firstWithMore_14 : decode cX8_firstWithMore 14 = .ok (.getfield 22, 3) := by decide +kernel
theorem dX8_firstWithMore_17 : decode cX8_firstWithMore 17 = .ok (.iload_n 2, 1) := by decide +kernel
theorem dX8_firstWithMore_18 : decode cX8_firstWithMore 18 = .ok (.invokevirtual 119, 3) := by decide +kernel
theorem dX8_firstWithMore_21 : decode cX8_firstWithMore 21 = .ok (.checkcast 138, 3) := by decide +kernel
theorem dX8_firstWithMore_24 : decode cX8_firstWithMore 24 = .ok (.astore_n 3, 1) := by decide +kernel
theorem dX8_firstWithMore_25 : decode cX8_firstWithMore 25 = .ok (.aload_n 3, 1) := by decide +kernel
theorem dX8_firstWithMore_26 : decode cX8_firstWithMore 26 = .ok (.getfield 319, 3) := by decide +kernel
theorem dX8_firstWithMore_29 : decode cX8_firstWithMore 29 = .ok (.ifCond .ne 27, 3) := by decide +kernel
theorem dX8_firstWithMore_32 : decode cX8_firstWithMore 32 = .ok (.aload_n 3, 1) := by decide +kernel
theorem dX8_firstWithMore_33 : decode cX8_firstWithMore 33 = .ok (.getfield 175, 3) := by decide +kernel
theorem dX8_firstWithMore_36 : decode cX8_firstWithMore 36 = .ok (.aload_n 1, 1) := by decide +kernel
theorem dX8_firstWithMore_37 : decode cX8_firstWithMore 37 = .ok (.if_acmp .ne 19, 3) := by decide +kernel
theorem dX8_firstWithMore_40 : decode cX8_firstWithMore 40 = .ok (.aload_n 3, 1) := by decide +kernel
theorem dX8_firstWithMore_41 : decode cX8_firstWithMore 41 = .ok (.getfield 348, 3) := by decide +kernel
theorem dX8_firstWithMore_44 : decode cX8_firstWithMore 44 = .ok (.ifCond .eq 12, 3) := by decide +kernel
theorem dX8_firstWithMore_47 : decode cX8_firstWithMore 47 = .ok (.aload_n 3, 1) := by decide +kernel
theorem dX8_firstWithMore_48 : decode cX8_firstWithMore 48 = .ok (.invokevirtual 297, 3) := by decide +kernel
theorem dX8_firstWithMore_51 : decode cX8_firstWithMore 51 = .ok (.ifCond .eq 5, 3) := by decide +kernel
theorem dX8_firstWithMore_54 : decode cX8_firstWithMore 54 = .ok (.aload_n 3, 1) := by decide +kernel
theorem dX8_firstWithMore_55 : decode cX8_firstWithMore 55 = .ok (.areturn, 1) := by decide +kernel
theorem dX8_firstWithMore_56 : decode cX8_firstWithMore 56 = .ok (.iinc 2 1, 3) := by decide +kernel
theorem dX8_firstWithMore_59 : decode cX8_firstWithMore 59 = .ok (.goto (-57), 3) := by decide +kernel
theorem dX8_firstWithMore_62 : decode cX8_firstWithMore 62 = .ok (.aconst_null, 1) := by decide +kernel
theorem dX8_firstWithMore_63 : decode cX8_firstWithMore 63 = .ok (.areturn, 1) := by decide +kernel
theorem dX9_init_0 : decode cX9_init 0 = .ok (.aload_n 0, 1) := by decide +kernel
theorem dX9_init_1 : decode cX9_init 1 = .ok (.invokespecial 1, 3) := by decide +kernel
theorem dX9_init_4 : decode cX9_init 4 = .ok (.aload_n 0, 1) := by decide +kernel
theorem dX9_init_5 : decode cX9_init 5 = .ok (.bipush 40, 2) := by decide +kernel
theorem dX9_init_7 : decode cX9_init 7 = .ok (.newarray .int, 2) := by decide +kernel
theorem dX9_init_9 : decode cX9_init 9 = .ok (.putfield 7, 3) := by decide +kernel
theorem dX9_init_12 : decode cX9_init 12 = .ok (.aload_n 0, 1) := by decide +kernel
theorem dX9_init_13 : decode cX9_init 13 = .ok (.bipush 40, 2) := by decide +kernel
theorem dX9_init_15 : decode cX9_init 15 = .ok (.newarray .long, 2) := by decide +kernel
theorem dX9_init_17 : decode cX9_init 17 = .ok (.putfield 13, 3) := by decide +kernel
theorem dX9_init_20 : decode cX9_init 20 = .ok (.aload_n 0, 1) := by decide +kernel
theorem dX9_init_21 : decode cX9_init 21 = .ok (.bipush 100, 2) := by decide +kernel
theorem dX9_init_23 : decode cX9_init 23 = .ok (.newarray .int, 2) := by decide +kernel
theorem dX9_init_25 : decode cX9_init 25 = .ok (.putfield 17, 3) := by decide +kernel
theorem dX9_init_28 : decode cX9_init 28 = .ok (.aload_n 0, 1) := by decide +kernel
theorem dX9_init_29 : decode cX9_init 29 = .ok (.bipush 100, 2) := by decide +kernel
theorem dX9_init_31 : decode cX9_init 31 = .ok (.newarray .int, 2) := by decide +kernel
theorem dX9_init_33 : decode cX9_init 33 = .ok (.putfield 20, 3) := by decide +kernel
theorem dX9_init_36 : decode cX9_init 36 = .ok (.aload_n 0, 1) := by decide +kernel
theorem dX9_init_37 : decode cX9_init 37 = .ok (.bipush 100, 2) := by decide +kernel
theorem dX9_init_39 : decode cX9_init 39 = .ok (.newarray .int, 2) := by decide +kernel
theorem dX9_init_41 : decode cX9_init 41 = .ok (.putfield 23, 3) := by decide +kernel
theorem dX9_init_44 : decode cX9_init 44 = .ok (.aload_n 0, 1) := by decide +kernel
theorem dX9_init_45 : decode cX9_init 45 = .ok (.bipush 12, 2) := by decide +kernel
theorem dX9_init_47 : decode cX9_init 47 = .ok (.newarray .int, 2) := by decide +kernel
theorem dX9_init_49 : decode cX9_init 49 = .ok (.putfield 26, 3) := by decide +kernel
theorem dX9_init_52 : decode cX9_init 52 = .ok (.aload_n 0, 1) := by decide +kernel
theorem dX9_init_53 : decode cX9_init 53 = .ok (.bipush 12, 2) := by decide +kernel
theorem dX9_init_55 : decode cX9_init 55 = .ok (.newarray .int, 2) := by decide +kernel
theorem dX9_init_57 : decode cX9_init 57 = .ok (.putfield 29, 3) := by decide +kernel
theorem dX9_init_60 : decode cX9_init 60 = .ok (.aload_n 0, 1) := by decide +kernel
theorem dX9_init_61 : decode cX9_init 61 = .ok (.bipush 12, 2) := by decide +kernel
theorem dX9_init_63 : decode cX9_init 63 = .ok (.newarray .int, 2) := by decide +kernel
theorem dX9_init_65 : decode cX9_init 65 = .ok (.putfield 32, 3) := by decide +kernel
theorem dX9_init_68 : decode cX9_init 68 = .ok (.aload_n 0, 1) := by decide +kernel
theorem dX9_init_69 : decode cX9_init 69 = .ok (.bipush 12, 2) := by decide +kernel
theorem dX9_init_71 : decode cX9_init 71 = .ok (.newarray .int, 2) := by decide +kernel
theorem dX9_init_73 : decode cX9_init 73 = .ok (.putfield 35, 3) := by decide +kernel
theorem dX9_init_76 : decode cX9_init 76 = .ok (.aload_n 0, 1) := by decide +kernel
theorem dX9_init_77 : decode cX9_init 77 = .ok (.bipush 12, 2) := by decide +kernel
theorem dX9_init_79 : decode cX9_init 79 = .ok (.newarray .int, 2) := by decide +kernel
theorem dX9_init_81 : decode cX9_init 81 = .ok (.putfield 38, 3) := by decide +kernel
theorem dX9_init_84 : decode cX9_init 84 = .ok (.aload_n 0, 1) := by decide +kernel
theorem dX9_init_85 : decode cX9_init 85 = .ok (.sipush 14400, 3) := by decide +kernel
theorem dX9_init_88 : decode cX9_init 88 = .ok (.newarray .int, 2) := by decide +kernel
theorem dX9_init_90 : decode cX9_init 90 = .ok (.putfield 41, 3) := by decide +kernel
theorem dX9_init_93 : decode cX9_init 93 = .ok (.aload_n 0, 1) := by decide +kernel
theorem dX9_init_94 : decode cX9_init 94 = .ok (.bipush 20, 2) := by decide +kernel
theorem dX9_init_96 : decode cX9_init 96 = .ok (.newarray .boolean, 2) := by decide +kernel
theorem dX9_init_98 : decode cX9_init 98 = .ok (.putfield 44, 3) := by decide +kernel
theorem dX9_init_101 : decode cX9_init 101 = .ok (.aload_n 0, 1) := by decide +kernel
theorem dX9_init_102 : decode cX9_init 102 = .ok (.bipush 20, 2) := by decide +kernel
theorem dX9_init_104 : decode cX9_init 104 = .ok (.newarray .int, 2) := by decide +kernel
theorem dX9_init_106 : decode cX9_init 106 = .ok (.putfield 48, 3) := by decide +kernel
theorem dX9_init_109 : decode cX9_init 109 = .ok (.aload_n 0, 1) := by decide +kernel
theorem dX9_init_110 : decode cX9_init 110 = .ok (.bipush 20, 2) := by decide +kernel
theorem dX9_init_112 : decode cX9_init 112 = .ok (.newarray .int, 2) := by decide +kernel
theorem dX9_init_114 : decode cX9_init 114 = .ok (.putfield 51, 3) := by decide +kernel
theorem dX9_init_117 : decode cX9_init 117 = .ok (.aload_n 0, 1) := by decide +kernel
theorem dX9_init_118 : decode cX9_init 118 = .ok (.bipush 20, 2) := by decide +kernel
theorem dX9_init_120 : decode cX9_init 120 = .ok (.newarray .int, 2) := by decide +kernel
theorem dX9_init_122 : decode cX9_init 122 = .ok (.putfield 54, 3) := by decide +kernel
theorem dX9_init_125 : decode cX9_init 125 = .ok (.aload_n 0, 1) := by decide +kernel
theorem dX9_init_126 : decode cX9_init 126 = .ok (.bipush 20, 2) := by decide +kernel
theorem dX9_init_128 : decode cX9_init 128 = .ok (.newarray .int, 2) := by decide +kernel
theorem dX9_init_130 : decode cX9_init 130 = .ok (.putfield 57, 3) := by decide +kernel
theorem dX9_init_133 : decode cX9_init 133 = .ok (.aload_n 0, 1) := by decide +kernel
theorem dX9_init_134 : decode cX9_init 134 = .ok (.bipush 20, 2) := by decide +kernel
theorem dX9_init_136 : decode cX9_init 136 = .ok (.newarray .int, 2) := by decide +kernel
theorem dX9_init_138 : decode cX9_init 138 = .ok (.putfield 60, 3) := by decide +kernel
theorem dX9_init_141 : decode cX9_init 141 = .ok (.aload_n 0, 1) := by decide +kernel
theorem dX9_init_142 : decode cX9_init 142 = .ok (.bipush 20, 2) := by decide +kernel
theorem dX9_init_144 : decode cX9_init 144 = .ok (.newarray .int, 2) := by decide +kernel
theorem dX9_init_146 : decode cX9_init 146 = .ok (.putfield 63, 3) := by decide +kernel
theorem dX9_init_149 : decode cX9_init 149 = .ok (.aload_n 0, 1) := by decide +kernel
theorem dX9_init_150 : decode cX9_init 150 = .ok (.bipush 20, 2) := by decide +kernel
theorem dX9_init_152 : decode cX9_init 152 = .ok (.newarray .boolean, 2) := by decide +kernel
theorem dX9_init_154 : decode cX9_init 154 = .ok (.putfield 66, 3) := by decide +kernel
theorem dX9_init_157 : decode cX9_init 157 = .ok (.aload_n 0, 1) := by decide +kernel
theorem dX9_init_158 : decode cX9_init 158 = .ok (.bipush 20, 2) := by decide +kernel
theorem dX9_init_160 : decode cX9_init 160 = .ok (.newarray .int, 2) := by decide +kernel
theorem dX9_init_162 : decode cX9_init 162 = .ok (.putfield 69, 3) := by decide +kernel
theorem dX9_init_165 : decode cX9_init 165 = .ok (.aload_n 0, 1) := by decide +kernel
theorem dX9_init_166 : decode cX9_init 166 = .ok (.bipush 20, 2) := by decide +kernel
theorem dX9_init_168 : decode cX9_init 168 = .ok (.newarray .int, 2) := by decide +kernel
theorem dX9_init_170 : decode cX9_init 170 = .ok (.putfield 72, 3) := by decide +kernel
theorem dX9_init_173 : decode cX9_init 173 = .ok (.aload_n 0, 1) := by decide +kernel
theorem dX9_init_174 : decode cX9_init 174 = .ok (.bipush 20, 2) := by decide +kernel
theorem dX9_init_176 : decode cX9_init 176 = .ok (.newarray .int, 2) := by decide +kernel
theorem dX9_init_178 : decode cX9_init 178 = .ok (.putfield 75, 3) := by decide +kernel
theorem dX9_init_181 : decode cX9_init 181 = .ok (.aload_n 0, 1) := by decide +kernel
theorem dX9_init_182 : decode cX9_init 182 = .ok (.bipush 20, 2) := by decide +kernel
theorem dX9_init_184 : decode cX9_init 184 = .ok (.newarray .boolean, 2) := by decide +kernel
theorem dX9_init_186 : decode cX9_init 186 = .ok (.putfield 78, 3) := by decide +kernel
theorem dX9_init_189 : decode cX9_init 189 = .ok (.aload_n 0, 1) := by decide +kernel
theorem dX9_init_190 : decode cX9_init 190 = .ok (.bipush 20, 2) := by decide +kernel
theorem dX9_init_192 : decode cX9_init 192 = .ok (.newarray .boolean, 2) := by decide +kernel
theorem dX9_init_194 : decode cX9_init 194 = .ok (.putfield 81, 3) := by decide +kernel
theorem dX9_init_197 : decode cX9_init 197 = .ok (.aload_n 0, 1) := by decide +kernel
theorem dX9_init_198 : decode cX9_init 198 = .ok (.bipush 20, 2) := by decide +kernel
theorem dX9_init_200 : decode cX9_init 200 = .ok (.newarray .int, 2) := by decide +kernel
theorem dX9_init_202 : decode cX9_init 202 = .ok (.putfield 84, 3) := by decide +kernel
theorem dX9_init_205 : decode cX9_init 205 = .ok (.aload_n 0, 1) := by decide +kernel
theorem dX9_init_206 : decode cX9_init 206 = .ok (.bipush 20, 2) := by decide +kernel
theorem dX9_init_208 : decode cX9_init 208 = .ok (.newarray .boolean, 2) := by decide +kernel
theorem dX9_init_210 : decode cX9_init 210 = .ok (.putfield 87, 3) := by decide +kernel
theorem dX9_init_213 : decode cX9_init 213 = .ok (.aload_n 0, 1) := by decide +kernel
theorem dX9_init_214 : decode cX9_init 214 = .ok (.bipush 60, 2) := by decide +kernel
theorem dX9_init_216 : decode cX9_init 216 = .ok (.newarray .boolean, 2) := by decide +kernel
theorem dX9_init_218 : decode cX9_init 218 = .ok (.putfield 90, 3) := by decide +kernel
theorem dX9_init_221 : decode cX9_init 221 = .ok (.aload_n 0, 1) := by decide +kernel
theorem dX9_init_222 : decode cX9_init 222 = .ok (.bipush 60, 2) := by decide +kernel
theorem dX9_init_224 : decode cX9_init 224 = .ok (.newarray .int, 2) := by decide +kernel
theorem dX9_init_226 : decode cX9_init 226 = .ok (.putfield 93, 3) := by decide +kernel
theorem dX9_init_229 : decode cX9_init 229 = .ok (.aload_n 0, 1) := by decide +kernel
theorem dX9_init_230 : decode cX9_init 230 = .ok (.bipush 60, 2) := by decide +kernel
theorem dX9_init_232 : decode cX9_init 232 = .ok (.newarray .int, 2) := by decide +kernel
theorem dX9_init_234 : decode cX9_init 234 = .ok (.putfield 96, 3) := by decide +kernel
theorem dX9_init_237 : decode cX9_init 237 = .ok (.aload_n 0, 1) := by decide +kernel
theorem dX9_init_238 : decode cX9_init 238 = .ok (.bipush 60, 2) := by decide +kernel
theorem dX9_init_240 : decode cX9_init 240 = .ok (.newarray .int, 2) := by decide +kernel
theorem dX9_init_242 : decode cX9_init 242 = .ok (.putfield 99, 3) := by decide +kernel
theorem dX9_init_245 : decode cX9_init 245 = .ok (.aload_n 0, 1) := by decide +kernel
theorem dX9_init_246 : decode cX9_init 246 = .ok (.bipush 60, 2) := by decide +kernel
theorem dX9_init_248 : decode cX9_init 248 = .ok (.newarray .int, 2) := by decide +kernel
theorem dX9_init_250 : decode cX9_init 250 = .ok (.putfield 102, 3) := by decide +kernel
theorem dX9_init_253 : decode cX9_init 253 = .ok (.aload_n 0, 1) := by decide +kernel
theorem dX9_init_254 : decode cX9_init 254 = .ok (.bipush 60, 2) := by decide +kernel
theorem dX9_init_256 : decode cX9_init 256 = .ok (.newarray .int, 2) := by decide +kernel
theorem dX9_init_258 : decode cX9_init 258 = .ok (.putfield 105, 3) := by decide +kernel
theorem dX9_init_261 : decode cX9_init 261 = .ok (.aload_n 0, 1) := by decide +kernel
theorem dX9_init_262 : decode cX9_init 262 = .ok (.bipush 60, 2) := by decide +kernel
theorem dX9_init_264 : decode cX9_init 264 = .ok (.newarray .boolean, 2) := by decide +kernel
theorem dX9_init_266 : decode cX9_init 266 = .ok (.putfield 108, 3) := by decide +kernel
theorem dX9_init_269 : decode cX9_init 269 = .ok (.aload_n 0, 1) := by decide +kernel
theorem dX9_init_270 : decode cX9_init 270 = .ok (.bipush 60, 2) := by decide +kernel
theorem dX9_init_272 : decode cX9_init 272 = .ok (.newarray .int, 2) := by decide +kernel
theorem dX9_init_274 : decode cX9_init 274 = .ok (.putfield 111, 3) := by decide +kernel
theorem dX9_init_277 : decode cX9_init 277 = .ok (.aload_n 0, 1) := by decide +kernel
theorem dX9_init_278 : decode cX9_init 278 = .ok (.bipush 60, 2) := by decide +kernel
theorem dX9_init_280 : decode cX9_init 280 = .ok (.newarray .long, 2) := by decide +kernel
theorem dX9_init_282 : decode cX9_init 282 = .ok (.putfield 114, 3) := by decide +kernel
theorem dX9_init_285 : decode cX9_init 285 = .ok (.aload_n 0, 1) := by decide +kernel
theorem dX9_init_286 : decode cX9_init 286 = .ok (.bipush 60, 2) := by decide +kernel
theorem dX9_init_288 : decode cX9_init 288 = .ok (.newarray .boolean, 2) := by decide +kernel
theorem dX9_init_290 : decode cX9_init 290 = .ok (.putfield 117, 3) := by decide +kernel
theorem dX9_init_293 : decode cX9_init 293 = .ok (.aload_n 0, 1) := by decide +kernel
theorem dX9_init_294 : decode cX9_init 294 = .ok (.bipush 60, 2) := by decide +kernel
theorem dX9_init_296 : decode cX9_init 296 = .ok (.newarray .long, 2) := by decide +kernel
theorem dX9_init_298 : decode cX9_init 298 = .ok (.putfield 120, 3) := by decide +kernel
theorem dX9_init_301 : decode cX9_init 301 = .ok (.aload_n 0, 1) := by decide +kernel
theorem dX9_init_302 : decode cX9_init 302 = .ok (.bipush 60, 2) := by decide +kernel
theorem dX9_init_304 : decode cX9_init 304 = .ok (.newarray .int, 2) := by decide +kernel
theorem dX9_init_306 : decode cX9_init 306 = .ok (.putfield 123, 3) := by decide +kernel
theorem dX9_init_309 : decode cX9_init 309 = .ok (.aload_n 0, 1) := by decide +kernel
theorem dX9_init_310 : decode cX9_init 310 = .ok (.sipush 480, 3) := by decide +kernel
theorem dX9_init_313 : decode cX9_init 313 = .ok (.newarray .long, 2) := by decide +kernel
theorem dX9_init_315 : decode cX9_init 315 = .ok (.putfield 126, 3) := by decide +kernel
theorem dX9_init_318 : decode cX9_init 318 = .ok (.aload_n 0, 1) := by decide +kernel
theorem dX9_init_319 : decode cX9_init 319 = .ok (.sipush 480, 3) := by decide +kernel
theorem dX9_init_322 : decode cX9_init 322 = .ok (.newarray .int, 2) := by decide +kernel
theorem dX9_init_324 : decode cX9_init 324 = .ok (.putfield 129, 3) := by decide +kernel
theorem dX9_init_327 : decode cX9_init 327 = .ok (.aload_n 0, 1) := by decide +kernel
theorem dX9_init_328 : decode cX9_init 328 = .ok (.sipush 480, 3) := by decide +kernel
theorem dX9_init_331 : decode cX9_init 331 = .ok (.newarray .int, 2) := by decide +kernel
theorem dX9_init_333 : decode cX9_init 333 = .ok (.putfield 132, 3) := by decide +kernel
theorem dX9_init_336 : decode cX9_init 336 = .ok (.aload_n 0, 1) := by decide +kernel
theorem dX9_init_337 : decode cX9_init 337 = .ok (.sipush 900, 3) := by decide +kernel
theorem dX9_init_340 : decode cX9_init 340 = .ok (.newarray .int, 2) := by decide +kernel
theorem dX9_init_342 : decode cX9_init 342 = .ok (.putfield 135, 3) := by decide +kernel
theorem dX9_init_345 : decode cX9_init 345 = .ok (.aload_n 0, 1) := by decide +kernel
theorem dX9_init_346 : decode cX9_init 346 = .ok (.sipush 900, 3) := by decide +kernel
theorem dX9_init_349 : decode cX9_init 349 = .ok (.newarray .int, 2) := by decide +kernel
theorem dX9_init_351 : decode cX9_init 351 = .ok (.putfield 138, 3) := by decide +kernel
theorem dX9_init_354 : decode cX9_init 354 = .ok (.aload_n 0, 1) := by decide +kernel
theorem dX9_init_355 : decode cX9_init 355 = .ok (.sipush 900, 3) := by decide +kernel
theorem dX9_init_358 : decode cX9_init 358 = .ok (.newarray .int, 2) := by decide +kernel
theorem dX9_init_360 : decode cX9_init 360 = .ok (.putfield 141, 3) := by decide +kernel
theorem dX9_init_363 : decode cX9_init 363 = .ok (.aload_n 0, 1) := by decide +kernel
theorem dX9_init_364 : decode cX9_init 364 = .ok (.sipush 900, 3) := by decide +kernel
theorem dX9_init_367 : decode cX9_init 367 = .ok (.newarray .boolean, 2) := by decide +kernel
theorem dX9_init_369 : decode cX9_init 369 = .ok (.putfield 144, 3) := by decide +kernel
theorem dX9_init_372 : decode cX9_init 372 = .ok (.aload_n 0, 1) := by decide +kernel
theorem dX9_init_373 : decode cX9_init 373 = .ok (.sipush 900, 3) := by decide +kernel
theorem dX9_init_376 : decode cX9_init 376 = .ok (.newarray .int, 2) := by decide +kernel
theorem dX9_init_378 : decode cX9_init 378 = .ok (.putfield 147, 3) := by decide +kernel
theorem dX9_init_381 : decode cX9_init 381 = .ok (.aload_n 0, 1) := by decide +kernel
theorem dX9_init_382 : decode cX9_init 382 = .ok (.sipush 900, 3) := by decide +kernel
theorem dX9_init_385 : decode cX9_init 385 = .ok (.newarray .boolean, 2) := by decide +kernel
theorem dX9_init_387 : decode cX9_init 387 = .ok (.putfield 150, 3) := by decide +kernel
theorem dX9_init_390 : decode cX9_init 390 = .ok (.aload_n 0, 1) := by decide +kernel
theorem dX9_init_391 : decode cX9_init 391 = .ok (.ldc 153, 2) := by decide +kernel
theorem dX9_init_393 : decode cX9_init 393 = .ok (.newarray .long, 2) := by decide +kernel
theorem dX9_init_395 : decode cX9_init 395 = .ok (.putfield 154, 3) := by decide +kernel
theorem dX9_init_398 : decode cX9_init 398 = .ok (.aload_n 0, 1) := by decide +kernel
theorem dX9_init_399 : decode cX9_init 399 = .ok (.ldc 153, 2) := by decide +kernel
theorem dX9_init_401 : decode cX9_init 401 = .ok (.newarray .int, 2) := by decide +kernel
theorem dX9_init_403 : decode cX9_init 403 = .ok (.putfield 157, 3) := by decide +kernel
theorem dX9_init_406 : decode cX9_init 406 = .ok (.aload_n 0, 1) := by decide +kernel
theorem dX9_init_407 : decode cX9_init 407 = .ok (.ldc 153, 2) := by decide +kernel
theorem dX9_init_409 : decode cX9_init 409 = .ok (.newarray .int, 2) := by decide +kernel
theorem dX9_init_411 : decode cX9_init 411 = .ok (.putfield 160, 3) := by decide +kernel
theorem dX9_init_414 : decode cX9_init 414 = .ok (.aload_n 0, 1) := by decide +kernel
theorem dX9_init_415 : decode cX9_init 415 = .ok (.ldc 153, 2) := by decide +kernel
theorem dX9_init_417 : decode cX9_init 417 = .ok (.newarray .int, 2) := by decide +kernel
theorem dX9_init_419 : decode cX9_init 419 = .ok (.putfield 163, 3) := by decide +kernel
theorem dX9_init_422 : decode cX9_init 422 = .ok (.aload_n 0, 1) := by decide +kernel
theorem dX9_init_423 : decode cX9_init 423 = .ok (.bipush 10, 2) := by decide +kernel
theorem dX9_init_425 : decode cX9_init 425 = .ok (.newarray .int, 2) := by decide +kernel
theorem dX9_init_427 : decode cX9_init 427 = .ok (.putfield 166, 3) := by decide +kernel
theorem dX9_init_430 : decode cX9_init 430 = .ok (.return_, 1) := by decide +kernel
theorem dX9_in_0 : decode cX9_in 0 = .ok (.lload_n 0, 1) := by decide +kernel
theorem dX9_in_1 : decode cX9_in 1 = .ok (.lload_n 2, 1) := by decide +kernel
theorem dX9_in_2 : decode cX9_in 2 = .ok (.lcmp, 1) := by decide +kernel
theorem dX9_in_3 : decode cX9_in 3 = .ok (.ifCond .lt 14, 3) := by decide +kernel
theorem dX9_in_6 : decode cX9_in 6 = .ok (.lload_n 0, 1) := by decide +kernel
theorem dX9_in_7 : decode cX9_in 7 = .ok (.lload 4, 2) := by decide +kernel
theorem dX9_in_9 : decode cX9_in 9 = .ok (.lcmp, 1) := by decide +kernel
theorem dX9_in_10 : decode cX9_in 10 = .ok (.ifCond .gt 7, 3) := by decide +kernel
theorem dX9_in_13 : decode cX9_in 13 = .ok (.iconst 1, 1) := by decide +kernel
theorem dX9_in_14 : decode cX9_in 14 = .ok (.goto 4, 3) := by decide +kernel
theorem dX9_in_17 : decode cX9_in 17 = .ok (.iconst 0, 1) := by decide +kernel
theorem dX9_in_18 : decode cX9_in 18 = .ok (.ireturn, 1) := by decide +kernel
theorem dX9_refuse_0 : decode cX9_refuse 0 = .ok (.aload_n 0, 1) := by decide +kernel
theorem dX9_refuse_1 : decode cX9_refuse 1 = .ok (.getfield 166, 3) := by decide +kernel
theorem dX9_refuse_4 : decode cX9_refuse 4 = .ok (.iload_n 1, 1) := by decide +kernel
theorem dX9_refuse_5 : decode cX9_refuse 5 = .ok (.ineg, 1) := by decide +kernel
theorem dX9_refuse_6 : decode cX9_refuse 6 = .ok (.dup2, 1) := by decide +kernel
theorem dX9_refuse_7 : decode cX9_refuse 7 = .ok (.iaload, 1) := by decide +kernel
theorem dX9_refuse_8 : decode cX9_refuse 8 = .ok (.iconst 1, 1) := by decide +kernel
theorem dX9_refuse_9 : decode cX9_refuse 9 = .ok (.iadd, 1) := by decide +kernel
theorem dX9_refuse_10 : decode cX9_refuse 10 = .ok (.iastore, 1) := by decide +kernel
theorem dX9_refuse_11 : decode cX9_refuse 11 = .ok (.iload_n 1, 1) := by decide +kernel
theorem dX9_refuse_12 : decode cX9_refuse 12 = .ok (.ireturn, 1) := by decide +kernel
theorem dX9_node_0 : decode cX9_node 0 = .ok (.iload_n 1, 1) := by decide +kernel
theorem dX9_node_1 : decode cX9_node 1 = .ok (.i2l, 1) := by decide +kernel
theorem dX9_node_2 : decode cX9_node 2 = .ok (.lconst 0, 1) := by decide +kernel
theorem dX9_node_3 : decode cX9_node 3 = .ok (.ldc2_w 169, 3) := by decide +kernel
theorem dX9_node_6 : decode cX9_node 6 = .ok (.invokestatic 171, 3) := by decide +kernel
theorem dX9_node_9 : decode cX9_node 9 = .ok (.ifCond .ne 10, 3) := by decide +kernel
theorem dX9_node_12 : decode cX9_node 12 = .ok (.aload_n 0, 1) := by decide +kernel
theorem dX9_node_13 : decode cX9_node 13 = .ok (.bipush (-7), 2) := by decide +kernel
theorem dX9_node_15 : decode cX9_node 15 = .ok (.invokevirtual 175, 3) := by decide +kernel
theorem dX9_node_18 : decode cX9_node 18 = .ok (.ireturn, 1) := by decide +kernel
theorem dX9_node_19 : decode cX9_node 19 = .ok (.aload_n 0, 1) := by decide +kernel
theorem dX9_node_20 : decode cX9_node 20 = .ok (.getfield 179, 3) := by decide +kernel
theorem dX9_node_23 : decode cX9_node 23 = .ok (.bipush 40, 2) := by decide +kernel
theorem dX9_node_25 : decode cX9_node 25 = .ok (.if_icmp .ne 10, 3) := by decide +kernel
theorem dX9_node_28 : decode cX9_node 28 = .ok (.aload_n 0, 1) := by decide +kernel
theorem dX9_node_29 : decode cX9_node 29 = .ok (.bipush (-8), 2) := by decide +kernel
theorem dX9_node_31 : decode cX9_node 31 = .ok (.invokevirtual 175, 3) := by decide +kernel
theorem dX9_node_34 : decode cX9_node 34 = .ok (.ireturn, 1) := by decide +kernel
theorem dX9_node_35 : decode cX9_node 35 = .ok (.aload_n 0, 1) := by decide +kernel
theorem dX9_node_36 : decode cX9_node 36 = .ok (.getfield 7, 3) := by decide +kernel
theorem dX9_node_39 : decode cX9_node 39 = .ok (.aload_n 0, 1) := by decide +kernel
theorem dX9_node_40 : decode cX9_node 40 = .ok (.getfield 179, 3) := by decide +kernel
theorem dX9_node_43 : decode cX9_node 43 = .ok (.iload_n 1, 1) := by decide +kernel
theorem dX9_node_44 : decode cX9_node 44 = .ok (.iastore, 1) := by decide +kernel
theorem dX9_node_45 : decode cX9_node 45 = .ok (.aload_n 0, 1) := by decide +kernel
theorem dX9_node_46 : decode cX9_node 46 = .ok (.dup, 1) := by decide +kernel
theorem dX9_node_47 : decode cX9_node 47 = .ok (.getfield 179, 3) := by decide +kernel
theorem dX9_node_50 : decode cX9_node 50 = .ok (.iconst 1, 1) := by decide +kernel
theorem dX9_node_51 : decode cX9_node 51 = .ok (.iadd, 1) := by decide +kernel
theorem dX9_node_52 : decode cX9_node 52 = .ok (.putfield 179, 3) := by decide +kernel
theorem dX9_node_55 : decode cX9_node 55 = .ok (.aload_n 0, 1) := by decide +kernel
theorem dX9_node_56 : decode cX9_node 56 = .ok (.getfield 179, 3) := by decide +kernel
theorem dX9_node_59 : decode cX9_node 59 = .ok (.iconst 1, 1) := by decide +kernel
theorem dX9_node_60 : decode cX9_node 60 = .ok (.isub, 1) := by decide +kernel
theorem dX9_node_61 : decode cX9_node 61 = .ok (.ireturn, 1) := by decide +kernel
theorem dX9_isNode_0 : decode cX9_isNode 0 = .ok (.iload_n 1, 1) := by decide +kernel
theorem dX9_isNode_1 : decode cX9_isNode 1 = .ok (.i2l, 1) := by decide +kernel
theorem dX9_isNode_2 : decode cX9_isNode 2 = .ok (.lconst 0, 1) := by decide +kernel
theorem dX9_isNode_3 : decode cX9_isNode 3 = .ok (.aload_n 0, 1) := by decide +kernel
theorem dX9_isNode_4 : decode cX9_isNode 4 = .ok (.getfield 179, 3) := by decide +kernel
theorem dX9_isNode_7 : decode cX9_isNode 7 = .ok (.iconst 1, 1) := by decide +kernel
theorem dX9_isNode_8 : decode cX9_isNode 8 = .ok (.isub, 1) := by decide +kernel
theorem dX9_isNode_9 : decode cX9_isNode 9 = .ok (.i2l, 1) := by decide +kernel
theorem dX9_isNode_10 : decode cX9_isNode 10 = .ok (.invokestatic 171, 3) := by decide +kernel
theorem dX9_isNode_13 : decode cX9_isNode 13 = .ok (.ireturn, 1) := by decide +kernel
theorem dX9_isVariable_0 : decode cX9_isVariable 0 = .ok (.aload_n 0, 1) := by decide +kernel
theorem dX9_isVariable_1 : decode cX9_isVariable 1 = .ok (.iload_n 1, 1) := by decide +kernel
theorem dX9_isVariable_2 : decode cX9_isVariable 2 = .ok (.invokevirtual 183, 3) := by decide +kernel
theorem dX9_isVariable_5 : decode cX9_isVariable 5 = .ok (.ifCond .eq 16, 3) := by decide +kernel
theorem dX9_isVariable_8 : decode cX9_isVariable 8 = .ok (.aload_n 0, 1) := by decide +kernel
theorem dX9_isVariable_9 : decode cX9_isVariable 9 = .ok (.getfield 7, 3) := by decide +kernel
theorem dX9_isVariable_12 : decode cX9_isVariable 12 = .ok (.iload_n 1, 1) := by decide +kernel
theorem dX9_isVariable_13 : decode cX9_isVariable 13 = .ok (.iaload, 1) := by decide +kernel
theorem dX9_isVariable_14 : decode cX9_isVariable 14 = .ok (.ifCond .le 7, 3) := by decide +kernel
theorem dX9_isVariable_17 : decode cX9_isVariable 17 = .ok (.iconst 1, 1) := by decide +kernel
theorem dX9_isVariable_18 : decode cX9_isVariable 18 = .ok (.goto 4, 3) := by decide +kernel
theorem dX9_isVariable_21 : decode cX9_isVariable 21 = .ok (.iconst 0, 1) := by decide +kernel
theorem dX9_isVariable_22 : decode cX9_isVariable 22 = .ok (.ireturn, 1) := by decide +kernel
theorem dX9_refer_0 : decode cX9_refer 0 = .ok (.aload_n 0, 1) := by decide +kernel
theorem dX9_refer_1 : decode cX9_refer 1 = .ok (.iload_n 1, 1) := by decide +kernel
theorem dX9_refer_2 : decode cX9_refer 2 = .ok (.invokevirtual 183, 3) := by decide +kernel
theorem dX9_refer_5 : decode cX9_refer 5 = .ok (.ifCond .eq 11, 3) := by decide +kernel
theorem dX9_refer_8 : decode cX9_refer 8 = .ok (.aload_n 0, 1) := by decide +kernel
theorem dX9_refer_9 : decode cX9_refer 9 = .ok (.iload_n 2, 1) := by decide +kernel
theorem dX9_refer_10 : decode cX9_refer 10 = .ok (.invokevirtual 183, 3) := by decide +kernel
theorem dX9_refer_13 : decode cX9_refer 13 = .ok (.ifCond .ne 10, 3) := by decide +kernel
theorem dX9_refer_16 : decode cX9_refer 16 = .ok (.aload_n 0, 1) := by decide +kernel
theorem dX9_refer_17 : decode cX9_refer 17 = .ok (.bipush (-4), 2) := by decide +kernel
theorem dX9_refer_19 : decode cX9_refer 19 = .ok (.invokevirtual 175, 3) := by decide +kernel
theorem dX9_refer_22 : decode cX9_refer 22 = .ok (.ireturn, 1) := by decide +kernel
theorem dX9_refer_23 : decode cX9_refer 23 = .ok (.iload_n 3, 1) := by decide +kernel
theorem dX9_refer_24 : decode cX9_refer 24 = .ok (.i2l, 1) := by decide +kernel
theorem dX9_refer_25 : decode cX9_refer 25 = .ok (.lconst 0, 1) := by decide +kernel
theorem dX9_refer_26 : decode cX9_refer 26 = .ok (.ldc2_w 187, 3) := by decide +kernel
theorem dX9_refer_29 : decode cX9_refer 29 = .ok (.invokestatic 171, 3) := by decide +kernel
theorem dX9_refer_32 : decode cX9_refer 32 = .ok (.ifCond .ne 10, 3) := by decide +kernel
theorem dX9_refer_35 : decode cX9_refer 35 = .ok (.aload_n 0, 1) := by decide +kernel
theorem dX9_refer_36 : decode cX9_refer 36 = .ok (.bipush (-7), 2) := by decide +kernel
theorem dX9_refer_38 : decode cX9_refer 38 = .ok (.invokevirtual 175, 3) := by decide +kernel
theorem dX9_refer_41 : decode cX9_refer 41 = .ok (.ireturn, 1) := by decide +kernel
theorem dX9_refer_42 : decode cX9_refer 42 = .ok (.aload_n 0, 1) := by decide +kernel
theorem dX9_refer_43 : decode cX9_refer 43 = .ok (.getfield 189, 3) := by decide +kernel
theorem dX9_refer_46 : decode cX9_refer 46 = .ok (.bipush 100, 2) := by decide +kernel
theorem dX9_refer_48 : decode cX9_refer 48 = .ok (.if_icmp .ne 10, 3) := by decide +kernel
theorem dX9_refer_51 : decode cX9_refer 51 = .ok (.aload_n 0, 1) := by decide +kernel
theorem dX9_refer_52 : decode cX9_refer 52 = .ok (.bipush (-8), 2) := by decide +kernel
theorem dX9_refer_54 : decode cX9_refer 54 = .ok (.invokevirtual 175, 3) := by decide +kernel
theorem dX9_refer_57 : decode cX9_refer 57 = .ok (.ireturn, 1) := by decide +kernel
theorem dX9_refer_58 : decode cX9_refer 58 = .ok (.aload_n 0, 1) := by decide +kernel
theorem dX9_refer_59 : decode cX9_refer 59 = .ok (.getfield 17, 3) := by decide +kernel
theorem dX9_refer_62 : decode cX9_refer 62 = .ok (.aload_n 0, 1) := by decide +kernel
theorem dX9_refer_63 : decode cX9_refer 63 = .ok (.getfield 189, 3) := by decide +kernel
theorem dX9_refer_66 : decode cX9_refer 66 = .ok (.iload_n 1, 1) := by decide +kernel
theorem dX9_refer_67 : decode cX9_refer 67 = .ok (.iastore, 1) := by decide +kernel
theorem dX9_refer_68 : decode cX9_refer 68 = .ok (.aload_n 0, 1) := by decide +kernel
theorem dX9_refer_69 : decode cX9_refer 69 = .ok (.getfield 20, 3) := by decide +kernel
theorem dX9_refer_72 : decode cX9_refer 72 = .ok (.aload_n 0, 1) := by decide +kernel
theorem dX9_refer_73 : decode cX9_refer 73 = .ok (.getfield 189, 3) := by decide +kernel
theorem dX9_refer_76 : decode cX9_refer 76 = .ok (.iload_n 2, 1) := by decide +kernel
theorem dX9_refer_77 : decode cX9_refer 77 = .ok (.iastore, 1) := by decide +kernel
theorem dX9_refer_78 : decode cX9_refer 78 = .ok (.aload_n 0, 1) := by decide +kernel
theorem dX9_refer_79 : decode cX9_refer 79 = .ok (.getfield 23, 3) := by decide +kernel
theorem dX9_refer_82 : decode cX9_refer 82 = .ok (.aload_n 0, 1) := by decide +kernel
theorem dX9_refer_83 : decode cX9_refer 83 = .ok (.getfield 189, 3) := by decide +kernel
theorem dX9_refer_86 : decode cX9_refer 86 = .ok (.iload_n 3, 1) := by decide +kernel
theorem dX9_refer_87 : decode cX9_refer 87 = .ok (.iastore, 1) := by decide +kernel
theorem dX9_refer_88 : decode cX9_refer 88 = .ok (.aload_n 0, 1) := by decide +kernel
theorem dX9_refer_89 : decode cX9_refer 89 = .ok (.dup, 1) := by decide +kernel
theorem dX9_refer_90 : decode cX9_refer 90 = .ok (.getfield 189, 3) := by decide +kernel
theorem dX9_refer_93 : decode cX9_refer 93 = .ok (.iconst 1, 1) := by decide +kernel
theorem dX9_refer_94 : decode cX9_refer 94 = .ok (.iadd, 1) := by decide +kernel
theorem dX9_refer_95 : decode cX9_refer 95 = .ok (.putfield 189, 3) := by decide +kernel
theorem dX9_refer_98 : decode cX9_refer 98 = .ok (.aload_n 0, 1) := by decide +kernel
theorem dX9_refer_99 : decode cX9_refer 99 = .ok (.getfield 189, 3) := by decide +kernel
theorem dX9_refer_102 : decode cX9_refer 102 = .ok (.iconst 1, 1) := by decide +kernel
theorem dX9_refer_103 : decode cX9_refer 103 = .ok (.isub, 1) := by decide +kernel
theorem dX9_refer_104 : decode cX9_refer 104 = .ok (.ireturn, 1) := by decide +kernel
theorem dX9_change_0 : decode cX9_change 0 = .ok (.aload_n 0, 1) := by decide +kernel
theorem dX9_change_1 : decode cX9_change 1 = .ok (.iload_n 1, 1) := by decide +kernel
theorem dX9_change_2 : decode cX9_change 2 = .ok (.invokevirtual 192, 3) := by decide +kernel
theorem dX9_change_5 : decode cX9_change 5 = .ok (.ifCond .ne 10, 3) := by decide +kernel
theorem dX9_change_8 : decode cX9_change 8 = .ok (.aload_n 0, 1) := by decide +kernel
theorem dX9_change_9 : decode cX9_change 9 = .ok (.bipush (-4), 2) := by decide +kernel
theorem dX9_change_11 : decode cX9_change 11 = .ok (.invokevirtual 175, 3) := by decide +kernel
theorem dX9_change_14 : decode cX9_change 14 = .ok (.ireturn, 1) := by decide +kernel
theorem dX9_change_15 : decode cX9_change 15 = .ok (.aload_n 0, 1) := by decide +kernel
theorem dX9_change_16 : decode cX9_change 16 = .ok (.getfield 13, 3) := by decide +kernel
theorem dX9_change_19 : decode cX9_change 19 = .ok (.iload_n 1, 1) := by decide +kernel
theorem dX9_change_20 : decode cX9_change 20 = .ok (.lload_n 2, 1) := by decide +kernel
theorem dX9_change_21 : decode cX9_change 21 = .ok (.lastore, 1) := by decide +kernel
theorem dX9_change_22 : decode cX9_change 22 = .ok (.iconst 1, 1) := by decide +kernel
theorem dX9_change_23 : decode cX9_change 23 = .ok (.ireturn, 1) := by decide +kernel
theorem dX9_sample_0 : decode cX9_sample 0 = .ok (.aload_n 0, 1) := by decide +kernel
theorem dX9_sample_1 : decode cX9_sample 1 = .ok (.getfield 13, 3) := by decide +kernel
theorem dX9_sample_4 : decode cX9_sample 4 = .ok (.aload_n 0, 1) := by decide +kernel
theorem dX9_sample_5 : decode cX9_sample 5 = .ok (.getfield 96, 3) := by decide +kernel
theorem dX9_sample_8 : decode cX9_sample 8 = .ok (.iload_n 1, 1) := by decide +kernel
theorem dX9_sample_9 : decode cX9_sample 9 = .ok (.iaload, 1) := by decide +kernel
theorem dX9_sample_10 : decode cX9_sample 10 = .ok (.laload, 1) := by decide +kernel
theorem dX9_sample_11 : decode cX9_sample 11 = .ok (.lstore_n 2, 1) := by decide +kernel
theorem dX9_sample_12 : decode cX9_sample 12 = .ok (.lload_n 2, 1) := by decide +kernel
theorem dX9_sample_13 : decode cX9_sample 13 = .ok (.aload_n 0, 1) := by decide +kernel
theorem dX9_sample_14 : decode cX9_sample 14 = .ok (.getfield 120, 3) := by decide +kernel
theorem dX9_sample_17 : decode cX9_sample 17 = .ok (.iload_n 1, 1) := by decide +kernel
theorem dX9_sample_18 : decode cX9_sample 18 = .ok (.laload, 1) := by decide +kernel
theorem dX9_sample_19 : decode cX9_sample 19 = .ok (.lcmp, 1) := by decide +kernel
theorem dX9_sample_20 : decode cX9_sample 20 = .ok (.ifCond .le 14, 3) := by decide +kernel
theorem dX9_sample_23 : decode cX9_sample 23 = .ok (.lload_n 2, 1) := by decide +kernel
theorem dX9_sample_24 : decode cX9_sample 24 = .ok (.aload_n 0, 1) := by decide +kernel
theorem dX9_sample_25 : decode cX9_sample 25 = .ok (.getfield 120, 3) := by decide +kernel
theorem dX9_sample_28 : decode cX9_sample 28 = .ok (.iload_n 1, 1) := by decide +kernel
theorem dX9_sample_29 : decode cX9_sample 29 = .ok (.laload, 1) := by decide +kernel
theorem dX9_sample_30 : decode cX9_sample 30 = .ok (.lsub, 1) := by decide +kernel
theorem dX9_sample_31 : decode cX9_sample 31 = .ok (.goto 11, 3) := by decide +kernel
theorem dX9_sample_34 : decode cX9_sample 34 = .ok (.aload_n 0, 1) := by decide +kernel
theorem dX9_sample_35 : decode cX9_sample 35 = .ok (.getfield 120, 3) := by decide +kernel
theorem dX9_sample_38 : decode cX9_sample 38 = .ok (.iload_n 1, 1) := by decide +kernel
theorem dX9_sample_39 : decode cX9_sample 39 = .ok (.laload, 1) := by decide +kernel
theorem dX9_sample_40 : decode cX9_sample 40 = .ok (.lload_n 2, 1) := by decide +kernel
theorem dX9_sample_41 : decode cX9_sample 41 = .ok (.lsub, 1) := by decide +kernel
theorem dX9_sample_42 : decode cX9_sample 42 = .ok (.lstore 4, 2) := by decide +kernel
theorem dX9_sample_44 : decode cX9_sample 44 = .ok (.aload_n 0, 1) := by decide +kernel
theorem dX9_sample_45 : decode cX9_sample 45 = .ok (.getfield 117, 3) := by decide +kernel
theorem dX9_sample_48 : decode cX9_sample 48 = .ok (.iload_n 1, 1) := by decide +kernel
theorem dX9_sample_49 : decode cX9_sample 49 = .ok (.baload, 1) := by decide +kernel
theorem dX9_sample_50 : decode cX9_sample 50 = .ok (.ifCond .eq 23, 3) := by decide +kernel
theorem dX9_sample_53 : decode cX9_sample 53 = .ok (.lload 4, 2) := by decide +kernel
theorem dX9_sample_55 : decode cX9_sample 55 = .ok (.lconst 0, 1) := by decide +kernel
theorem dX9_sample_56 : decode cX9_sample 56 = .ok (.lcmp, 1) := by decide +kernel
theorem dX9_sample_57 : decode cX9_sample 57 = .ok (.ifCond .lt 16, 3) := by decide +kernel
theorem dX9_sample_60 : decode cX9_sample 60 = .ok (.lload 4, 2) := by decide +kernel
theorem dX9_sample_62 : decode cX9_sample 62 = .ok (.aload_n 0, 1) := by decide +kernel
theorem dX9_sample_63 : decode cX9_sample 63 = .ok (.getfield 114, 3) := by decide +kernel
theorem dX9_sample_66 : decode cX9_sample 66 = .ok (.iload_n 1, 1) := by decide +kernel
theorem dX9_sample_67 : decode cX9_sample 67 = .ok (.laload, 1) := by decide +kernel
theorem dX9_sample_68 : decode cX9_sample 68 = .ok (.lcmp, 1) := by decide +kernel
theorem dX9_sample_69 : decode cX9_sample 69 = .ok (.ifCond .gt 4, 3) := by decide +kernel
theorem dX9_sample_72 : decode cX9_sample 72 = .ok (.return_, 1) := by decide +kernel
theorem dX9_sample_73 : decode cX9_sample 73 = .ok (.aload_n 0, 1) := by decide +kernel
theorem dX9_sample_74 : decode cX9_sample 74 = .ok (.getfield 117, 3) := by decide +kernel
theorem dX9_sample_77 : decode cX9_sample 77 = .ok (.iload_n 1, 1) := by decide +kernel
theorem dX9_sample_78 : decode cX9_sample 78 = .ok (.iconst 1, 1) := by decide +kernel
theorem dX9_sample_79 : decode cX9_sample 79 = .ok (.bastore, 1) := by decide +kernel
theorem dX9_sample_80 : decode cX9_sample 80 = .ok (.aload_n 0, 1) := by decide +kernel
theorem dX9_sample_81 : decode cX9_sample 81 = .ok (.getfield 120, 3) := by decide +kernel
theorem dX9_sample_84 : decode cX9_sample 84 = .ok (.iload_n 1, 1) := by decide +kernel
theorem dX9_sample_85 : decode cX9_sample 85 = .ok (.lload_n 2, 1) := by decide +kernel
theorem dX9_sample_86 : decode cX9_sample 86 = .ok (.lastore, 1) := by decide +kernel
theorem dX9_sample_87 : decode cX9_sample 87 = .ok (.aload_n 0, 1) := by decide +kernel
theorem dX9_sample_88 : decode cX9_sample 88 = .ok (.getfield 123, 3) := by decide +kernel
theorem dX9_sample_91 : decode cX9_sample 91 = .ok (.iload_n 1, 1) := by decide +kernel
theorem dX9_sample_92 : decode cX9_sample 92 = .ok (.iaload, 1) := by decide +kernel
theorem dX9_sample_93 : decode cX9_sample 93 = .ok (.aload_n 0, 1) := by decide +kernel
theorem dX9_sample_94 : decode cX9_sample 94 = .ok (.getfield 105, 3) := by decide +kernel
theorem dX9_sample_97 : decode cX9_sample 97 = .ok (.iload_n 1, 1) := by decide +kernel
theorem dX9_sample_98 : decode cX9_sample 98 = .ok (.iaload, 1) := by decide +kernel
theorem dX9_sample_99 : decode cX9_sample 99 = .ok (.if_icmp .ne 7, 3) := by decide +kernel
theorem dX9_sample_102 : decode cX9_sample 102 = .ok (.iconst 1, 1) := by decide +kernel
theorem dX9_sample_103 : decode cX9_sample 103 = .ok (.goto 4, 3) := by decide +kernel
theorem dX9_sample_106 : decode cX9_sample 106 = .ok (.iconst 0, 1) := by decide +kernel
theorem dX9_sample_107 : decode cX9_sample 107 = .ok (.istore 6, 2) := by decide +kernel
theorem dX9_sample_109 : decode cX9_sample 109 = .ok (.iload 6, 2) := by decide +kernel
theorem dX9_sample_111 : decode cX9_sample 111 = .ok (.ifCond .eq 30, 3) := by decide +kernel
theorem dX9_sample_114 : decode cX9_sample 114 = .ok (.aload_n 0, 1) := by decide +kernel
theorem dX9_sample_115 : decode cX9_sample 115 = .ok (.getfield 108, 3) := by decide +kernel
theorem dX9_sample_118 : decode cX9_sample 118 = .ok (.iload_n 1, 1) := by decide +kernel
theorem dX9_sample_119 : decode cX9_sample 119 = .ok (.baload, 1) := by decide +kernel
theorem dX9_sample_120 : decode cX9_sample 120 = .ok (.ifCond .eq 21, 3) := by decide +kernel
theorem dX9_sample_123 : decode cX9_sample 123 = .ok (.aload_n 0, 1) := by decide +kernel
theorem dX9_sample_124 : decode cX9_sample 124 = .ok (.iload_n 1, 1) := by decide +kernel
theorem dX9_sample_125 : decode cX9_sample 125 = .ok (.invokevirtual 195, 3) := by decide +kernel
theorem dX9_sample_128 : decode cX9_sample 128 = .ok (.aload_n 0, 1) := by decide +kernel
theorem dX9_sample_129 : decode cX9_sample 129 = .ok (.getfield 132, 3) := by decide +kernel
theorem dX9_sample_132 : decode cX9_sample 132 = .ok (.bipush 8, 2) := by decide +kernel
theorem dX9_sample_134 : decode cX9_sample 134 = .ok (.iload_n 1, 1) := by decide +kernel
theorem dX9_sample_135 : decode cX9_sample 135 = .ok (.imul, 1) := by decide +kernel
theorem dX9_sample_136 : decode cX9_sample 136 = .ok (.iconst 1, 1) := by decide +kernel
theorem dX9_sample_137 : decode cX9_sample 137 = .ok (.iastore, 1) := by decide +kernel
theorem dX9_sample_138 : decode cX9_sample 138 = .ok (.goto 18, 3) := by decide +kernel
theorem dX9_sample_141 : decode cX9_sample 141 = .ok (.iload 6, 2) := by decide +kernel
theorem dX9_sample_143 : decode cX9_sample 143 = .ok (.ifCond .eq 13, 3) := by decide +kernel
theorem dX9_sample_146 : decode cX9_sample 146 = .ok (.aload_n 0, 1) := by decide +kernel
theorem dX9_sample_147 : decode cX9_sample 147 = .ok (.getfield 123, 3) := by decide +kernel
theorem dX9_sample_150 : decode cX9_sample 150 = .ok (.iload_n 1, 1) := by decide +kernel
theorem dX9_sample_151 : decode cX9_sample 151 = .ok (.dup2, 1) := by decide +kernel
theorem dX9_sample_152 : decode cX9_sample 152 = .ok (.iaload, 1) := by decide +kernel
theorem dX9_sample_153 : decode cX9_sample 153 = .ok (.iconst 1, 1) := by decide +kernel
theorem dX9_sample_154 : decode cX9_sample 154 = .ok (.isub, 1) := by decide +kernel
theorem dX9_sample_155 : decode cX9_sample 155 = .ok (.iastore, 1) := by decide +kernel
theorem dX9_sample_156 : decode cX9_sample 156 = .ok (.bipush 8, 2) := by decide +kernel
theorem dX9_sample_158 : decode cX9_sample 158 = .ok (.iload_n 1, 1) := by decide +kernel
theorem dX9_sample_159 : decode cX9_sample 159 = .ok (.imul, 1) := by decide +kernel
theorem dX9_sample_160 : decode cX9_sample 160 = .ok (.aload_n 0, 1) := by decide +kernel
theorem dX9_sample_161 : decode cX9_sample 161 = .ok (.getfield 123, 3) := by decide +kernel
theorem dX9_sample_164 : decode cX9_sample 164 = .ok (.iload_n 1, 1) := by decide +kernel
theorem dX9_sample_165 : decode cX9_sample 165 = .ok (.iaload, 1) := by decide +kernel
theorem dX9_sample_166 : decode cX9_sample 166 = .ok (.iadd, 1) := by decide +kernel
theorem dX9_sample_167 : decode cX9_sample 167 = .ok (.istore 7, 2) := by decide +kernel
theorem dX9_sample_169 : decode cX9_sample 169 = .ok (.aload_n 0, 1) := by decide +kernel
theorem dX9_sample_170 : decode cX9_sample 170 = .ok (.getfield 123, 3) := by decide +kernel
theorem dX9_sample_173 : decode cX9_sample 173 = .ok (.iload_n 1, 1) := by decide +kernel
theorem dX9_sample_174 : decode cX9_sample 174 = .ok (.dup2, 1) := by decide +kernel
theorem dX9_sample_175 : decode cX9_sample 175 = .ok (.iaload, 1) := by decide +kernel
theorem dX9_sample_176 : decode cX9_sample 176 = .ok (.iconst 1, 1) := by decide +kernel
theorem dX9_sample_177 : decode cX9_sample 177 = .ok (.iadd, 1) := by decide +kernel
theorem dX9_sample_178 : decode cX9_sample 178 = .ok (.iastore, 1) := by decide +kernel
theorem dX9_sample_179 : decode cX9_sample 179 = .ok (.aload_n 0, 1) := by decide +kernel
theorem dX9_sample_180 : decode cX9_sample 180 = .ok (.getfield 126, 3) := by decide +kernel
theorem dX9_sample_183 : decode cX9_sample 183 = .ok (.iload 7, 2) := by decide +kernel
theorem dX9_sample_185 : decode cX9_sample 185 = .ok (.lload_n 2, 1) := by decide +kernel
theorem dX9_sample_186 : decode cX9_sample 186 = .ok (.lastore, 1) := by decide +kernel
theorem dX9_sample_187 : decode cX9_sample 187 = .ok (.aload_n 0, 1) := by decide +kernel
theorem dX9_sample_188 : decode cX9_sample 188 = .ok (.getfield 129, 3) := by decide +kernel
theorem dX9_sample_191 : decode cX9_sample 191 = .ok (.iload 7, 2) := by decide +kernel
theorem dX9_sample_193 : decode cX9_sample 193 = .ok (.aload_n 0, 1) := by decide +kernel
theorem dX9_sample_194 : decode cX9_sample 194 = .ok (.getfield 199, 3) := by decide +kernel
theorem dX9_sample_197 : decode cX9_sample 197 = .ok (.iastore, 1) := by decide +kernel
theorem dX9_sample_198 : decode cX9_sample 198 = .ok (.aload_n 0, 1) := by decide +kernel
theorem dX9_sample_199 : decode cX9_sample 199 = .ok (.getfield 132, 3) := by decide +kernel
theorem dX9_sample_202 : decode cX9_sample 202 = .ok (.iload 7, 2) := by decide +kernel
theorem dX9_sample_204 : decode cX9_sample 204 = .ok (.iload 6, 2) := by decide +kernel
theorem dX9_sample_206 : decode cX9_sample 206 = .ok (.ifCond .eq 26, 3) := by decide +kernel
theorem dX9_sample_209 : decode cX9_sample 209 = .ok (.aload_n 0, 1) := by decide +kernel
theorem dX9_sample_210 : decode cX9_sample 210 = .ok (.getfield 108, 3) := by decide +kernel
theorem dX9_sample_213 : decode cX9_sample 213 = .ok (.iload_n 1, 1) := by decide +kernel
theorem dX9_sample_214 : decode cX9_sample 214 = .ok (.baload, 1) := by decide +kernel
theorem dX9_sample_215 : decode cX9_sample 215 = .ok (.ifCond .ne 17, 3) := by decide +kernel
theorem dX9_sample_218 : decode cX9_sample 218 = .ok (.aload_n 0, 1) := by decide +kernel
theorem dX9_sample_219 : decode cX9_sample 219 = .ok (.getfield 105, 3) := by decide +kernel
theorem dX9_sample_222 : decode cX9_sample 222 = .ok (.iload_n 1, 1) := by decide +kernel
theorem dX9_sample_223 : decode cX9_sample 223 = .ok (.iaload, 1) := by decide +kernel
theorem dX9_sample_224 : decode cX9_sample 224 = .ok (.iconst 1, 1) := by decide +kernel
theorem dX9_sample_225 : decode cX9_sample 225 = .ok (.if_icmp .le 7, 3) := by decide +kernel
theorem dX9_sample_228 : decode cX9_sample 228 = .ok (.iconst 1, 1) := by decide +kernel
theorem dX9_sample_229 : decode cX9_sample 229 = .ok (.goto 4, 3) := by decide +kernel
theorem dX9_sample_232 : decode cX9_sample 232 = .ok (.iconst 0, 1) := by decide +kernel
theorem dX9_sample_233 : decode cX9_sample 233 = .ok (.iastore, 1) := by decide +kernel
theorem dX9_sample_234 : decode cX9_sample 234 = .ok (.return_, 1) := by decide +kernel
theorem dX9_isReady_0 : decode cX9_isReady 0 = .ok (.iconst 0, 1) := by decide +kernel
theorem dX9_isReady_1 : decode cX9_isReady 1 = .ok (.istore_n 2, 1) := by decide +kernel
theorem dX9_isReady_2 : decode cX9_isReady 2 = .ok (.iconst 0, 1) := by decide +kernel
theorem dX9_isReady_3 : decode cX9_isReady 3 = .ok (.istore_n 3, 1) := by decide +kernel
theorem dX9_isReady_4 : decode cX9_isReady 4 = .ok (.iload_n 3, 1) := by decide +kernel
theorem dX9_isReady_5 : decode cX9_isReady 5 = .ok (.aload_n 0, 1) := by decide +kernel
theorem dX9_isReady_6 : decode cX9_isReady 6 = .ok (.getfield 202, 3) := by decide +kernel
theorem dX9_isReady_9 : decode cX9_isReady 9 = .ok (.if_icmp .ge 57, 3) := by decide +kernel
theorem dX9_isReady_12 : decode cX9_isReady 12 = .ok (.iload_n 2, 1) := by decide +kernel
theorem dX9_isReady_13 : decode cX9_isReady 13 = .ok (.ifCond .ne 41, 3) := by decide +kernel
theorem dX9_isReady_16 : decode cX9_isReady 16 = .ok (.aload_n 0, 1) := by decide +kernel
theorem dX9_isReady_17 : decode cX9_isReady 17 = .ok (.getfield 90, 3) := by decide +kernel
theorem dX9_isReady_20 : decode cX9_isReady 20 = .ok (.iload_n 3, 1) := by decide +kernel
theorem dX9_isReady_21 : decode cX9_isReady 21 = .ok (.baload, 1) := by decide +kernel
theorem dX9_isReady_22 : decode cX9_isReady 22 = .ok (.ifCond .eq 36, 3) := by decide +kernel
theorem dX9_isReady_25 : decode cX9_isReady 25 = .ok (.aload_n 0, 1) := by decide +kernel
theorem dX9_isReady_26 : decode cX9_isReady 26 = .ok (.getfield 93, 3) := by decide +kernel
theorem dX9_isReady_29 : decode cX9_isReady 29 = .ok (.iload_n 3, 1) := by decide +kernel
theorem dX9_isReady_30 : decode cX9_isReady 30 = .ok (.iaload, 1) := by decide +kernel
theorem dX9_isReady_31 : decode cX9_isReady 31 = .ok (.iload_n 1, 1) := by decide +kernel
theorem dX9_isReady_32 : decode cX9_isReady 32 = .ok (.if_icmp .ne 26, 3) := by decide +kernel
theorem dX9_isReady_35 : decode cX9_isReady 35 = .ok (.aload_n 0, 1) := by decide +kernel
theorem dX9_isReady_36 : decode cX9_isReady 36 = .ok (.getfield 111, 3) := by decide +kernel
theorem dX9_isReady_39 : decode cX9_isReady 39 = .ok (.iload_n 3, 1) := by decide +kernel
theorem dX9_isReady_40 : decode cX9_isReady 40 = .ok (.iaload, 1) := by decide +kernel
theorem dX9_isReady_41 : decode cX9_isReady 41 = .ok (.iconst 2, 1) := by decide +kernel
theorem dX9_isReady_42 : decode cX9_isReady 42 = .ok (.if_icmp .ne 16, 3) := by decide +kernel
theorem dX9_isReady_45 : decode cX9_isReady 45 = .ok (.aload_n 0, 1) := by decide +kernel
theorem dX9_isReady_46 : decode cX9_isReady 46 = .ok (.getfield 123, 3) := by decide +kernel
theorem dX9_isReady_49 : decode cX9_isReady 49 = .ok (.iload_n 3, 1) := by decide +kernel
theorem dX9_isReady_50 : decode cX9_isReady 50 = .ok (.iaload, 1) := by decide +kernel
theorem dX9_isReady_51 : decode cX9_isReady 51 = .ok (.ifCond .le 7, 3) := by decide +kernel
theorem dX9_isReady_54 : decode cX9_isReady 54 = .ok (.iconst 1, 1) := by decide +kernel
theorem dX9_isReady_55 : decode cX9_isReady 55 = .ok (.goto 4, 3) := by decide +kernel
theorem dX9_isReady_58 : decode cX9_isReady 58 = .ok (.iconst 0, 1) := by decide +kernel
theorem dX9_isReady_59 : decode cX9_isReady 59 = .ok (.istore_n 2, 1) := by decide +kernel
theorem dX9_isReady_60 : decode cX9_isReady 60 = .ok (.iinc 3 1, 3) := by decide +kernel
theorem dX9_isReady_63 : decode cX9_isReady 63 = .ok (.goto (-59), 3) := by decide +kernel
theorem dX9_isReady_66 : decode cX9_isReady 66 = .ok (.iload_n 2, 1) := by decide +kernel
theorem dX9_isReady_67 : decode cX9_isReady 67 = .ok (.ifCond .eq 16, 3) := by decide +kernel
theorem dX9_isReady_70 : decode cX9_isReady 70 = .ok (.aload_n 0, 1) := by decide +kernel
theorem dX9_isReady_71 : decode cX9_isReady 71 = .ok (.getfield 66, 3) := by decide +kernel
theorem dX9_isReady_74 : decode cX9_isReady 74 = .ok (.iload_n 1, 1) := by decide +kernel
theorem dX9_isReady_75 : decode cX9_isReady 75 = .ok (.baload, 1) := by decide +kernel
theorem dX9_isReady_76 : decode cX9_isReady 76 = .ok (.ifCond .eq 7, 3) := by decide +kernel
theorem dX9_isReady_79 : decode cX9_isReady 79 = .ok (.iconst 1, 1) := by decide +kernel
theorem dX9_isReady_80 : decode cX9_isReady 80 = .ok (.goto 4, 3) := by decide +kernel
theorem dX9_isReady_83 : decode cX9_isReady 83 = .ok (.iconst 0, 1) := by decide +kernel
theorem dX9_isReady_84 : decode cX9_isReady 84 = .ok (.ireturn, 1) := by decide +kernel
theorem dX9_toMail_0 : decode cX9_toMail 0 = .ok (.aload_n 0, 1) := by decide +kernel
theorem dX9_toMail_1 : decode cX9_toMail 1 = .ok (.getfield 41, 3) := by decide +kernel
theorem dX9_toMail_4 : decode cX9_toMail 4 = .ok (.sipush 1200, 3) := by decide +kernel
theorem dX9_toMail_7 : decode cX9_toMail 7 = .ok (.iload_n 1, 1) := by decide +kernel
theorem dX9_toMail_8 : decode cX9_toMail 8 = .ok (.imul, 1) := by decide +kernel
theorem dX9_toMail_9 : decode cX9_toMail 9 = .ok (.aload_n 0, 1) := by decide +kernel
theorem dX9_toMail_10 : decode cX9_toMail 10 = .ok (.getfield 38, 3) := by decide +kernel
theorem dX9_toMail_13 : decode cX9_toMail 13 = .ok (.iload_n 1, 1) := by decide +kernel
theorem dX9_toMail_14 : decode cX9_toMail 14 = .ok (.iaload, 1) := by decide +kernel
theorem dX9_toMail_15 : decode cX9_toMail 15 = .ok (.iadd, 1) := by decide +kernel
theorem dX9_toMail_16 : decode cX9_toMail 16 = .ok (.iload_n 2, 1) := by decide +kernel
theorem dX9_toMail_17 : decode cX9_toMail 17 = .ok (.iastore, 1) := by decide +kernel
theorem dX9_toMail_18 : decode cX9_toMail 18 = .ok (.aload_n 0, 1) := by decide +kernel
theorem dX9_toMail_19 : decode cX9_toMail 19 = .ok (.getfield 38, 3) := by decide +kernel
theorem dX9_toMail_22 : decode cX9_toMail 22 = .ok (.iload_n 1, 1) := by decide +kernel
theorem dX9_toMail_23 : decode cX9_toMail 23 = .ok (.dup2, 1) := by decide +kernel
theorem dX9_toMail_24 : decode cX9_toMail 24 = .ok (.iaload, 1) := by decide +kernel
theorem dX9_toMail_25 : decode cX9_toMail 25 = .ok (.iconst 1, 1) := by decide +kernel
theorem dX9_toMail_26 : decode cX9_toMail 26 = .ok (.iadd, 1) := by decide +kernel
theorem dX9_toMail_27 : decode cX9_toMail 27 = .ok (.iastore, 1) := by decide +kernel
theorem dX9_toMail_28 : decode cX9_toMail 28 = .ok (.return_, 1) := by decide +kernel
theorem dX9_dropKept_0 : decode cX9_dropKept 0 = .ok (.iconst 0, 1) := by decide +kernel
theorem dX9_dropKept_1 : decode cX9_dropKept 1 = .ok (.istore_n 3, 1) := by decide +kernel
theorem dX9_dropKept_2 : decode cX9_dropKept 2 = .ok (.iload_n 3, 1) := by decide +kernel
theorem dX9_dropKept_3 : decode cX9_dropKept 3 = .ok (.aload_n 0, 1) := by decide +kernel
theorem dX9_dropKept_4 : decode cX9_dropKept 4 = .ok (.getfield 205, 3) := by decide +kernel
theorem dX9_dropKept_7 : decode cX9_dropKept 7 = .ok (.if_icmp .ge 49, 3) := by decide +kernel
theorem dX9_dropKept_10 : decode cX9_dropKept 10 = .ok (.aload_n 0, 1) := by decide +kernel
theorem dX9_dropKept_11 : decode cX9_dropKept 11 = .ok (.getfield 150, 3) := by decide +kernel
theorem dX9_dropKept_14 : decode cX9_dropKept 14 = .ok (.iload_n 3, 1) := by decide +kernel
theorem dX9_dropKept_15 : decode cX9_dropKept 15 = .ok (.baload, 1) := by decide +kernel
theorem dX9_dropKept_16 : decode cX9_dropKept 16 = .ok (.ifCond .eq 34, 3) := by decide +kernel
theorem dX9_dropKept_19 : decode cX9_dropKept 19 = .ok (.aload_n 0, 1) := by decide +kernel
theorem dX9_dropKept_20 : decode cX9_dropKept 20 = .ok (.getfield 135, 3) := by decide +kernel
theorem dX9_dropKept_23 : decode cX9_dropKept 23 = .ok (.iload_n 3, 1) := by decide +kernel
theorem dX9_dropKept_24 : decode cX9_dropKept 24 = .ok (.iaload, 1) := by decide +kernel
theorem dX9_dropKept_25 : decode cX9_dropKept 25 = .ok (.iload_n 1, 1) := by decide +kernel
theorem dX9_dropKept_26 : decode cX9_dropKept 26 = .ok (.if_icmp .ne 24, 3) := by decide +kernel
theorem dX9_dropKept_29 : decode cX9_dropKept 29 = .ok (.iload_n 2, 1) := by decide +kernel
theorem dX9_dropKept_30 : decode cX9_dropKept 30 = .ok (.ifCond .lt 13, 3) := by decide +kernel
theorem dX9_dropKept_33 : decode cX9_dropKept 33 = .ok (.aload_n 0, 1) := by decide +kernel
theorem dX9_dropKept_34 : decode cX9_dropKept 34 = .ok (.getfield 138, 3) := by decide +kernel
theorem dX9_dropKept_37 : decode cX9_dropKept 37 = .ok (.iload_n 3, 1) := by decide +kernel
theorem dX9_dropKept_38 : decode cX9_dropKept 38 = .ok (.iaload, 1) := by decide +kernel
theorem dX9_dropKept_39 : decode cX9_dropKept 39 = .ok (.iload_n 2, 1) := by decide +kernel
theorem dX9_dropKept_40 : decode cX9_dropKept 40 = .ok (.if_icmp .ne 10, 3) := by decide +kernel
theorem dX9_dropKept_43 : decode cX9_dropKept 43 = .ok (.aload_n 0, 1) := by decide +kernel
theorem dX9_dropKept_44 : decode cX9_dropKept 44 = .ok (.getfield 150, 3) := by decide +kernel
theorem dX9_dropKept_47 : decode cX9_dropKept 47 = .ok (.iload_n 3, 1) := by decide +kernel
theorem dX9_dropKept_48 : decode cX9_dropKept 48 = .ok (.iconst 0, 1) := by decide +kernel
theorem dX9_dropKept_49 : decode cX9_dropKept 49 = .ok (.bastore, 1) := by decide +kernel
theorem dX9_dropKept_50 : decode cX9_dropKept 50 = .ok (.iinc 3 1, 3) := by decide +kernel
theorem dX9_dropKept_53 : decode cX9_dropKept 53 = .ok (.goto (-51), 3) := by decide +kernel
theorem dX9_dropKept_56 : decode cX9_dropKept 56 = .ok (.return_, 1) := by decide +kernel
theorem dX9_keptOf_0 : decode cX9_keptOf 0 = .ok (.iconst 0, 1) := by decide +kernel
theorem dX9_keptOf_1 : decode cX9_keptOf 1 = .ok (.istore_n 2, 1) := by decide +kernel
theorem dX9_keptOf_2 : decode cX9_keptOf 2 = .ok (.iconst 0, 1) := by decide +kernel
theorem dX9_keptOf_3 : decode cX9_keptOf 3 = .ok (.istore_n 3, 1) := by decide +kernel
theorem dX9_keptOf_4 : decode cX9_keptOf 4 = .ok (.iload_n 3, 1) := by decide +kernel
theorem dX9_keptOf_5 : decode cX9_keptOf 5 = .ok (.aload_n 0, 1) := by decide +kernel
theorem dX9_keptOf_6 : decode cX9_keptOf 6 = .ok (.getfield 205, 3) := by decide +kernel
theorem dX9_keptOf_9 : decode cX9_keptOf 9 = .ok (.if_icmp .ge 36, 3) := by decide +kernel
theorem dX9_keptOf_12 : decode cX9_keptOf 12 = .ok (.iload_n 2, 1) := by decide +kernel
theorem dX9_keptOf_13 : decode cX9_keptOf 13 = .ok (.aload_n 0, 1) := by decide +kernel
theorem dX9_keptOf_14 : decode cX9_keptOf 14 = .ok (.getfield 150, 3) := by decide +kernel
theorem dX9_keptOf_17 : decode cX9_keptOf 17 = .ok (.iload_n 3, 1) := by decide +kernel
theorem dX9_keptOf_18 : decode cX9_keptOf 18 = .ok (.baload, 1) := by decide +kernel
theorem dX9_keptOf_19 : decode cX9_keptOf 19 = .ok (.ifCond .eq 17, 3) := by decide +kernel
theorem dX9_keptOf_22 : decode cX9_keptOf 22 = .ok (.aload_n 0, 1) := by decide +kernel
theorem dX9_keptOf_23 : decode cX9_keptOf 23 = .ok (.getfield 135, 3) := by decide +kernel
theorem dX9_keptOf_26 : decode cX9_keptOf 26 = .ok (.iload_n 3, 1) := by decide +kernel
theorem dX9_keptOf_27 : decode cX9_keptOf 27 = .ok (.iaload, 1) := by decide +kernel
theorem dX9_keptOf_28 : decode cX9_keptOf 28 = .ok (.iload_n 1, 1) := by decide +kernel
theorem dX9_keptOf_29 : decode cX9_keptOf 29 = .ok (.if_icmp .ne 7, 3) := by decide +kernel
theorem dX9_keptOf_32 : decode cX9_keptOf 32 = .ok (.iconst 1, 1) := by decide +kernel
theorem dX9_keptOf_33 : decode cX9_keptOf 33 = .ok (.goto 4, 3) := by decide +kernel
theorem dX9_keptOf_36 : decode cX9_keptOf 36 = .ok (.iconst 0, 1) := by decide +kernel
theorem dX9_keptOf_37 : decode cX9_keptOf 37 = .ok (.iadd, 1) := by decide +kernel
theorem dX9_keptOf_38 : decode cX9_keptOf 38 = .ok (.istore_n 2, 1) := by decide +kernel
theorem dX9_keptOf_39 : decode cX9_keptOf 39 = .ok (.iinc 3 1, 3) := by decide +kernel
theorem dX9_keptOf_42 : decode cX9_keptOf 42 = .ok (.goto (-38), 3) := by decide +kernel
theorem dX9_keptOf_45 : decode cX9_keptOf 45 = .ok (.iload_n 2, 1) := by decide +kernel
theorem dX9_keptOf_46 : decode cX9_keptOf 46 = .ok (.ireturn, 1) := by decide +kernel
theorem dX9_shift_0 : decode cX9_shift 0 = .ok (.aload_n 0, 1) := by decide +kernel
theorem dX9_shift_1 : decode cX9_shift 1 = .ok (.getfield 123, 3) := by decide +kernel
theorem dX9_shift_4 : decode cX9_shift 4 = .ok (.iload_n 1, 1) := by decide +kernel
theorem dX9_shift_5 : decode cX9_shift 5 = .ok (.dup2, 1) := by decide +kernel
theorem dX9_shift_6 : decode cX9_shift 6 = .ok (.iaload, 1) := by decide +kernel
theorem dX9_shift_7 : decode cX9_shift 7 = .ok (.iconst 1, 1) := by decide +kernel
theorem dX9_shift_8 : decode cX9_shift 8 = .ok (.isub, 1) := by decide +kernel
theorem dX9_shift_9 : decode cX9_shift 9 = .ok (.iastore, 1) := by decide +kernel
theorem dX9_shift_10 : decode cX9_shift 10 = .ok (.bipush 8, 2) := by decide +kernel
theorem dX9_shift_12 : decode cX9_shift 12 = .ok (.iload_n 1, 1) := by decide +kernel
theorem dX9_shift_13 : decode cX9_shift 13 = .ok (.imul, 1) := by decide +kernel
theorem dX9_shift_14 : decode cX9_shift 14 = .ok (.istore_n 2, 1) := by decide +kernel
theorem dX9_shift_15 : decode cX9_shift 15 = .ok (.iload_n 2, 1) := by decide +kernel
theorem dX9_shift_16 : decode cX9_shift 16 = .ok (.bipush 8, 2) := by decide +kernel
theorem dX9_shift_18 : decode cX9_shift 18 = .ok (.iload_n 1, 1) := by decide +kernel
theorem dX9_shift_19 : decode cX9_shift 19 = .ok (.imul, 1) := by decide +kernel
theorem dX9_shift_20 : decode cX9_shift 20 = .ok (.aload_n 0, 1) := by decide +kernel
theorem dX9_shift_21 : decode cX9_shift 21 = .ok (.getfield 123, 3) := by decide +kernel
theorem dX9_shift_24 : decode cX9_shift 24 = .ok (.iload_n 1, 1) := by decide +kernel
theorem dX9_shift_25 : decode cX9_shift 25 = .ok (.iaload, 1) := by decide +kernel
theorem dX9_shift_26 : decode cX9_shift 26 = .ok (.iadd, 1) := by decide +kernel
theorem dX9_shift_27 : decode cX9_shift 27 = .ok (.if_icmp .ge 51, 3) := by decide +kernel
theorem dX9_shift_30 : decode cX9_shift 30 = .ok (.aload_n 0, 1) := by decide +kernel
theorem dX9_shift_31 : decode cX9_shift 31 = .ok (.getfield 126, 3) := by decide +kernel
theorem dX9_shift_34 : decode cX9_shift 34 = .ok (.iload_n 2, 1) := by decide +kernel
theorem dX9_shift_35 : decode cX9_shift 35 = .ok (.aload_n 0, 1) := by decide +kernel
theorem dX9_shift_36 : decode cX9_shift 36 = .ok (.getfield 126, 3) := by decide +kernel
theorem dX9_shift_39 : decode cX9_shift 39 = .ok (.iload_n 2, 1) := by decide +kernel
theorem dX9_shift_40 : decode cX9_shift 40 = .ok (.iconst 1, 1) := by decide +kernel
theorem dX9_shift_41 : decode cX9_shift 41 = .ok (.iadd, 1) := by decide +kernel
theorem dX9_shift_42 : decode cX9_shift 42 = .ok (.laload, 1) := by decide +kernel
theorem dX9_shift_43 : decode cX9_shift 43 = .ok (.lastore, 1) := by decide +kernel
theorem dX9_shift_44 : decode cX9_shift 44 = .ok (.aload_n 0, 1) := by decide +kernel
theorem dX9_shift_45 : decode cX9_shift 45 = .ok (.getfield 129, 3) := by decide +kernel
theorem dX9_shift_48 : decode cX9_shift 48 = .ok (.iload_n 2, 1) := by decide +kernel
theorem dX9_shift_49 : decode cX9_shift 49 = .ok (.aload_n 0, 1) := by decide +kernel
theorem dX9_shift_50 : decode cX9_shift 50 = .ok (.getfield 129, 3) := by decide +kernel
theorem dX9_shift_53 : decode cX9_shift 53 = .ok (.iload_n 2, 1) := by decide +kernel
theorem dX9_shift_54 : decode cX9_shift 54 = .ok (.iconst 1, 1) := by decide +kernel
theorem dX9_shift_55 : decode cX9_shift 55 = .ok (.iadd, 1) := by decide +kernel
theorem dX9_shift_56 : decode cX9_shift 56 = .ok (.iaload, 1) := by decide +kernel
theorem dX9_shift_57 : decode cX9_shift 57 = .ok (.iastore, 1) := by decide +kernel
theorem dX9_shift_58 : decode cX9_shift 58 = .ok (.aload_n 0, 1) := by decide +kernel
theorem dX9_shift_59 : decode cX9_shift 59 = .ok (.getfield 132, 3) := by decide +kernel
theorem dX9_shift_62 : decode cX9_shift 62 = .ok (.iload_n 2, 1) := by decide +kernel
theorem dX9_shift_63 : decode cX9_shift 63 = .ok (.aload_n 0, 1) := by decide +kernel
theorem dX9_shift_64 : decode cX9_shift 64 = .ok (.getfield 132, 3) := by decide +kernel
theorem dX9_shift_67 : decode cX9_shift 67 = .ok (.iload_n 2, 1) := by decide +kernel
theorem dX9_shift_68 : decode cX9_shift 68 = .ok (.iconst 1, 1) := by decide +kernel
theorem dX9_shift_69 : decode cX9_shift 69 = .ok (.iadd, 1) := by decide +kernel
theorem dX9_shift_70 : decode cX9_shift 70 = .ok (.iaload, 1) := by decide +kernel
theorem dX9_shift_71 : decode cX9_shift 71 = .ok (.iastore, 1) := by decide +kernel
theorem dX9_shift_72 : decode cX9_shift 72 = .ok (.iinc 2 1, 3) := by decide +kernel
theorem dX9_shift_75 : decode cX9_shift 75 = .ok (.goto (-60), 3) := by decide +kernel
theorem dX9_shift_78 : decode cX9_shift 78 = .ok (.return_, 1) := by decide +kernel
theorem dX9_make_0 : decode cX9_make 0 = .ok (.aload_n 0, 1) := by decide +kernel
theorem dX9_make_1 : decode cX9_make 1 = .ok (.getfield 205, 3) := by decide +kernel
theorem dX9_make_4 : decode cX9_make 4 = .ok (.istore_n 2, 1) := by decide +kernel
theorem dX9_make_5 : decode cX9_make 5 = .ok (.aload_n 0, 1) := by decide +kernel
theorem dX9_make_6 : decode cX9_make 6 = .ok (.iload_n 1, 1) := by decide +kernel
theorem dX9_make_7 : decode cX9_make 7 = .ok (.invokevirtual 208, 3) := by decide +kernel
theorem dX9_make_10 : decode cX9_make 10 = .ok (.istore_n 3, 1) := by decide +kernel
theorem dX9_make_11 : decode cX9_make 11 = .ok (.aload_n 0, 1) := by decide +kernel
theorem dX9_make_12 : decode cX9_make 12 = .ok (.dup, 1) := by decide +kernel
theorem dX9_make_13 : decode cX9_make 13 = .ok (.getfield 205, 3) := by decide +kernel
theorem dX9_make_16 : decode cX9_make 16 = .ok (.iconst 1, 1) := by decide +kernel
theorem dX9_make_17 : decode cX9_make 17 = .ok (.iadd, 1) := by decide +kernel
theorem dX9_make_18 : decode cX9_make 18 = .ok (.putfield 205, 3) := by decide +kernel
theorem dX9_make_21 : decode cX9_make 21 = .ok (.aload_n 0, 1) := by decide +kernel
theorem dX9_make_22 : decode cX9_make 22 = .ok (.getfield 135, 3) := by decide +kernel
theorem dX9_make_25 : decode cX9_make 25 = .ok (.iload_n 2, 1) := by decide +kernel
theorem dX9_make_26 : decode cX9_make 26 = .ok (.iload_n 1, 1) := by decide +kernel
theorem dX9_make_27 : decode cX9_make 27 = .ok (.iastore, 1) := by decide +kernel
theorem dX9_make_28 : decode cX9_make 28 = .ok (.aload_n 0, 1) := by decide +kernel
theorem dX9_make_29 : decode cX9_make 29 = .ok (.getfield 138, 3) := by decide +kernel
theorem dX9_make_32 : decode cX9_make 32 = .ok (.iload_n 2, 1) := by decide +kernel
theorem dX9_make_33 : decode cX9_make 33 = .ok (.aload_n 0, 1) := by decide +kernel
theorem dX9_make_34 : decode cX9_make 34 = .ok (.getfield 69, 3) := by decide +kernel
theorem dX9_make_37 : decode cX9_make 37 = .ok (.iload_n 1, 1) := by decide +kernel
theorem dX9_make_38 : decode cX9_make 38 = .ok (.iaload, 1) := by decide +kernel
theorem dX9_make_39 : decode cX9_make 39 = .ok (.iastore, 1) := by decide +kernel
theorem dX9_make_40 : decode cX9_make 40 = .ok (.aload_n 0, 1) := by decide +kernel
theorem dX9_make_41 : decode cX9_make 41 = .ok (.getfield 147, 3) := by decide +kernel
theorem dX9_make_44 : decode cX9_make 44 = .ok (.iload_n 2, 1) := by decide +kernel
theorem dX9_make_45 : decode cX9_make 45 = .ok (.aload_n 0, 1) := by decide +kernel
theorem dX9_make_46 : decode cX9_make 46 = .ok (.getfield 199, 3) := by decide +kernel
theorem dX9_make_49 : decode cX9_make 49 = .ok (.iastore, 1) := by decide +kernel
theorem dX9_make_50 : decode cX9_make 50 = .ok (.iconst 0, 1) := by decide +kernel
theorem dX9_make_51 : decode cX9_make 51 = .ok (.istore 4, 2) := by decide +kernel
theorem dX9_make_53 : decode cX9_make 53 = .ok (.iload_n 3, 1) := by decide +kernel
theorem dX9_make_54 : decode cX9_make 54 = .ok (.ifCond .eq 237, 3) := by decide +kernel
theorem dX9_make_57 : decode cX9_make 57 = .ok (.aload_n 0, 1) := by decide +kernel
theorem dX9_make_58 : decode cX9_make 58 = .ok (.getfield 69, 3) := by decide +kernel
theorem dX9_make_61 : decode cX9_make 61 = .ok (.iload_n 1, 1) := by decide +kernel
theorem dX9_make_62 : decode cX9_make 62 = .ok (.dup2, 1) := by decide +kernel
theorem dX9_make_63 : decode cX9_make 63 = .ok (.iaload, 1) := by decide +kernel
theorem dX9_make_64 : decode cX9_make 64 = .ok (.iconst 1, 1) := by decide +kernel
theorem dX9_make_65 : decode cX9_make 65 = .ok (.iadd, 1) := by decide +kernel
theorem dX9_make_66 : decode cX9_make 66 = .ok (.iastore, 1) := by decide +kernel
theorem dX9_make_67 : decode cX9_make 67 = .ok (.aload_n 0, 1) := by decide +kernel
theorem dX9_make_68 : decode cX9_make 68 = .ok (.getfield 63, 3) := by decide +kernel
theorem dX9_make_71 : decode cX9_make 71 = .ok (.iload_n 1, 1) := by decide +kernel
theorem dX9_make_72 : decode cX9_make 72 = .ok (.iaload, 1) := by decide +kernel
theorem dX9_make_73 : decode cX9_make 73 = .ok (.ifCond .ne 8, 3) := by decide +kernel
theorem dX9_make_76 : decode cX9_make 76 = .ok (.bipush 40, 2) := by decide +kernel
theorem dX9_make_78 : decode cX9_make 78 = .ok (.goto 9, 3) := by decide +kernel
theorem dX9_make_81 : decode cX9_make 81 = .ok (.aload_n 0, 1) := by decide +kernel
theorem dX9_make_82 : decode cX9_make 82 = .ok (.getfield 63, 3) := by decide +kernel
theorem dX9_make_85 : decode cX9_make 85 = .ok (.iload_n 1, 1) := by decide +kernel
theorem dX9_make_86 : decode cX9_make 86 = .ok (.iaload, 1) := by decide +kernel
theorem dX9_make_87 : decode cX9_make 87 = .ok (.istore 5, 2) := by decide +kernel
theorem dX9_make_89 : decode cX9_make 89 = .ok (.iconst 0, 1) := by decide +kernel
theorem dX9_make_90 : decode cX9_make 90 = .ok (.istore 6, 2) := by decide +kernel
theorem dX9_make_92 : decode cX9_make 92 = .ok (.iload 6, 2) := by decide +kernel
theorem dX9_make_94 : decode cX9_make 94 = .ok (.aload_n 0, 1) := by decide +kernel
theorem dX9_make_95 : decode cX9_make 95 = .ok (.getfield 202, 3) := by decide +kernel
theorem dX9_make_98 : decode cX9_make 98 = .ok (.if_icmp .ge 139, 3) := by decide +kernel
theorem dX9_make_101 : decode cX9_make 101 = .ok (.aload_n 0, 1) := by decide +kernel
theorem dX9_make_102 : decode cX9_make 102 = .ok (.getfield 90, 3) := by decide +kernel
theorem dX9_make_105 : decode cX9_make 105 = .ok (.iload 6, 2) := by decide +kernel
theorem dX9_make_107 : decode cX9_make 107 = .ok (.baload, 1) := by decide +kernel
theorem dX9_make_108 : decode cX9_make 108 = .ok (.ifCond .eq 123, 3) := by decide +kernel
theorem dX9_make_111 : decode cX9_make 111 = .ok (.aload_n 0, 1) := by decide +kernel
theorem dX9_make_112 : decode cX9_make 112 = .ok (.getfield 93, 3) := by decide +kernel
theorem dX9_make_115 : decode cX9_make 115 = .ok (.iload 6, 2) := by decide +kernel
theorem dX9_make_117 : decode cX9_make 117 = .ok (.iaload, 1) := by decide +kernel
theorem dX9_make_118 : decode cX9_make 118 = .ok (.iload_n 1, 1) := by decide +kernel
theorem dX9_make_119 : decode cX9_make 119 = .ok (.if_icmp .ne 112, 3) := by decide +kernel
theorem dX9_make_122 : decode cX9_make 122 = .ok (.aload_n 0, 1) := by decide +kernel
theorem dX9_make_123 : decode cX9_make 123 = .ok (.getfield 111, 3) := by decide +kernel
theorem dX9_make_126 : decode cX9_make 126 = .ok (.iload 6, 2) := by decide +kernel
theorem dX9_make_128 : decode cX9_make 128 = .ok (.iaload, 1) := by decide +kernel
theorem dX9_make_129 : decode cX9_make 129 = .ok (.iconst 2, 1) := by decide +kernel
theorem dX9_make_130 : decode cX9_make 130 = .ok (.if_icmp .ne 101, 3) := by decide +kernel
theorem dX9_make_133 : decode cX9_make 133 = .ok (.aload_n 0, 1) := by decide +kernel
theorem dX9_make_134 : decode cX9_make 134 = .ok (.getfield 123, 3) := by decide +kernel
theorem dX9_make_137 : decode cX9_make 137 = .ok (.iload 6, 2) := by decide +kernel
theorem dX9_make_139 : decode cX9_make 139 = .ok (.iaload, 1) := by decide +kernel
theorem dX9_make_140 : decode cX9_make 140 = .ok (.ifCond .le 91, 3) := by decide +kernel
theorem dX9_make_143 : decode cX9_make 143 = .ok (.iload 4, 2) := by decide +kernel
theorem dX9_make_145 : decode cX9_make 145 = .ok (.iload 5, 2) := by decide +kernel
theorem dX9_make_147 : decode cX9_make 147 = .ok (.if_icmp .ge 84, 3) := by decide +kernel
theorem dX9_make_150 : decode cX9_make 150 = .ok (.bipush 40, 2) := by decide +kernel
theorem dX9_make_152 : decode cX9_make 152 = .ok (.iload_n 2, 1) := by decide +kernel
theorem dX9_make_153 : decode cX9_make 153 = .ok (.imul, 1) := by decide +kernel
theorem dX9_make_154 : decode cX9_make 154 = .ok (.iload 4, 2) := by decide +kernel
theorem dX9_make_156 : decode cX9_make 156 = .ok (.iadd, 1) := by decide +kernel
theorem dX9_make_157 : decode cX9_make 157 = .ok (.istore 7, 2) := by decide +kernel
theorem dX9_make_159 : decode cX9_make 159 = .ok (.aload_n 0, 1) := by decide +kernel
theorem dX9_make_160 : decode cX9_make 160 = .ok (.getfield 154, 3) := by decide +kernel
theorem dX9_make_163 : decode cX9_make 163 = .ok (.iload 7, 2) := by decide +kernel
theorem dX9_make_165 : decode cX9_make 165 = .ok (.aload_n 0, 1) := by decide +kernel
theorem dX9_make_166 : decode cX9_make 166 = .ok (.getfield 126, 3) := by decide +kernel
theorem dX9_make_169 : decode cX9_make 169 = .ok (.bipush 8, 2) := by decide +kernel
theorem dX9_make_171 : decode cX9_make 171 = .ok (.iload 6, 2) := by decide +kernel
theorem dX9_make_173 : decode cX9_make 173 = .ok (.imul, 1) := by decide +kernel
theorem dX9_make_174 : decode cX9_make 174 = .ok (.laload, 1) := by decide +kernel
theorem dX9_make_175 : decode cX9_make 175 = .ok (.lastore, 1) := by decide +kernel
theorem dX9_make_176 : decode cX9_make 176 = .ok (.aload_n 0, 1) := by decide +kernel
theorem dX9_make_177 : decode cX9_make 177 = .ok (.getfield 157, 3) := by decide +kernel
theorem dX9_make_180 : decode cX9_make 180 = .ok (.iload 7, 2) := by decide +kernel
theorem dX9_make_182 : decode cX9_make 182 = .ok (.iload 6, 2) := by decide +kernel
theorem dX9_make_184 : decode cX9_make 184 = .ok (.iastore, 1) := by decide +kernel
theorem dX9_make_185 : decode cX9_make 185 = .ok (.aload_n 0, 1) := by decide +kernel
theorem dX9_make_186 : decode cX9_make 186 = .ok (.getfield 160, 3) := by decide +kernel
theorem dX9_make_189 : decode cX9_make 189 = .ok (.iload 7, 2) := by decide +kernel
theorem dX9_make_191 : decode cX9_make 191 = .ok (.aload_n 0, 1) := by decide +kernel
theorem dX9_make_192 : decode cX9_make 192 = .ok (.getfield 129, 3) := by decide +kernel
theorem dX9_make_195 : decode cX9_make 195 = .ok (.bipush 8, 2) := by decide +kernel
theorem dX9_make_197 : decode cX9_make 197 = .ok (.iload 6, 2) := by decide +kernel
theorem dX9_make_199 : decode cX9_make 199 = .ok (.imul, 1) := by decide +kernel
theorem dX9_make_200 : decode cX9_make 200 = .ok (.iaload, 1) := by decide +kernel
theorem dX9_make_201 : decode cX9_make 201 = .ok (.iastore, 1) := by decide +kernel
theorem dX9_make_202 : decode cX9_make 202 = .ok (.aload_n 0, 1) := by decide +kernel
theorem dX9_make_203 : decode cX9_make 203 = .ok (.getfield 163, 3) := by decide +kernel
theorem dX9_make_206 : decode cX9_make 206 = .ok (.iload 7, 2) := by decide +kernel
theorem dX9_make_208 : decode cX9_make 208 = .ok (.aload_n 0, 1) := by decide +kernel
theorem dX9_make_209 : decode cX9_make 209 = .ok (.getfield 132, 3) := by decide +kernel
theorem dX9_make_212 : decode cX9_make 212 = .ok (.bipush 8, 2) := by decide +kernel
theorem dX9_make_214 : decode cX9_make 214 = .ok (.iload 6, 2) := by decide +kernel
theorem dX9_make_216 : decode cX9_make 216 = .ok (.imul, 1) := by decide +kernel
theorem dX9_make_217 : decode cX9_make 217 = .ok (.iaload, 1) := by decide +kernel
theorem dX9_make_218 : decode cX9_make 218 = .ok (.iastore, 1) := by decide +kernel
theorem dX9_make_219 : decode cX9_make 219 = .ok (.aload_n 0, 1) := by decide +kernel
theorem dX9_make_220 : decode cX9_make 220 = .ok (.iload 6, 2) := by decide +kernel
theorem dX9_make_222 : decode cX9_make 222 = .ok (.invokevirtual 195, 3) := by decide +kernel
theorem dX9_make_225 : decode cX9_make 225 = .ok (.iinc 4 1, 3) := by decide +kernel
theorem dX9_make_228 : decode cX9_make 228 = .ok (.goto (-127), 3) := by decide +kernel
theorem dX9_make_231 : decode cX9_make 231 = .ok (.iinc 6 1, 3) := by decide +kernel
theorem dX9_make_234 : decode cX9_make 234 = .ok (.goto (-142), 3) := by decide +kernel
theorem dX9_make_237 : decode cX9_make 237 = .ok (.aload_n 0, 1) := by decide +kernel
theorem dX9_make_238 : decode cX9_make 238 = .ok (.iload_n 1, 1) := by decide +kernel
theorem dX9_make_239 : decode cX9_make 239 = .ok (.invokevirtual 211, 3) := by decide +kernel
theorem dX9_make_242 : decode cX9_make 242 = .ok (.iconst 5, 1) := by decide +kernel
theorem dX9_make_243 : decode cX9_make 243 = .ok (.if_icmp .ne 41, 3) := by decide +kernel
theorem dX9_make_246 : decode cX9_make 246 = .ok (.iconst 0, 1) := by decide +kernel
theorem dX9_make_247 : decode cX9_make 247 = .ok (.istore 6, 2) := by decide +kernel
theorem dX9_make_249 : decode cX9_make 249 = .ok (.aload_n 0, 1) := by decide +kernel
theorem dX9_make_250 : decode cX9_make 250 = .ok (.getfield 150, 3) := by decide +kernel
theorem dX9_make_253 : decode cX9_make 253 = .ok (.iload 6, 2) := by decide +kernel
theorem dX9_make_255 : decode cX9_make 255 = .ok (.baload, 1) := by decide +kernel
theorem dX9_make_256 : decode cX9_make 256 = .ok (.ifCond .eq 14, 3) := by decide +kernel
theorem dX9_make_259 : decode cX9_make 259 = .ok (.aload_n 0, 1) := by decide +kernel
theorem dX9_make_260 : decode cX9_make 260 = .ok (.getfield 135, 3) := by decide +kernel
theorem dX9_make_263 : decode cX9_make 263 = .ok (.iload 6, 2) := by decide +kernel
theorem dX9_make_265 : decode cX9_make 265 = .ok (.iaload, 1) := by decide +kernel
theorem dX9_make_266 : decode cX9_make 266 = .ok (.iload_n 1, 1) := by decide +kernel
theorem dX9_make_267 : decode cX9_make 267 = .ok (.if_icmp .eq 9, 3) := by decide +kernel
theorem dX9_make_270 : decode cX9_make 270 = .ok (.iinc 6 1, 3) := by decide +kernel
theorem dX9_make_273 : decode cX9_make 273 = .ok (.goto (-24), 3) := by decide +kernel
theorem dX9_make_276 : decode cX9_make 276 = .ok (.aload_n 0, 1) := by decide +kernel
theorem dX9_make_277 : decode cX9_make 277 = .ok (.getfield 150, 3) := by decide +kernel
theorem dX9_make_280 : decode cX9_make 280 = .ok (.iload 6, 2) := by decide +kernel
theorem dX9_make_282 : decode cX9_make 282 = .ok (.iconst 0, 1) := by decide +kernel
theorem dX9_make_283 : decode cX9_make 283 = .ok (.bastore, 1) := by decide +kernel
theorem dX9_make_284 : decode cX9_make 284 = .ok (.aload_n 0, 1) := by decide +kernel
theorem dX9_make_285 : decode cX9_make 285 = .ok (.getfield 150, 3) := by decide +kernel
theorem dX9_make_288 : decode cX9_make 288 = .ok (.iload_n 2, 1) := by decide +kernel
theorem dX9_make_289 : decode cX9_make 289 = .ok (.iconst 1, 1) := by decide +kernel
theorem dX9_make_290 : decode cX9_make 290 = .ok (.bastore, 1) := by decide +kernel
theorem dX9_make_291 : decode cX9_make 291 = .ok (.aload_n 0, 1) := by decide +kernel
theorem dX9_make_292 : decode cX9_make 292 = .ok (.getfield 141, 3) := by decide +kernel
theorem dX9_make_295 : decode cX9_make 295 = .ok (.iload_n 2, 1) := by decide +kernel
theorem dX9_make_296 : decode cX9_make 296 = .ok (.iload 4, 2) := by decide +kernel
theorem dX9_make_298 : decode cX9_make 298 = .ok (.iastore, 1) := by decide +kernel
theorem dX9_make_299 : decode cX9_make 299 = .ok (.aload_n 0, 1) := by decide +kernel
theorem dX9_make_300 : decode cX9_make 300 = .ok (.getfield 144, 3) := by decide +kernel
theorem dX9_make_303 : decode cX9_make 303 = .ok (.iload_n 2, 1) := by decide +kernel
theorem dX9_make_304 : decode cX9_make 304 = .ok (.iload_n 3, 1) := by decide +kernel
theorem dX9_make_305 : decode cX9_make 305 = .ok (.ifCond .eq 15, 3) := by decide +kernel
theorem dX9_make_308 : decode cX9_make 308 = .ok (.aload_n 0, 1) := by decide +kernel
theorem dX9_make_309 : decode cX9_make 309 = .ok (.iload_n 1, 1) := by decide +kernel
theorem dX9_make_310 : decode cX9_make 310 = .ok (.invokevirtual 214, 3) := by decide +kernel
theorem dX9_make_313 : decode cX9_make 313 = .ok (.ifCond .eq 7, 3) := by decide +kernel
theorem dX9_make_316 : decode cX9_make 316 = .ok (.iconst 1, 1) := by decide +kernel
theorem dX9_make_317 : decode cX9_make 317 = .ok (.goto 4, 3) := by decide +kernel
theorem dX9_make_320 : decode cX9_make 320 = .ok (.iconst 0, 1) := by decide +kernel
theorem dX9_make_321 : decode cX9_make 321 = .ok (.bastore, 1) := by decide +kernel
theorem dX9_make_322 : decode cX9_make 322 = .ok (.aload_n 0, 1) := by decide +kernel
theorem dX9_make_323 : decode cX9_make 323 = .ok (.getfield 87, 3) := by decide +kernel
theorem dX9_make_326 : decode cX9_make 326 = .ok (.iload_n 1, 1) := by decide +kernel
theorem dX9_make_327 : decode cX9_make 327 = .ok (.aload_n 0, 1) := by decide +kernel
theorem dX9_make_328 : decode cX9_make 328 = .ok (.getfield 144, 3) := by decide +kernel
theorem dX9_make_331 : decode cX9_make 331 = .ok (.iload_n 2, 1) := by decide +kernel
theorem dX9_make_332 : decode cX9_make 332 = .ok (.baload, 1) := by decide +kernel
theorem dX9_make_333 : decode cX9_make 333 = .ok (.bastore, 1) := by decide +kernel
theorem dX9_make_334 : decode cX9_make 334 = .ok (.aload_n 0, 1) := by decide +kernel
theorem dX9_make_335 : decode cX9_make 335 = .ok (.aload_n 0, 1) := by decide +kernel
theorem dX9_make_336 : decode cX9_make 336 = .ok (.getfield 48, 3) := by decide +kernel
theorem dX9_make_339 : decode cX9_make 339 = .ok (.iload_n 1, 1) := by decide +kernel
theorem dX9_make_340 : decode cX9_make 340 = .ok (.iaload, 1) := by decide +kernel
theorem dX9_make_341 : decode cX9_make 341 = .ok (.iload_n 2, 1) := by decide +kernel
theorem dX9_make_342 : decode cX9_make 342 = .ok (.invokevirtual 217, 3) := by decide +kernel
theorem dX9_make_345 : decode cX9_make 345 = .ok (.aload_n 0, 1) := by decide +kernel
theorem dX9_make_346 : decode cX9_make 346 = .ok (.getfield 35, 3) := by decide +kernel
theorem dX9_make_349 : decode cX9_make 349 = .ok (.aload_n 0, 1) := by decide +kernel
theorem dX9_make_350 : decode cX9_make 350 = .ok (.getfield 48, 3) := by decide +kernel
theorem dX9_make_353 : decode cX9_make 353 = .ok (.iload_n 1, 1) := by decide +kernel
theorem dX9_make_354 : decode cX9_make 354 = .ok (.iaload, 1) := by decide +kernel
theorem dX9_make_355 : decode cX9_make 355 = .ok (.dup2, 1) := by decide +kernel
theorem dX9_make_356 : decode cX9_make 356 = .ok (.iaload, 1) := by decide +kernel
theorem dX9_make_357 : decode cX9_make 357 = .ok (.iconst 1, 1) := by decide +kernel
theorem dX9_make_358 : decode cX9_make 358 = .ok (.isub, 1) := by decide +kernel
theorem dX9_make_359 : decode cX9_make 359 = .ok (.iastore, 1) := by decide +kernel
theorem dX9_make_360 : decode cX9_make 360 = .ok (.aload_n 0, 1) := by decide +kernel
theorem dX9_make_361 : decode cX9_make 361 = .ok (.getfield 78, 3) := by decide +kernel
theorem dX9_make_364 : decode cX9_make 364 = .ok (.iload_n 1, 1) := by decide +kernel
theorem dX9_make_365 : decode cX9_make 365 = .ok (.iconst 1, 1) := by decide +kernel
theorem dX9_make_366 : decode cX9_make 366 = .ok (.bastore, 1) := by decide +kernel
theorem dX9_make_367 : decode cX9_make 367 = .ok (.aload_n 0, 1) := by decide +kernel
theorem dX9_make_368 : decode cX9_make 368 = .ok (.getfield 72, 3) := by decide +kernel
theorem dX9_make_371 : decode cX9_make 371 = .ok (.iload_n 1, 1) := by decide +kernel
theorem dX9_make_372 : decode cX9_make 372 = .ok (.aload_n 0, 1) := by decide +kernel
theorem dX9_make_373 : decode cX9_make 373 = .ok (.getfield 57, 3) := by decide +kernel
theorem dX9_make_376 : decode cX9_make 376 = .ok (.iload_n 1, 1) := by decide +kernel
theorem dX9_make_377 : decode cX9_make 377 = .ok (.iaload, 1) := by decide +kernel
theorem dX9_make_378 : decode cX9_make 378 = .ok (.iastore, 1) := by decide +kernel
theorem dX9_make_379 : decode cX9_make 379 = .ok (.aload_n 0, 1) := by decide +kernel
theorem dX9_make_380 : decode cX9_make 380 = .ok (.getfield 75, 3) := by decide +kernel
theorem dX9_make_383 : decode cX9_make 383 = .ok (.iload_n 1, 1) := by decide +kernel
theorem dX9_make_384 : decode cX9_make 384 = .ok (.aload_n 0, 1) := by decide +kernel
theorem dX9_make_385 : decode cX9_make 385 = .ok (.getfield 60, 3) := by decide +kernel
theorem dX9_make_388 : decode cX9_make 388 = .ok (.iload_n 1, 1) := by decide +kernel
theorem dX9_make_389 : decode cX9_make 389 = .ok (.iaload, 1) := by decide +kernel
theorem dX9_make_390 : decode cX9_make 390 = .ok (.iastore, 1) := by decide +kernel
theorem dX9_make_391 : decode cX9_make 391 = .ok (.aload_n 0, 1) := by decide +kernel
theorem dX9_make_392 : decode cX9_make 392 = .ok (.getfield 81, 3) := by decide +kernel
theorem dX9_make_395 : decode cX9_make 395 = .ok (.iload_n 1, 1) := by decide +kernel
theorem dX9_make_396 : decode cX9_make 396 = .ok (.iconst 0, 1) := by decide +kernel
theorem dX9_make_397 : decode cX9_make 397 = .ok (.bastore, 1) := by decide +kernel
theorem dX9_make_398 : decode cX9_make 398 = .ok (.return_, 1) := by decide +kernel
theorem dX9_leftOf_0 : decode cX9_leftOf 0 = .ok (.iconst 0, 1) := by decide +kernel
theorem dX9_leftOf_1 : decode cX9_leftOf 1 = .ok (.istore_n 2, 1) := by decide +kernel
theorem dX9_leftOf_2 : decode cX9_leftOf 2 = .ok (.iconst 0, 1) := by decide +kernel
theorem dX9_leftOf_3 : decode cX9_leftOf 3 = .ok (.istore_n 3, 1) := by decide +kernel
theorem dX9_leftOf_4 : decode cX9_leftOf 4 = .ok (.iload_n 3, 1) := by decide +kernel
theorem dX9_leftOf_5 : decode cX9_leftOf 5 = .ok (.aload_n 0, 1) := by decide +kernel
theorem dX9_leftOf_6 : decode cX9_leftOf 6 = .ok (.getfield 202, 3) := by decide +kernel
theorem dX9_leftOf_9 : decode cX9_leftOf 9 = .ok (.if_icmp .ge 57, 3) := by decide +kernel
theorem dX9_leftOf_12 : decode cX9_leftOf 12 = .ok (.iload_n 2, 1) := by decide +kernel
theorem dX9_leftOf_13 : decode cX9_leftOf 13 = .ok (.ifCond .ne 41, 3) := by decide +kernel
theorem dX9_leftOf_16 : decode cX9_leftOf 16 = .ok (.aload_n 0, 1) := by decide +kernel
theorem dX9_leftOf_17 : decode cX9_leftOf 17 = .ok (.getfield 90, 3) := by decide +kernel
theorem dX9_leftOf_20 : decode cX9_leftOf 20 = .ok (.iload_n 3, 1) := by decide +kernel
theorem dX9_leftOf_21 : decode cX9_leftOf 21 = .ok (.baload, 1) := by decide +kernel
theorem dX9_leftOf_22 : decode cX9_leftOf 22 = .ok (.ifCond .eq 36, 3) := by decide +kernel
theorem dX9_leftOf_25 : decode cX9_leftOf 25 = .ok (.aload_n 0, 1) := by decide +kernel
theorem dX9_leftOf_26 : decode cX9_leftOf 26 = .ok (.getfield 93, 3) := by decide +kernel
theorem dX9_leftOf_29 : decode cX9_leftOf 29 = .ok (.iload_n 3, 1) := by decide +kernel
theorem dX9_leftOf_30 : decode cX9_leftOf 30 = .ok (.iaload, 1) := by decide +kernel
theorem dX9_leftOf_31 : decode cX9_leftOf 31 = .ok (.iload_n 1, 1) := by decide +kernel
theorem dX9_leftOf_32 : decode cX9_leftOf 32 = .ok (.if_icmp .ne 26, 3) := by decide +kernel
theorem dX9_leftOf_35 : decode cX9_leftOf 35 = .ok (.aload_n 0, 1) := by decide +kernel
theorem dX9_leftOf_36 : decode cX9_leftOf 36 = .ok (.getfield 111, 3) := by decide +kernel
theorem dX9_leftOf_39 : decode cX9_leftOf 39 = .ok (.iload_n 3, 1) := by decide +kernel
theorem dX9_leftOf_40 : decode cX9_leftOf 40 = .ok (.iaload, 1) := by decide +kernel
theorem dX9_leftOf_41 : decode cX9_leftOf 41 = .ok (.iconst 2, 1) := by decide +kernel
theorem dX9_leftOf_42 : decode cX9_leftOf 42 = .ok (.if_icmp .ne 16, 3) := by decide +kernel
theorem dX9_leftOf_45 : decode cX9_leftOf 45 = .ok (.aload_n 0, 1) := by decide +kernel
theorem dX9_leftOf_46 : decode cX9_leftOf 46 = .ok (.getfield 123, 3) := by decide +kernel
theorem dX9_leftOf_49 : decode cX9_leftOf 49 = .ok (.iload_n 3, 1) := by decide +kernel
theorem dX9_leftOf_50 : decode cX9_leftOf 50 = .ok (.iaload, 1) := by decide +kernel
theorem dX9_leftOf_51 : decode cX9_leftOf 51 = .ok (.ifCond .le 7, 3) := by decide +kernel
theorem dX9_leftOf_54 : decode cX9_leftOf 54 = .ok (.iconst 1, 1) := by decide +kernel
theorem dX9_leftOf_55 : decode cX9_leftOf 55 = .ok (.goto 4, 3) := by decide +kernel
theorem dX9_leftOf_58 : decode cX9_leftOf 58 = .ok (.iconst 0, 1) := by decide +kernel
theorem dX9_leftOf_59 : decode cX9_leftOf 59 = .ok (.istore_n 2, 1) := by decide +kernel
theorem dX9_leftOf_60 : decode cX9_leftOf 60 = .ok (.iinc 3 1, 3) := by decide +kernel
theorem dX9_leftOf_63 : decode cX9_leftOf 63 = .ok (.goto (-59), 3) := by decide +kernel
theorem dX9_leftOf_66 : decode cX9_leftOf 66 = .ok (.iload_n 2, 1) := by decide +kernel
theorem dX9_leftOf_67 : decode cX9_leftOf 67 = .ok (.ireturn, 1) := by decide +kernel
theorem dX9_removeSub_0 : decode cX9_removeSub 0 = .ok (.aload_n 0, 1) := by decide +kernel
theorem dX9_removeSub_1 : decode cX9_removeSub 1 = .ok (.getfield 44, 3) := by decide +kernel
theorem dX9_removeSub_4 : decode cX9_removeSub 4 = .ok (.iload_n 1, 1) := by decide +kernel
theorem dX9_removeSub_5 : decode cX9_removeSub 5 = .ok (.iconst 0, 1) := by decide +kernel
theorem dX9_removeSub_6 : decode cX9_removeSub 6 = .ok (.bastore, 1) := by decide +kernel
theorem dX9_removeSub_7 : decode cX9_removeSub 7 = .ok (.iconst 0, 1) := by decide +kernel
theorem dX9_removeSub_8 : decode cX9_removeSub 8 = .ok (.istore_n 2, 1) := by decide +kernel
theorem dX9_removeSub_9 : decode cX9_removeSub 9 = .ok (.iload_n 2, 1) := by decide +kernel
theorem dX9_removeSub_10 : decode cX9_removeSub 10 = .ok (.aload_n 0, 1) := by decide +kernel
theorem dX9_removeSub_11 : decode cX9_removeSub 11 = .ok (.getfield 202, 3) := by decide +kernel
theorem dX9_removeSub_14 : decode cX9_removeSub 14 = .ok (.if_icmp .ge 39, 3) := by decide +kernel
theorem dX9_removeSub_17 : decode cX9_removeSub 17 = .ok (.aload_n 0, 1) := by decide +kernel
theorem dX9_removeSub_18 : decode cX9_removeSub 18 = .ok (.getfield 90, 3) := by decide +kernel
theorem dX9_removeSub_21 : decode cX9_removeSub 21 = .ok (.iload_n 2, 1) := by decide +kernel
theorem dX9_removeSub_22 : decode cX9_removeSub 22 = .ok (.aload_n 0, 1) := by decide +kernel
theorem dX9_removeSub_23 : decode cX9_removeSub 23 = .ok (.getfield 90, 3) := by decide +kernel
theorem dX9_removeSub_26 : decode cX9_removeSub 26 = .ok (.iload_n 2, 1) := by decide +kernel
theorem dX9_removeSub_27 : decode cX9_removeSub 27 = .ok (.baload, 1) := by decide +kernel
theorem dX9_removeSub_28 : decode cX9_removeSub 28 = .ok (.ifCond .eq 17, 3) := by decide +kernel
theorem dX9_removeSub_31 : decode cX9_removeSub 31 = .ok (.aload_n 0, 1) := by decide +kernel
theorem dX9_removeSub_32 : decode cX9_removeSub 32 = .ok (.getfield 93, 3) := by decide +kernel
theorem dX9_removeSub_35 : decode cX9_removeSub 35 = .ok (.iload_n 2, 1) := by decide +kernel
theorem dX9_removeSub_36 : decode cX9_removeSub 36 = .ok (.iaload, 1) := by decide +kernel
theorem dX9_removeSub_37 : decode cX9_removeSub 37 = .ok (.iload_n 1, 1) := by decide +kernel
theorem dX9_removeSub_38 : decode cX9_removeSub 38 = .ok (.if_icmp .eq 7, 3) := by decide +kernel
theorem dX9_removeSub_41 : decode cX9_removeSub 41 = .ok (.iconst 1, 1) := by decide +kernel
theorem dX9_removeSub_42 : decode cX9_removeSub 42 = .ok (.goto 4, 3) := by decide +kernel
theorem dX9_removeSub_45 : decode cX9_removeSub 45 = .ok (.iconst 0, 1) := by decide +kernel
theorem dX9_removeSub_46 : decode cX9_removeSub 46 = .ok (.bastore, 1) := by decide +kernel
theorem dX9_removeSub_47 : decode cX9_removeSub 47 = .ok (.iinc 2 1, 3) := by decide +kernel
theorem dX9_removeSub_50 : decode cX9_removeSub 50 = .ok (.goto (-41), 3) := by decide +kernel
theorem dX9_removeSub_53 : decode cX9_removeSub 53 = .ok (.aload_n 0, 1) := by decide +kernel
theorem dX9_removeSub_54 : decode cX9_removeSub 54 = .ok (.iload_n 1, 1) := by decide +kernel
theorem dX9_removeSub_55 : decode cX9_removeSub 55 = .ok (.iconst (-1), 1) := by decide +kernel
theorem dX9_removeSub_56 : decode cX9_removeSub 56 = .ok (.invokevirtual 221, 3) := by decide +kernel
theorem dX9_removeSub_59 : decode cX9_removeSub 59 = .ok (.return_, 1) := by decide +kernel
theorem dX9_shut_0 : decode cX9_shut 0 = .ok (.aload_n 0, 1) := by decide +kernel
theorem dX9_shut_1 : decode cX9_shut 1 = .ok (.getfield 32, 3) := by decide +kernel
theorem dX9_shut_4 : decode cX9_shut 4 = .ok (.iload_n 1, 1) := by decide +kernel
theorem dX9_shut_5 : decode cX9_shut 5 = .ok (.iconst 2, 1) := by decide +kernel
theorem dX9_shut_6 : decode cX9_shut 6 = .ok (.iastore, 1) := by decide +kernel
theorem dX9_shut_7 : decode cX9_shut 7 = .ok (.aload_n 0, 1) := by decide +kernel
theorem dX9_shut_8 : decode cX9_shut 8 = .ok (.getfield 35, 3) := by decide +kernel
theorem dX9_shut_11 : decode cX9_shut 11 = .ok (.iload_n 1, 1) := by decide +kernel
theorem dX9_shut_12 : decode cX9_shut 12 = .ok (.iconst 0, 1) := by decide +kernel
theorem dX9_shut_13 : decode cX9_shut 13 = .ok (.iastore, 1) := by decide +kernel
theorem dX9_shut_14 : decode cX9_shut 14 = .ok (.iconst 0, 1) := by decide +kernel
theorem dX9_shut_15 : decode cX9_shut 15 = .ok (.istore_n 2, 1) := by decide +kernel
theorem dX9_shut_16 : decode cX9_shut 16 = .ok (.iconst 0, 1) := by decide +kernel
theorem dX9_shut_17 : decode cX9_shut 17 = .ok (.istore_n 3, 1) := by decide +kernel
theorem dX9_shut_18 : decode cX9_shut 18 = .ok (.iload_n 3, 1) := by decide +kernel
theorem dX9_shut_19 : decode cX9_shut 19 = .ok (.aload_n 0, 1) := by decide +kernel
theorem dX9_shut_20 : decode cX9_shut 20 = .ok (.getfield 224, 3) := by decide +kernel
theorem dX9_shut_23 : decode cX9_shut 23 = .ok (.if_icmp .ge 36, 3) := by decide +kernel
theorem dX9_shut_26 : decode cX9_shut 26 = .ok (.aload_n 0, 1) := by decide +kernel
theorem dX9_shut_27 : decode cX9_shut 27 = .ok (.getfield 44, 3) := by decide +kernel
theorem dX9_shut_30 : decode cX9_shut 30 = .ok (.iload_n 3, 1) := by decide +kernel
theorem dX9_shut_31 : decode cX9_shut 31 = .ok (.baload, 1) := by decide +kernel
theorem dX9_shut_32 : decode cX9_shut 32 = .ok (.ifCond .eq 21, 3) := by decide +kernel
theorem dX9_shut_35 : decode cX9_shut 35 = .ok (.aload_n 0, 1) := by decide +kernel
theorem dX9_shut_36 : decode cX9_shut 36 = .ok (.getfield 48, 3) := by decide +kernel
theorem dX9_shut_39 : decode cX9_shut 39 = .ok (.iload_n 3, 1) := by decide +kernel
theorem dX9_shut_40 : decode cX9_shut 40 = .ok (.iaload, 1) := by decide +kernel
theorem dX9_shut_41 : decode cX9_shut 41 = .ok (.iload_n 1, 1) := by decide +kernel
theorem dX9_shut_42 : decode cX9_shut 42 = .ok (.if_icmp .ne 11, 3) := by decide +kernel
theorem dX9_shut_45 : decode cX9_shut 45 = .ok (.aload_n 0, 1) := by decide +kernel
theorem dX9_shut_46 : decode cX9_shut 46 = .ok (.iload_n 3, 1) := by decide +kernel
theorem dX9_shut_47 : decode cX9_shut 47 = .ok (.invokevirtual 227, 3) := by decide +kernel
theorem dX9_shut_50 : decode cX9_shut 50 = .ok (.iinc 2 1, 3) := by decide +kernel
theorem dX9_shut_53 : decode cX9_shut 53 = .ok (.iinc 3 1, 3) := by decide +kernel
theorem dX9_shut_56 : decode cX9_shut 56 = .ok (.goto (-38), 3) := by decide +kernel
theorem dX9_shut_59 : decode cX9_shut 59 = .ok (.iload_n 2, 1) := by decide +kernel
theorem dX9_shut_60 : decode cX9_shut 60 = .ok (.ireturn, 1) := by decide +kernel
theorem dX9_isShort_0 : decode cX9_isShort 0 = .ok (.aload_n 0, 1) := by decide +kernel
theorem dX9_isShort_1 : decode cX9_isShort 1 = .ok (.getfield 81, 3) := by decide +kernel
theorem dX9_isShort_4 : decode cX9_isShort 4 = .ok (.iload_n 1, 1) := by decide +kernel
theorem dX9_isShort_5 : decode cX9_isShort 5 = .ok (.baload, 1) := by decide +kernel
theorem dX9_isShort_6 : decode cX9_isShort 6 = .ok (.ifCond .ne 30, 3) := by decide +kernel
theorem dX9_isShort_9 : decode cX9_isShort 9 = .ok (.aload_n 0, 1) := by decide +kernel
theorem dX9_isShort_10 : decode cX9_isShort 10 = .ok (.getfield 81, 3) := by decide +kernel
theorem dX9_isShort_13 : decode cX9_isShort 13 = .ok (.iload_n 1, 1) := by decide +kernel
theorem dX9_isShort_14 : decode cX9_isShort 14 = .ok (.iconst 1, 1) := by decide +kernel
theorem dX9_isShort_15 : decode cX9_isShort 15 = .ok (.bastore, 1) := by decide +kernel
theorem dX9_isShort_16 : decode cX9_isShort 16 = .ok (.aload_n 0, 1) := by decide +kernel
theorem dX9_isShort_17 : decode cX9_isShort 17 = .ok (.dup, 1) := by decide +kernel
theorem dX9_isShort_18 : decode cX9_isShort 18 = .ok (.getfield 230, 3) := by decide +kernel
theorem dX9_isShort_21 : decode cX9_isShort 21 = .ok (.iconst 1, 1) := by decide +kernel
theorem dX9_isShort_22 : decode cX9_isShort 22 = .ok (.iadd, 1) := by decide +kernel
theorem dX9_isShort_23 : decode cX9_isShort 23 = .ok (.putfield 230, 3) := by decide +kernel
theorem dX9_isShort_26 : decode cX9_isShort 26 = .ok (.aload_n 0, 1) := by decide +kernel
theorem dX9_isShort_27 : decode cX9_isShort 27 = .ok (.getfield 84, 3) := by decide +kernel
theorem dX9_isShort_30 : decode cX9_isShort 30 = .ok (.iload_n 1, 1) := by decide +kernel
theorem dX9_isShort_31 : decode cX9_isShort 31 = .ok (.aload_n 0, 1) := by decide +kernel
theorem dX9_isShort_32 : decode cX9_isShort 32 = .ok (.getfield 230, 3) := by decide +kernel
theorem dX9_isShort_35 : decode cX9_isShort 35 = .ok (.iastore, 1) := by decide +kernel
theorem dX9_isShort_36 : decode cX9_isShort 36 = .ok (.aload_n 0, 1) := by decide +kernel
theorem dX9_isShort_37 : decode cX9_isShort 37 = .ok (.getfield 75, 3) := by decide +kernel
theorem dX9_isShort_40 : decode cX9_isShort 40 = .ok (.iload_n 1, 1) := by decide +kernel
theorem dX9_isShort_41 : decode cX9_isShort 41 = .ok (.dup2, 1) := by decide +kernel
theorem dX9_isShort_42 : decode cX9_isShort 42 = .ok (.iaload, 1) := by decide +kernel
theorem dX9_isShort_43 : decode cX9_isShort 43 = .ok (.iconst 1, 1) := by decide +kernel
theorem dX9_isShort_44 : decode cX9_isShort 44 = .ok (.isub, 1) := by decide +kernel
theorem dX9_isShort_45 : decode cX9_isShort 45 = .ok (.iastore, 1) := by decide +kernel
theorem dX9_isShort_46 : decode cX9_isShort 46 = .ok (.aload_n 0, 1) := by decide +kernel
theorem dX9_isShort_47 : decode cX9_isShort 47 = .ok (.getfield 75, 3) := by decide +kernel
theorem dX9_isShort_50 : decode cX9_isShort 50 = .ok (.iload_n 1, 1) := by decide +kernel
theorem dX9_isShort_51 : decode cX9_isShort 51 = .ok (.iaload, 1) := by decide +kernel
theorem dX9_isShort_52 : decode cX9_isShort 52 = .ok (.ifCond .gt 8, 3) := by decide +kernel
theorem dX9_isShort_55 : decode cX9_isShort 55 = .ok (.aload_n 0, 1) := by decide +kernel
theorem dX9_isShort_56 : decode cX9_isShort 56 = .ok (.iload_n 1, 1) := by decide +kernel
theorem dX9_isShort_57 : decode cX9_isShort 57 = .ok (.invokevirtual 227, 3) := by decide +kernel
theorem dX9_isShort_60 : decode cX9_isShort 60 = .ok (.return_, 1) := by decide +kernel
theorem dX9_mayMake_0 : decode cX9_mayMake 0 = .ok (.aload_n 0, 1) := by decide +kernel
theorem dX9_mayMake_1 : decode cX9_mayMake 1 = .ok (.getfield 35, 3) := by decide +kernel
theorem dX9_mayMake_4 : decode cX9_mayMake 4 = .ok (.aload_n 0, 1) := by decide +kernel
theorem dX9_mayMake_5 : decode cX9_mayMake 5 = .ok (.getfield 48, 3) := by decide +kernel
theorem dX9_mayMake_8 : decode cX9_mayMake 8 = .ok (.iload_n 1, 1) := by decide +kernel
theorem dX9_mayMake_9 : decode cX9_mayMake 9 = .ok (.iaload, 1) := by decide +kernel
theorem dX9_mayMake_10 : decode cX9_mayMake 10 = .ok (.iaload, 1) := by decide +kernel
theorem dX9_mayMake_11 : decode cX9_mayMake 11 = .ok (.ifCond .le 17, 3) := by decide +kernel
theorem dX9_mayMake_14 : decode cX9_mayMake 14 = .ok (.aload_n 0, 1) := by decide +kernel
theorem dX9_mayMake_15 : decode cX9_mayMake 15 = .ok (.getfield 205, 3) := by decide +kernel
theorem dX9_mayMake_18 : decode cX9_mayMake 18 = .ok (.sipush 900, 3) := by decide +kernel
theorem dX9_mayMake_21 : decode cX9_mayMake 21 = .ok (.if_icmp .ge 7, 3) := by decide +kernel
theorem dX9_mayMake_24 : decode cX9_mayMake 24 = .ok (.iconst 1, 1) := by decide +kernel
theorem dX9_mayMake_25 : decode cX9_mayMake 25 = .ok (.goto 4, 3) := by decide +kernel
end
section
theorem dX9_mayMake_28 : decode cX9_mayMake 28 = .ok (.iconst 0, 1) := by decide +kernel
theorem dX9_mayMake_29 : decode cX9_mayMake 29 = .ok (.ireturn, 1) := by decide +kernel
theorem dX9_cycle_0 : decode cX9_cycle 0 = .ok (.aload_n 0, 1) := by decide +kernel
theorem dX9_cycle_1 : decode cX9_cycle 1 = .ok (.iload_n 1, 1) := by decide +kernel
theorem dX9_cycle_2 : decode cX9_cycle 2 = .ok (.invokevirtual 208, 3) := by decide +kernel
theorem dX9_cycle_5 : decode cX9_cycle 5 = .ok (.ifCond .eq 61, 3) := by decide +kernel
theorem dX9_cycle_8 : decode cX9_cycle 8 = .ok (.iconst 1, 1) := by decide +kernel
theorem dX9_cycle_9 : decode cX9_cycle 9 = .ok (.istore_n 2, 1) := by decide +kernel
theorem dX9_cycle_10 : decode cX9_cycle 10 = .ok (.iload_n 2, 1) := by decide +kernel
theorem dX9_cycle_11 : decode cX9_cycle 11 = .ok (.ifCond .eq 54, 3) := by decide +kernel
theorem dX9_cycle_14 : decode cX9_cycle 14 = .ok (.aload_n 0, 1) := by decide +kernel
theorem dX9_cycle_15 : decode cX9_cycle 15 = .ok (.iload_n 1, 1) := by decide +kernel
theorem dX9_cycle_16 : decode cX9_cycle 16 = .ok (.invokevirtual 233, 3) := by decide +kernel
theorem dX9_cycle_19 : decode cX9_cycle 19 = .ok (.ifCond .ne 9, 3) := by decide +kernel
theorem dX9_cycle_22 : decode cX9_cycle 22 = .ok (.aload_n 0, 1) := by decide +kernel
theorem dX9_cycle_23 : decode cX9_cycle 23 = .ok (.iload_n 1, 1) := by decide +kernel
theorem dX9_cycle_24 : decode cX9_cycle 24 = .ok (.invokevirtual 236, 3) := by decide +kernel
theorem dX9_cycle_27 : decode cX9_cycle 27 = .ok (.return_, 1) := by decide +kernel
theorem dX9_cycle_28 : decode cX9_cycle 28 = .ok (.aload_n 0, 1) := by decide +kernel
theorem dX9_cycle_29 : decode cX9_cycle 29 = .ok (.iload_n 1, 1) := by decide +kernel
theorem dX9_cycle_30 : decode cX9_cycle 30 = .ok (.invokevirtual 239, 3) := by decide +kernel
theorem dX9_cycle_33 : decode cX9_cycle 33 = .ok (.aload_n 0, 1) := by decide +kernel
theorem dX9_cycle_34 : decode cX9_cycle 34 = .ok (.getfield 87, 3) := by decide +kernel
theorem dX9_cycle_37 : decode cX9_cycle 37 = .ok (.iload_n 1, 1) := by decide +kernel
theorem dX9_cycle_38 : decode cX9_cycle 38 = .ok (.baload, 1) := by decide +kernel
theorem dX9_cycle_39 : decode cX9_cycle 39 = .ok (.ifCond .eq 21, 3) := by decide +kernel
theorem dX9_cycle_42 : decode cX9_cycle 42 = .ok (.aload_n 0, 1) := by decide +kernel
theorem dX9_cycle_43 : decode cX9_cycle 43 = .ok (.getfield 35, 3) := by decide +kernel
theorem dX9_cycle_46 : decode cX9_cycle 46 = .ok (.aload_n 0, 1) := by decide +kernel
theorem dX9_cycle_47 : decode cX9_cycle 47 = .ok (.getfield 48, 3) := by decide +kernel
theorem dX9_cycle_50 : decode cX9_cycle 50 = .ok (.iload_n 1, 1) := by decide +kernel
theorem dX9_cycle_51 : decode cX9_cycle 51 = .ok (.iaload, 1) := by decide +kernel
theorem dX9_cycle_52 : decode cX9_cycle 52 = .ok (.iaload, 1) := by decide +kernel
theorem dX9_cycle_53 : decode cX9_cycle 53 = .ok (.ifCond .le 7, 3) := by decide +kernel
theorem dX9_cycle_56 : decode cX9_cycle 56 = .ok (.iconst 1, 1) := by decide +kernel
theorem dX9_cycle_57 : decode cX9_cycle 57 = .ok (.goto 4, 3) := by decide +kernel
theorem dX9_cycle_60 : decode cX9_cycle 60 = .ok (.iconst 0, 1) := by decide +kernel
theorem dX9_cycle_61 : decode cX9_cycle 61 = .ok (.istore_n 2, 1) := by decide +kernel
theorem dX9_cycle_62 : decode cX9_cycle 62 = .ok (.goto (-52), 3) := by decide +kernel
theorem dX9_cycle_65 : decode cX9_cycle 65 = .ok (.return_, 1) := by decide +kernel
theorem dX9_cycle_66 : decode cX9_cycle 66 = .ok (.aload_n 0, 1) := by decide +kernel
theorem dX9_cycle_67 : decode cX9_cycle 67 = .ok (.getfield 72, 3) := by decide +kernel
theorem dX9_cycle_70 : decode cX9_cycle 70 = .ok (.iload_n 1, 1) := by decide +kernel
theorem dX9_cycle_71 : decode cX9_cycle 71 = .ok (.dup2, 1) := by decide +kernel
theorem dX9_cycle_72 : decode cX9_cycle 72 = .ok (.iaload, 1) := by decide +kernel
theorem dX9_cycle_73 : decode cX9_cycle 73 = .ok (.aload_n 0, 1) := by decide +kernel
theorem dX9_cycle_74 : decode cX9_cycle 74 = .ok (.getfield 78, 3) := by decide +kernel
theorem dX9_cycle_77 : decode cX9_cycle 77 = .ok (.iload_n 1, 1) := by decide +kernel
theorem dX9_cycle_78 : decode cX9_cycle 78 = .ok (.baload, 1) := by decide +kernel
theorem dX9_cycle_79 : decode cX9_cycle 79 = .ok (.ifCond .eq 7, 3) := by decide +kernel
theorem dX9_cycle_82 : decode cX9_cycle 82 = .ok (.iconst 1, 1) := by decide +kernel
theorem dX9_cycle_83 : decode cX9_cycle 83 = .ok (.goto 4, 3) := by decide +kernel
theorem dX9_cycle_86 : decode cX9_cycle 86 = .ok (.iconst 0, 1) := by decide +kernel
theorem dX9_cycle_87 : decode cX9_cycle 87 = .ok (.isub, 1) := by decide +kernel
theorem dX9_cycle_88 : decode cX9_cycle 88 = .ok (.iastore, 1) := by decide +kernel
theorem dX9_cycle_89 : decode cX9_cycle 89 = .ok (.aload_n 0, 1) := by decide +kernel
theorem dX9_cycle_90 : decode cX9_cycle 90 = .ok (.getfield 78, 3) := by decide +kernel
theorem dX9_cycle_93 : decode cX9_cycle 93 = .ok (.iload_n 1, 1) := by decide +kernel
theorem dX9_cycle_94 : decode cX9_cycle 94 = .ok (.baload, 1) := by decide +kernel
theorem dX9_cycle_95 : decode cX9_cycle 95 = .ok (.ifCond .eq 13, 3) := by decide +kernel
theorem dX9_cycle_98 : decode cX9_cycle 98 = .ok (.aload_n 0, 1) := by decide +kernel
theorem dX9_cycle_99 : decode cX9_cycle 99 = .ok (.getfield 72, 3) := by decide +kernel
theorem dX9_cycle_102 : decode cX9_cycle 102 = .ok (.iload_n 1, 1) := by decide +kernel
theorem dX9_cycle_103 : decode cX9_cycle 103 = .ok (.iaload, 1) := by decide +kernel
theorem dX9_cycle_104 : decode cX9_cycle 104 = .ok (.ifCond .le 4, 3) := by decide +kernel
theorem dX9_cycle_107 : decode cX9_cycle 107 = .ok (.return_, 1) := by decide +kernel
theorem dX9_cycle_108 : decode cX9_cycle 108 = .ok (.aload_n 0, 1) := by decide +kernel
theorem dX9_cycle_109 : decode cX9_cycle 109 = .ok (.iload_n 1, 1) := by decide +kernel
theorem dX9_cycle_110 : decode cX9_cycle 110 = .ok (.invokevirtual 233, 3) := by decide +kernel
theorem dX9_cycle_113 : decode cX9_cycle 113 = .ok (.ifCond .eq 11, 3) := by decide +kernel
theorem dX9_cycle_116 : decode cX9_cycle 116 = .ok (.aload_n 0, 1) := by decide +kernel
theorem dX9_cycle_117 : decode cX9_cycle 117 = .ok (.iload_n 1, 1) := by decide +kernel
theorem dX9_cycle_118 : decode cX9_cycle 118 = .ok (.invokevirtual 239, 3) := by decide +kernel
theorem dX9_cycle_121 : decode cX9_cycle 121 = .ok (.goto 8, 3) := by decide +kernel
theorem dX9_cycle_124 : decode cX9_cycle 124 = .ok (.aload_n 0, 1) := by decide +kernel
theorem dX9_cycle_125 : decode cX9_cycle 125 = .ok (.iload_n 1, 1) := by decide +kernel
theorem dX9_cycle_126 : decode cX9_cycle 126 = .ok (.invokevirtual 236, 3) := by decide +kernel
theorem dX9_cycle_129 : decode cX9_cycle 129 = .ok (.return_, 1) := by decide +kernel
theorem dX9_step_0 : decode cX9_step 0 = .ok (.aload_n 0, 1) := by decide +kernel
theorem dX9_step_1 : decode cX9_step 1 = .ok (.dup, 1) := by decide +kernel
theorem dX9_step_2 : decode cX9_step 2 = .ok (.getfield 199, 3) := by decide +kernel
theorem dX9_step_5 : decode cX9_step 5 = .ok (.iconst 1, 1) := by decide +kernel
theorem dX9_step_6 : decode cX9_step 6 = .ok (.iadd, 1) := by decide +kernel
theorem dX9_step_7 : decode cX9_step 7 = .ok (.putfield 199, 3) := by decide +kernel
theorem dX9_step_10 : decode cX9_step 10 = .ok (.iconst 0, 1) := by decide +kernel
theorem dX9_step_11 : decode cX9_step 11 = .ok (.istore_n 1, 1) := by decide +kernel
theorem dX9_step_12 : decode cX9_step 12 = .ok (.iload_n 1, 1) := by decide +kernel
theorem dX9_step_13 : decode cX9_step 13 = .ok (.aload_n 0, 1) := by decide +kernel
theorem dX9_step_14 : decode cX9_step 14 = .ok (.getfield 202, 3) := by decide +kernel
theorem dX9_step_17 : decode cX9_step 17 = .ok (.if_icmp .ge 53, 3) := by decide +kernel
theorem dX9_step_20 : decode cX9_step 20 = .ok (.aload_n 0, 1) := by decide +kernel
theorem dX9_step_21 : decode cX9_step 21 = .ok (.getfield 90, 3) := by decide +kernel
theorem dX9_step_24 : decode cX9_step 24 = .ok (.iload_n 1, 1) := by decide +kernel
theorem dX9_step_25 : decode cX9_step 25 = .ok (.baload, 1) := by decide +kernel
theorem dX9_step_26 : decode cX9_step 26 = .ok (.ifCond .eq 38, 3) := by decide +kernel
theorem dX9_step_29 : decode cX9_step 29 = .ok (.aload_n 0, 1) := by decide +kernel
theorem dX9_step_30 : decode cX9_step 30 = .ok (.getfield 111, 3) := by decide +kernel
theorem dX9_step_33 : decode cX9_step 33 = .ok (.iload_n 1, 1) := by decide +kernel
theorem dX9_step_34 : decode cX9_step 34 = .ok (.iaload, 1) := by decide +kernel
theorem dX9_step_35 : decode cX9_step 35 = .ok (.ifCond .le 29, 3) := by decide +kernel
theorem dX9_step_38 : decode cX9_step 38 = .ok (.aload_n 0, 1) := by decide +kernel
theorem dX9_step_39 : decode cX9_step 39 = .ok (.getfield 199, 3) := by decide +kernel
theorem dX9_step_42 : decode cX9_step 42 = .ok (.aload_n 0, 1) := by decide +kernel
theorem dX9_step_43 : decode cX9_step 43 = .ok (.getfield 99, 3) := by decide +kernel
theorem dX9_step_46 : decode cX9_step 46 = .ok (.iload_n 1, 1) := by decide +kernel
theorem dX9_step_47 : decode cX9_step 47 = .ok (.iaload, 1) := by decide +kernel
theorem dX9_step_48 : decode cX9_step 48 = .ok (.isub, 1) := by decide +kernel
theorem dX9_step_49 : decode cX9_step 49 = .ok (.aload_n 0, 1) := by decide +kernel
theorem dX9_step_50 : decode cX9_step 50 = .ok (.getfield 102, 3) := by decide +kernel
theorem dX9_step_53 : decode cX9_step 53 = .ok (.iload_n 1, 1) := by decide +kernel
theorem dX9_step_54 : decode cX9_step 54 = .ok (.iaload, 1) := by decide +kernel
theorem dX9_step_55 : decode cX9_step 55 = .ok (.irem, 1) := by decide +kernel
theorem dX9_step_56 : decode cX9_step 56 = .ok (.ifCond .ne 8, 3) := by decide +kernel
theorem dX9_step_59 : decode cX9_step 59 = .ok (.aload_n 0, 1) := by decide +kernel
theorem dX9_step_60 : decode cX9_step 60 = .ok (.iload_n 1, 1) := by decide +kernel
theorem dX9_step_61 : decode cX9_step 61 = .ok (.invokevirtual 242, 3) := by decide +kernel
theorem dX9_step_64 : decode cX9_step 64 = .ok (.iinc 1 1, 3) := by decide +kernel
theorem dX9_step_67 : decode cX9_step 67 = .ok (.goto (-55), 3) := by decide +kernel
theorem dX9_step_70 : decode cX9_step 70 = .ok (.iconst 0, 1) := by decide +kernel
theorem dX9_step_71 : decode cX9_step 71 = .ok (.istore_n 1, 1) := by decide +kernel
theorem dX9_step_72 : decode cX9_step 72 = .ok (.iload_n 1, 1) := by decide +kernel
theorem dX9_step_73 : decode cX9_step 73 = .ok (.aload_n 0, 1) := by decide +kernel
theorem dX9_step_74 : decode cX9_step 74 = .ok (.getfield 224, 3) := by decide +kernel
theorem dX9_step_77 : decode cX9_step 77 = .ok (.if_icmp .ge 44, 3) := by decide +kernel
theorem dX9_step_80 : decode cX9_step 80 = .ok (.aload_n 0, 1) := by decide +kernel
theorem dX9_step_81 : decode cX9_step 81 = .ok (.getfield 44, 3) := by decide +kernel
theorem dX9_step_84 : decode cX9_step 84 = .ok (.iload_n 1, 1) := by decide +kernel
theorem dX9_step_85 : decode cX9_step 85 = .ok (.baload, 1) := by decide +kernel
theorem dX9_step_86 : decode cX9_step 86 = .ok (.ifCond .eq 29, 3) := by decide +kernel
theorem dX9_step_89 : decode cX9_step 89 = .ok (.aload_n 0, 1) := by decide +kernel
theorem dX9_step_90 : decode cX9_step 90 = .ok (.getfield 199, 3) := by decide +kernel
theorem dX9_step_93 : decode cX9_step 93 = .ok (.aload_n 0, 1) := by decide +kernel
theorem dX9_step_94 : decode cX9_step 94 = .ok (.getfield 51, 3) := by decide +kernel
theorem dX9_step_97 : decode cX9_step 97 = .ok (.iload_n 1, 1) := by decide +kernel
theorem dX9_step_98 : decode cX9_step 98 = .ok (.iaload, 1) := by decide +kernel
theorem dX9_step_99 : decode cX9_step 99 = .ok (.isub, 1) := by decide +kernel
theorem dX9_step_100 : decode cX9_step 100 = .ok (.aload_n 0, 1) := by decide +kernel
theorem dX9_step_101 : decode cX9_step 101 = .ok (.getfield 54, 3) := by decide +kernel
theorem dX9_step_104 : decode cX9_step 104 = .ok (.iload_n 1, 1) := by decide +kernel
theorem dX9_step_105 : decode cX9_step 105 = .ok (.iaload, 1) := by decide +kernel
theorem dX9_step_106 : decode cX9_step 106 = .ok (.irem, 1) := by decide +kernel
theorem dX9_step_107 : decode cX9_step 107 = .ok (.ifCond .ne 8, 3) := by decide +kernel
theorem dX9_step_110 : decode cX9_step 110 = .ok (.aload_n 0, 1) := by decide +kernel
theorem dX9_step_111 : decode cX9_step 111 = .ok (.iload_n 1, 1) := by decide +kernel
theorem dX9_step_112 : decode cX9_step 112 = .ok (.invokevirtual 245, 3) := by decide +kernel
theorem dX9_step_115 : decode cX9_step 115 = .ok (.iinc 1 1, 3) := by decide +kernel
theorem dX9_step_118 : decode cX9_step 118 = .ok (.goto (-46), 3) := by decide +kernel
theorem dX9_step_121 : decode cX9_step 121 = .ok (.iconst 0, 1) := by decide +kernel
theorem dX9_step_122 : decode cX9_step 122 = .ok (.istore_n 1, 1) := by decide +kernel
theorem dX9_step_123 : decode cX9_step 123 = .ok (.iload_n 1, 1) := by decide +kernel
theorem dX9_step_124 : decode cX9_step 124 = .ok (.aload_n 0, 1) := by decide +kernel
theorem dX9_step_125 : decode cX9_step 125 = .ok (.getfield 248, 3) := by decide +kernel
theorem dX9_step_128 : decode cX9_step 128 = .ok (.if_icmp .ge 38, 3) := by decide +kernel
theorem dX9_step_131 : decode cX9_step 131 = .ok (.aload_n 0, 1) := by decide +kernel
theorem dX9_step_132 : decode cX9_step 132 = .ok (.getfield 32, 3) := by decide +kernel
theorem dX9_step_135 : decode cX9_step 135 = .ok (.iload_n 1, 1) := by decide +kernel
theorem dX9_step_136 : decode cX9_step 136 = .ok (.iaload, 1) := by decide +kernel
theorem dX9_step_137 : decode cX9_step 137 = .ok (.iconst 2, 1) := by decide +kernel
theorem dX9_step_138 : decode cX9_step 138 = .ok (.if_icmp .eq 22, 3) := by decide +kernel
theorem dX9_step_141 : decode cX9_step 141 = .ok (.aload_n 0, 1) := by decide +kernel
theorem dX9_step_142 : decode cX9_step 142 = .ok (.getfield 29, 3) := by decide +kernel
theorem dX9_step_145 : decode cX9_step 145 = .ok (.iload_n 1, 1) := by decide +kernel
theorem dX9_step_146 : decode cX9_step 146 = .ok (.iaload, 1) := by decide +kernel
theorem dX9_step_147 : decode cX9_step 147 = .ok (.aload_n 0, 1) := by decide +kernel
theorem dX9_step_148 : decode cX9_step 148 = .ok (.getfield 199, 3) := by decide +kernel
theorem dX9_step_151 : decode cX9_step 151 = .ok (.if_icmp .ne 9, 3) := by decide +kernel
theorem dX9_step_154 : decode cX9_step 154 = .ok (.aload_n 0, 1) := by decide +kernel
theorem dX9_step_155 : decode cX9_step 155 = .ok (.iload_n 1, 1) := by decide +kernel
theorem dX9_step_156 : decode cX9_step 156 = .ok (.invokevirtual 251, 3) := by decide +kernel
theorem dX9_step_159 : decode cX9_step 159 = .ok (.istore_n 2, 1) := by decide +kernel
theorem dX9_step_160 : decode cX9_step 160 = .ok (.iinc 1 1, 3) := by decide +kernel
theorem dX9_step_163 : decode cX9_step 163 = .ok (.goto (-40), 3) := by decide +kernel
theorem dX9_step_166 : decode cX9_step 166 = .ok (.return_, 1) := by decide +kernel
theorem dX9_tick_0 : decode cX9_tick 0 = .ok (.iload_n 1, 1) := by decide +kernel
theorem dX9_tick_1 : decode cX9_tick 1 = .ok (.i2l, 1) := by decide +kernel
theorem dX9_tick_2 : decode cX9_tick 2 = .ok (.lconst 1, 1) := by decide +kernel
theorem dX9_tick_3 : decode cX9_tick 3 = .ok (.ldc2_w 254, 3) := by decide +kernel
theorem dX9_tick_6 : decode cX9_tick 6 = .ok (.invokestatic 171, 3) := by decide +kernel
theorem dX9_tick_9 : decode cX9_tick 9 = .ok (.ifCond .ne 10, 3) := by decide +kernel
theorem dX9_tick_12 : decode cX9_tick 12 = .ok (.aload_n 0, 1) := by decide +kernel
theorem dX9_tick_13 : decode cX9_tick 13 = .ok (.bipush (-7), 2) := by decide +kernel
theorem dX9_tick_15 : decode cX9_tick 15 = .ok (.invokevirtual 175, 3) := by decide +kernel
theorem dX9_tick_18 : decode cX9_tick 18 = .ok (.ireturn, 1) := by decide +kernel
theorem dX9_tick_19 : decode cX9_tick 19 = .ok (.aload_n 0, 1) := by decide +kernel
theorem dX9_tick_20 : decode cX9_tick 20 = .ok (.getfield 199, 3) := by decide +kernel
theorem dX9_tick_23 : decode cX9_tick 23 = .ok (.iload_n 1, 1) := by decide +kernel
theorem dX9_tick_24 : decode cX9_tick 24 = .ok (.iadd, 1) := by decide +kernel
theorem dX9_tick_25 : decode cX9_tick 25 = .ok (.ldc_w 256, 3) := by decide +kernel
theorem dX9_tick_28 : decode cX9_tick 28 = .ok (.if_icmp .le 10, 3) := by decide +kernel
theorem dX9_tick_31 : decode cX9_tick 31 = .ok (.aload_n 0, 1) := by decide +kernel
theorem dX9_tick_32 : decode cX9_tick 32 = .ok (.bipush (-8), 2) := by decide +kernel
theorem dX9_tick_34 : decode cX9_tick 34 = .ok (.invokevirtual 175, 3) := by decide +kernel
theorem dX9_tick_37 : decode cX9_tick 37 = .ok (.ireturn, 1) := by decide +kernel
theorem dX9_tick_38 : decode cX9_tick 38 = .ok (.aload_n 0, 1) := by decide +kernel
theorem dX9_tick_39 : decode cX9_tick 39 = .ok (.getfield 205, 3) := by decide +kernel
theorem dX9_tick_42 : decode cX9_tick 42 = .ok (.istore_n 2, 1) := by decide +kernel
theorem dX9_tick_43 : decode cX9_tick 43 = .ok (.iconst 0, 1) := by decide +kernel
theorem dX9_tick_44 : decode cX9_tick 44 = .ok (.istore_n 3, 1) := by decide +kernel
theorem dX9_tick_45 : decode cX9_tick 45 = .ok (.iload_n 3, 1) := by decide +kernel
theorem dX9_tick_46 : decode cX9_tick 46 = .ok (.iload_n 1, 1) := by decide +kernel
theorem dX9_tick_47 : decode cX9_tick 47 = .ok (.if_icmp .ge 13, 3) := by decide +kernel
theorem dX9_tick_50 : decode cX9_tick 50 = .ok (.aload_n 0, 1) := by decide +kernel
theorem dX9_tick_51 : decode cX9_tick 51 = .ok (.invokevirtual 257, 3) := by decide +kernel
theorem dX9_tick_54 : decode cX9_tick 54 = .ok (.iinc 3 1, 3) := by decide +kernel
theorem dX9_tick_57 : decode cX9_tick 57 = .ok (.goto (-12), 3) := by decide +kernel
theorem dX9_tick_60 : decode cX9_tick 60 = .ok (.aload_n 0, 1) := by decide +kernel
theorem dX9_tick_61 : decode cX9_tick 61 = .ok (.getfield 205, 3) := by decide +kernel
theorem dX9_tick_64 : decode cX9_tick 64 = .ok (.iload_n 2, 1) := by decide +kernel
theorem dX9_tick_65 : decode cX9_tick 65 = .ok (.isub, 1) := by decide +kernel
theorem dX9_tick_66 : decode cX9_tick 66 = .ok (.ireturn, 1) := by decide +kernel
theorem dX9_session_0 : decode cX9_session 0 = .ok (.iload_n 1, 1) := by decide +kernel
theorem dX9_session_1 : decode cX9_session 1 = .ok (.i2l, 1) := by decide +kernel
theorem dX9_session_2 : decode cX9_session 2 = .ok (.lconst 1, 1) := by decide +kernel
theorem dX9_session_3 : decode cX9_session 3 = .ok (.ldc2_w 254, 3) := by decide +kernel
theorem dX9_session_6 : decode cX9_session 6 = .ok (.invokestatic 171, 3) := by decide +kernel
theorem dX9_session_9 : decode cX9_session 9 = .ok (.ifCond .ne 10, 3) := by decide +kernel
theorem dX9_session_12 : decode cX9_session 12 = .ok (.aload_n 0, 1) := by decide +kernel
theorem dX9_session_13 : decode cX9_session 13 = .ok (.bipush (-7), 2) := by decide +kernel
theorem dX9_session_15 : decode cX9_session 15 = .ok (.invokevirtual 175, 3) := by decide +kernel
theorem dX9_session_18 : decode cX9_session 18 = .ok (.ireturn, 1) := by decide +kernel
theorem dX9_session_19 : decode cX9_session 19 = .ok (.aload_n 0, 1) := by decide +kernel
theorem dX9_session_20 : decode cX9_session 20 = .ok (.getfield 248, 3) := by decide +kernel
theorem dX9_session_23 : decode cX9_session 23 = .ok (.bipush 12, 2) := by decide +kernel
theorem dX9_session_25 : decode cX9_session 25 = .ok (.if_icmp .ne 10, 3) := by decide +kernel
theorem dX9_session_28 : decode cX9_session 28 = .ok (.aload_n 0, 1) := by decide +kernel
theorem dX9_session_29 : decode cX9_session 29 = .ok (.bipush (-8), 2) := by decide +kernel
theorem dX9_session_31 : decode cX9_session 31 = .ok (.invokevirtual 175, 3) := by decide +kernel
theorem dX9_session_34 : decode cX9_session 34 = .ok (.ireturn, 1) := by decide +kernel
theorem dX9_session_35 : decode cX9_session 35 = .ok (.aload_n 0, 1) := by decide +kernel
theorem dX9_session_36 : decode cX9_session 36 = .ok (.getfield 26, 3) := by decide +kernel
theorem dX9_session_39 : decode cX9_session 39 = .ok (.aload_n 0, 1) := by decide +kernel
theorem dX9_session_40 : decode cX9_session 40 = .ok (.getfield 248, 3) := by decide +kernel
theorem dX9_session_43 : decode cX9_session 43 = .ok (.iload_n 1, 1) := by decide +kernel
theorem dX9_session_44 : decode cX9_session 44 = .ok (.iastore, 1) := by decide +kernel
theorem dX9_session_45 : decode cX9_session 45 = .ok (.aload_n 0, 1) := by decide +kernel
theorem dX9_session_46 : decode cX9_session 46 = .ok (.getfield 29, 3) := by decide +kernel
theorem dX9_session_49 : decode cX9_session 49 = .ok (.aload_n 0, 1) := by decide +kernel
theorem dX9_session_50 : decode cX9_session 50 = .ok (.getfield 248, 3) := by decide +kernel
theorem dX9_session_53 : decode cX9_session 53 = .ok (.aload_n 0, 1) := by decide +kernel
theorem dX9_session_54 : decode cX9_session 54 = .ok (.getfield 199, 3) := by decide +kernel
theorem dX9_session_57 : decode cX9_session 57 = .ok (.iload_n 1, 1) := by decide +kernel
theorem dX9_session_58 : decode cX9_session 58 = .ok (.iadd, 1) := by decide +kernel
theorem dX9_session_59 : decode cX9_session 59 = .ok (.iastore, 1) := by decide +kernel
theorem dX9_session_60 : decode cX9_session 60 = .ok (.aload_n 0, 1) := by decide +kernel
theorem dX9_session_61 : decode cX9_session 61 = .ok (.getfield 32, 3) := by decide +kernel
theorem dX9_session_64 : decode cX9_session 64 = .ok (.aload_n 0, 1) := by decide +kernel
theorem dX9_session_65 : decode cX9_session 65 = .ok (.getfield 248, 3) := by decide +kernel
theorem dX9_session_68 : decode cX9_session 68 = .ok (.iconst 0, 1) := by decide +kernel
theorem dX9_session_69 : decode cX9_session 69 = .ok (.iastore, 1) := by decide +kernel
theorem dX9_session_70 : decode cX9_session 70 = .ok (.aload_n 0, 1) := by decide +kernel
theorem dX9_session_71 : decode cX9_session 71 = .ok (.dup, 1) := by decide +kernel
theorem dX9_session_72 : decode cX9_session 72 = .ok (.getfield 248, 3) := by decide +kernel
theorem dX9_session_75 : decode cX9_session 75 = .ok (.iconst 1, 1) := by decide +kernel
theorem dX9_session_76 : decode cX9_session 76 = .ok (.iadd, 1) := by decide +kernel
theorem dX9_session_77 : decode cX9_session 77 = .ok (.putfield 248, 3) := by decide +kernel
theorem dX9_session_80 : decode cX9_session 80 = .ok (.aload_n 0, 1) := by decide +kernel
theorem dX9_session_81 : decode cX9_session 81 = .ok (.getfield 248, 3) := by decide +kernel
theorem dX9_session_84 : decode cX9_session 84 = .ok (.iconst 1, 1) := by decide +kernel
theorem dX9_session_85 : decode cX9_session 85 = .ok (.isub, 1) := by decide +kernel
theorem dX9_session_86 : decode cX9_session 86 = .ok (.ireturn, 1) := by decide +kernel
theorem dX9_activate_0 : decode cX9_activate 0 = .ok (.iload_n 1, 1) := by decide +kernel
theorem dX9_activate_1 : decode cX9_activate 1 = .ok (.i2l, 1) := by decide +kernel
theorem dX9_activate_2 : decode cX9_activate 2 = .ok (.lconst 0, 1) := by decide +kernel
theorem dX9_activate_3 : decode cX9_activate 3 = .ok (.aload_n 0, 1) := by decide +kernel
theorem dX9_activate_4 : decode cX9_activate 4 = .ok (.getfield 248, 3) := by decide +kernel
theorem dX9_activate_7 : decode cX9_activate 7 = .ok (.iconst 1, 1) := by decide +kernel
theorem dX9_activate_8 : decode cX9_activate 8 = .ok (.isub, 1) := by decide +kernel
theorem dX9_activate_9 : decode cX9_activate 9 = .ok (.i2l, 1) := by decide +kernel
theorem dX9_activate_10 : decode cX9_activate 10 = .ok (.invokestatic 171, 3) := by decide +kernel
theorem dX9_activate_13 : decode cX9_activate 13 = .ok (.ifCond .ne 9, 3) := by decide +kernel
theorem dX9_activate_16 : decode cX9_activate 16 = .ok (.aload_n 0, 1) := by decide +kernel
theorem dX9_activate_17 : decode cX9_activate 17 = .ok (.iconst (-1), 1) := by decide +kernel
theorem dX9_activate_18 : decode cX9_activate 18 = .ok (.invokevirtual 175, 3) := by decide +kernel
theorem dX9_activate_21 : decode cX9_activate 21 = .ok (.ireturn, 1) := by decide +kernel
theorem dX9_activate_22 : decode cX9_activate 22 = .ok (.aload_n 0, 1) := by decide +kernel
theorem dX9_activate_23 : decode cX9_activate 23 = .ok (.getfield 32, 3) := by decide +kernel
theorem dX9_activate_26 : decode cX9_activate 26 = .ok (.iload_n 1, 1) := by decide +kernel
theorem dX9_activate_27 : decode cX9_activate 27 = .ok (.iaload, 1) := by decide +kernel
theorem dX9_activate_28 : decode cX9_activate 28 = .ok (.iconst 2, 1) := by decide +kernel
theorem dX9_activate_29 : decode cX9_activate 29 = .ok (.if_icmp .ne 10, 3) := by decide +kernel
theorem dX9_activate_32 : decode cX9_activate 32 = .ok (.aload_n 0, 1) := by decide +kernel
theorem dX9_activate_33 : decode cX9_activate 33 = .ok (.bipush (-2), 2) := by decide +kernel
theorem dX9_activate_35 : decode cX9_activate 35 = .ok (.invokevirtual 175, 3) := by decide +kernel
theorem dX9_activate_38 : decode cX9_activate 38 = .ok (.ireturn, 1) := by decide +kernel
theorem dX9_activate_39 : decode cX9_activate 39 = .ok (.aload_n 0, 1) := by decide +kernel
theorem dX9_activate_40 : decode cX9_activate 40 = .ok (.getfield 32, 3) := by decide +kernel
theorem dX9_activate_43 : decode cX9_activate 43 = .ok (.iload_n 1, 1) := by decide +kernel
theorem dX9_activate_44 : decode cX9_activate 44 = .ok (.iconst 1, 1) := by decide +kernel
theorem dX9_activate_45 : decode cX9_activate 45 = .ok (.iastore, 1) := by decide +kernel
theorem dX9_activate_46 : decode cX9_activate 46 = .ok (.aload_n 0, 1) := by decide +kernel
theorem dX9_activate_47 : decode cX9_activate 47 = .ok (.getfield 29, 3) := by decide +kernel
theorem dX9_activate_50 : decode cX9_activate 50 = .ok (.iload_n 1, 1) := by decide +kernel
theorem dX9_activate_51 : decode cX9_activate 51 = .ok (.aload_n 0, 1) := by decide +kernel
theorem dX9_activate_52 : decode cX9_activate 52 = .ok (.getfield 199, 3) := by decide +kernel
theorem dX9_activate_55 : decode cX9_activate 55 = .ok (.aload_n 0, 1) := by decide +kernel
theorem dX9_activate_56 : decode cX9_activate 56 = .ok (.getfield 26, 3) := by decide +kernel
theorem dX9_activate_59 : decode cX9_activate 59 = .ok (.iload_n 1, 1) := by decide +kernel
theorem dX9_activate_60 : decode cX9_activate 60 = .ok (.iaload, 1) := by decide +kernel
theorem dX9_activate_61 : decode cX9_activate 61 = .ok (.iadd, 1) := by decide +kernel
theorem dX9_activate_62 : decode cX9_activate 62 = .ok (.iastore, 1) := by decide +kernel
theorem dX9_activate_63 : decode cX9_activate 63 = .ok (.iconst 1, 1) := by decide +kernel
theorem dX9_activate_64 : decode cX9_activate 64 = .ok (.ireturn, 1) := by decide +kernel
theorem dX9_lacks_0 : decode cX9_lacks 0 = .ok (.iload_n 1, 1) := by decide +kernel
theorem dX9_lacks_1 : decode cX9_lacks 1 = .ok (.i2l, 1) := by decide +kernel
theorem dX9_lacks_2 : decode cX9_lacks 2 = .ok (.lconst 0, 1) := by decide +kernel
theorem dX9_lacks_3 : decode cX9_lacks 3 = .ok (.aload_n 0, 1) := by decide +kernel
theorem dX9_lacks_4 : decode cX9_lacks 4 = .ok (.getfield 248, 3) := by decide +kernel
theorem dX9_lacks_7 : decode cX9_lacks 7 = .ok (.iconst 1, 1) := by decide +kernel
theorem dX9_lacks_8 : decode cX9_lacks 8 = .ok (.isub, 1) := by decide +kernel
theorem dX9_lacks_9 : decode cX9_lacks 9 = .ok (.i2l, 1) := by decide +kernel
theorem dX9_lacks_10 : decode cX9_lacks 10 = .ok (.invokestatic 171, 3) := by decide +kernel
theorem dX9_lacks_13 : decode cX9_lacks 13 = .ok (.ifCond .ne 5, 3) := by decide +kernel
theorem dX9_lacks_16 : decode cX9_lacks 16 = .ok (.iconst (-1), 1) := by decide +kernel
theorem dX9_lacks_17 : decode cX9_lacks 17 = .ok (.ireturn, 1) := by decide +kernel
theorem dX9_lacks_18 : decode cX9_lacks 18 = .ok (.aload_n 0, 1) := by decide +kernel
theorem dX9_lacks_19 : decode cX9_lacks 19 = .ok (.getfield 32, 3) := by decide +kernel
theorem dX9_lacks_22 : decode cX9_lacks 22 = .ok (.iload_n 1, 1) := by decide +kernel
theorem dX9_lacks_23 : decode cX9_lacks 23 = .ok (.iaload, 1) := by decide +kernel
theorem dX9_lacks_24 : decode cX9_lacks 24 = .ok (.iconst 1, 1) := by decide +kernel
theorem dX9_lacks_25 : decode cX9_lacks 25 = .ok (.if_icmp .eq 21, 3) := by decide +kernel
theorem dX9_lacks_28 : decode cX9_lacks 28 = .ok (.aload_n 0, 1) := by decide +kernel
theorem dX9_lacks_29 : decode cX9_lacks 29 = .ok (.getfield 32, 3) := by decide +kernel
theorem dX9_lacks_32 : decode cX9_lacks 32 = .ok (.iload_n 1, 1) := by decide +kernel
theorem dX9_lacks_33 : decode cX9_lacks 33 = .ok (.iaload, 1) := by decide +kernel
theorem dX9_lacks_34 : decode cX9_lacks 34 = .ok (.iconst 2, 1) := by decide +kernel
theorem dX9_lacks_35 : decode cX9_lacks 35 = .ok (.if_icmp .ne 8, 3) := by decide +kernel
theorem dX9_lacks_38 : decode cX9_lacks 38 = .ok (.bipush (-2), 2) := by decide +kernel
theorem dX9_lacks_40 : decode cX9_lacks 40 = .ok (.goto 5, 3) := by decide +kernel
theorem dX9_lacks_43 : decode cX9_lacks 43 = .ok (.bipush (-3), 2) := by decide +kernel
theorem dX9_lacks_45 : decode cX9_lacks 45 = .ok (.ireturn, 1) := by decide +kernel
theorem dX9_lacks_46 : decode cX9_lacks 46 = .ok (.aload_n 0, 1) := by decide +kernel
theorem dX9_lacks_47 : decode cX9_lacks 47 = .ok (.getfield 29, 3) := by decide +kernel
theorem dX9_lacks_50 : decode cX9_lacks 50 = .ok (.iload_n 1, 1) := by decide +kernel
theorem dX9_lacks_51 : decode cX9_lacks 51 = .ok (.aload_n 0, 1) := by decide +kernel
theorem dX9_lacks_52 : decode cX9_lacks 52 = .ok (.getfield 199, 3) := by decide +kernel
theorem dX9_lacks_55 : decode cX9_lacks 55 = .ok (.aload_n 0, 1) := by decide +kernel
theorem dX9_lacks_56 : decode cX9_lacks 56 = .ok (.getfield 26, 3) := by decide +kernel
theorem dX9_lacks_59 : decode cX9_lacks 59 = .ok (.iload_n 1, 1) := by decide +kernel
theorem dX9_lacks_60 : decode cX9_lacks 60 = .ok (.iaload, 1) := by decide +kernel
theorem dX9_lacks_61 : decode cX9_lacks 61 = .ok (.iadd, 1) := by decide +kernel
theorem dX9_lacks_62 : decode cX9_lacks 62 = .ok (.iastore, 1) := by decide +kernel
theorem dX9_lacks_63 : decode cX9_lacks 63 = .ok (.iconst 0, 1) := by decide +kernel
theorem dX9_lacks_64 : decode cX9_lacks 64 = .ok (.ireturn, 1) := by decide +kernel
theorem dX9_close_0 : decode cX9_close 0 = .ok (.aload_n 0, 1) := by decide +kernel
theorem dX9_close_1 : decode cX9_close 1 = .ok (.iload_n 1, 1) := by decide +kernel
theorem dX9_close_2 : decode cX9_close 2 = .ok (.invokevirtual 260, 3) := by decide +kernel
theorem dX9_close_5 : decode cX9_close 5 = .ok (.istore_n 2, 1) := by decide +kernel
theorem dX9_close_6 : decode cX9_close 6 = .ok (.iload_n 2, 1) := by decide +kernel
theorem dX9_close_7 : decode cX9_close 7 = .ok (.ifCond .ge 11, 3) := by decide +kernel
theorem dX9_close_10 : decode cX9_close 10 = .ok (.aload_n 0, 1) := by decide +kernel
theorem dX9_close_11 : decode cX9_close 11 = .ok (.iload_n 2, 1) := by decide +kernel
theorem dX9_close_12 : decode cX9_close 12 = .ok (.invokevirtual 175, 3) := by decide +kernel
theorem dX9_close_15 : decode cX9_close 15 = .ok (.goto 8, 3) := by decide +kernel
theorem dX9_close_18 : decode cX9_close 18 = .ok (.aload_n 0, 1) := by decide +kernel
theorem dX9_close_19 : decode cX9_close 19 = .ok (.iload_n 1, 1) := by decide +kernel
theorem dX9_close_20 : decode cX9_close 20 = .ok (.invokevirtual 251, 3) := by decide +kernel
theorem dX9_close_23 : decode cX9_close 23 = .ok (.ireturn, 1) := by decide +kernel
theorem dX9_browse_0 : decode cX9_browse 0 = .ok (.aload_n 0, 1) := by decide +kernel
theorem dX9_browse_1 : decode cX9_browse 1 = .ok (.iload_n 1, 1) := by decide +kernel
theorem dX9_browse_2 : decode cX9_browse 2 = .ok (.invokevirtual 260, 3) := by decide +kernel
theorem dX9_browse_5 : decode cX9_browse 5 = .ok (.istore 6, 2) := by decide +kernel
theorem dX9_browse_7 : decode cX9_browse 7 = .ok (.iload 6, 2) := by decide +kernel
theorem dX9_browse_9 : decode cX9_browse 9 = .ok (.ifCond .ge 8, 3) := by decide +kernel
theorem dX9_browse_12 : decode cX9_browse 12 = .ok (.iload 6, 2) := by decide +kernel
theorem dX9_browse_14 : decode cX9_browse 14 = .ok (.goto 34, 3) := by decide +kernel
theorem dX9_browse_17 : decode cX9_browse 17 = .ok (.aload_n 0, 1) := by decide +kernel
theorem dX9_browse_18 : decode cX9_browse 18 = .ok (.iload_n 2, 1) := by decide +kernel
theorem dX9_browse_19 : decode cX9_browse 19 = .ok (.invokevirtual 183, 3) := by decide +kernel
theorem dX9_browse_22 : decode cX9_browse 22 = .ok (.ifCond .ne 8, 3) := by decide +kernel
theorem dX9_browse_25 : decode cX9_browse 25 = .ok (.bipush (-4), 2) := by decide +kernel
theorem dX9_browse_27 : decode cX9_browse 27 = .ok (.goto 21, 3) := by decide +kernel
theorem dX9_browse_30 : decode cX9_browse 30 = .ok (.iload_n 3, 1) := by decide +kernel
theorem dX9_browse_31 : decode cX9_browse 31 = .ok (.i2l, 1) := by decide +kernel
theorem dX9_browse_32 : decode cX9_browse 32 = .ok (.lconst 0, 1) := by decide +kernel
theorem dX9_browse_33 : decode cX9_browse 33 = .ok (.ldc2_w 169, 3) := by decide +kernel
theorem dX9_browse_36 : decode cX9_browse 36 = .ok (.invokestatic 171, 3) := by decide +kernel
theorem dX9_browse_39 : decode cX9_browse 39 = .ok (.ifCond .ne 8, 3) := by decide +kernel
theorem dX9_browse_42 : decode cX9_browse 42 = .ok (.bipush (-7), 2) := by decide +kernel
theorem dX9_browse_44 : decode cX9_browse 44 = .ok (.goto 4, 3) := by decide +kernel
theorem dX9_browse_47 : decode cX9_browse 47 = .ok (.iconst 0, 1) := by decide +kernel
theorem dX9_browse_48 : decode cX9_browse 48 = .ok (.istore 6, 2) := by decide +kernel
theorem dX9_browse_50 : decode cX9_browse 50 = .ok (.iload 6, 2) := by decide +kernel
theorem dX9_browse_52 : decode cX9_browse 52 = .ok (.ifCond .ge 10, 3) := by decide +kernel
theorem dX9_browse_55 : decode cX9_browse 55 = .ok (.aload_n 0, 1) := by decide +kernel
theorem dX9_browse_56 : decode cX9_browse 56 = .ok (.iload 6, 2) := by decide +kernel
theorem dX9_browse_58 : decode cX9_browse 58 = .ok (.invokevirtual 175, 3) := by decide +kernel
theorem dX9_browse_61 : decode cX9_browse 61 = .ok (.ireturn, 1) := by decide +kernel
theorem dX9_browse_62 : decode cX9_browse 62 = .ok (.iload 5, 2) := by decide +kernel
theorem dX9_browse_64 : decode cX9_browse 64 = .ok (.istore 7, 2) := by decide +kernel
theorem dX9_browse_66 : decode cX9_browse 66 = .ok (.iconst 0, 1) := by decide +kernel
theorem dX9_browse_67 : decode cX9_browse 67 = .ok (.istore 8, 2) := by decide +kernel
theorem dX9_browse_69 : decode cX9_browse 69 = .ok (.iload 8, 2) := by decide +kernel
theorem dX9_browse_71 : decode cX9_browse 71 = .ok (.aload_n 0, 1) := by decide +kernel
theorem dX9_browse_72 : decode cX9_browse 72 = .ok (.getfield 189, 3) := by decide +kernel
theorem dX9_browse_75 : decode cX9_browse 75 = .ok (.if_icmp .ge 116, 3) := by decide +kernel
theorem dX9_browse_78 : decode cX9_browse 78 = .ok (.iload 5, 2) := by decide +kernel
theorem dX9_browse_80 : decode cX9_browse 80 = .ok (.ifCond .lt 111, 3) := by decide +kernel
theorem dX9_browse_83 : decode cX9_browse 83 = .ok (.aload_n 0, 1) := by decide +kernel
theorem dX9_browse_84 : decode cX9_browse 84 = .ok (.getfield 17, 3) := by decide +kernel
theorem dX9_browse_87 : decode cX9_browse 87 = .ok (.iload 8, 2) := by decide +kernel
theorem dX9_browse_89 : decode cX9_browse 89 = .ok (.iaload, 1) := by decide +kernel
theorem dX9_browse_90 : decode cX9_browse 90 = .ok (.iload_n 2, 1) := by decide +kernel
theorem dX9_browse_91 : decode cX9_browse 91 = .ok (.if_icmp .ne 12, 3) := by decide +kernel
theorem dX9_browse_94 : decode cX9_browse 94 = .ok (.iload_n 3, 1) := by decide +kernel
theorem dX9_browse_95 : decode cX9_browse 95 = .ok (.iconst 1, 1) := by decide +kernel
theorem dX9_browse_96 : decode cX9_browse 96 = .ok (.if_icmp .eq 7, 3) := by decide +kernel
theorem dX9_browse_99 : decode cX9_browse 99 = .ok (.iconst 1, 1) := by decide +kernel
theorem dX9_browse_100 : decode cX9_browse 100 = .ok (.goto 4, 3) := by decide +kernel
theorem dX9_browse_103 : decode cX9_browse 103 = .ok (.iconst 0, 1) := by decide +kernel
theorem dX9_browse_104 : decode cX9_browse 104 = .ok (.istore 9, 2) := by decide +kernel
theorem dX9_browse_106 : decode cX9_browse 106 = .ok (.aload_n 0, 1) := by decide +kernel
theorem dX9_browse_107 : decode cX9_browse 107 = .ok (.getfield 20, 3) := by decide +kernel
theorem dX9_browse_110 : decode cX9_browse 110 = .ok (.iload 8, 2) := by decide +kernel
theorem dX9_browse_112 : decode cX9_browse 112 = .ok (.iaload, 1) := by decide +kernel
theorem dX9_browse_113 : decode cX9_browse 113 = .ok (.iload_n 2, 1) := by decide +kernel
theorem dX9_browse_114 : decode cX9_browse 114 = .ok (.if_icmp .ne 11, 3) := by decide +kernel
theorem dX9_browse_117 : decode cX9_browse 117 = .ok (.iload_n 3, 1) := by decide +kernel
theorem dX9_browse_118 : decode cX9_browse 118 = .ok (.ifCond .eq 7, 3) := by decide +kernel
theorem dX9_browse_121 : decode cX9_browse 121 = .ok (.iconst 1, 1) := by decide +kernel
theorem dX9_browse_122 : decode cX9_browse 122 = .ok (.goto 4, 3) := by decide +kernel
theorem dX9_browse_125 : decode cX9_browse 125 = .ok (.iconst 0, 1) := by decide +kernel
theorem dX9_browse_126 : decode cX9_browse 126 = .ok (.istore 10, 2) := by decide +kernel
theorem dX9_browse_128 : decode cX9_browse 128 = .ok (.iload 4, 2) := by decide +kernel
theorem dX9_browse_130 : decode cX9_browse 130 = .ok (.aload_n 0, 1) := by decide +kernel
theorem dX9_browse_131 : decode cX9_browse 131 = .ok (.getfield 23, 3) := by decide +kernel
theorem dX9_browse_134 : decode cX9_browse 134 = .ok (.iload 8, 2) := by decide +kernel
theorem dX9_browse_136 : decode cX9_browse 136 = .ok (.iaload, 1) := by decide +kernel
theorem dX9_browse_137 : decode cX9_browse 137 = .ok (.ishr, 1) := by decide +kernel
theorem dX9_browse_138 : decode cX9_browse 138 = .ok (.iconst 1, 1) := by decide +kernel
theorem dX9_browse_139 : decode cX9_browse 139 = .ok (.iand, 1) := by decide +kernel
theorem dX9_browse_140 : decode cX9_browse 140 = .ok (.iconst 1, 1) := by decide +kernel
theorem dX9_browse_141 : decode cX9_browse 141 = .ok (.if_icmp .ne 44, 3) := by decide +kernel
theorem dX9_browse_144 : decode cX9_browse 144 = .ok (.iload 9, 2) := by decide +kernel
theorem dX9_browse_146 : decode cX9_browse 146 = .ok (.ifCond .ne 8, 3) := by decide +kernel
theorem dX9_browse_149 : decode cX9_browse 149 = .ok (.iload 10, 2) := by decide +kernel
theorem dX9_browse_151 : decode cX9_browse 151 = .ok (.ifCond .eq 34, 3) := by decide +kernel
theorem dX9_browse_154 : decode cX9_browse 154 = .ok (.iload 7, 2) := by decide +kernel
theorem dX9_browse_156 : decode cX9_browse 156 = .ok (.ifCond .ne 26, 3) := by decide +kernel
theorem dX9_browse_159 : decode cX9_browse 159 = .ok (.iload 9, 2) := by decide +kernel
theorem dX9_browse_161 : decode cX9_browse 161 = .ok (.ifCond .eq 13, 3) := by decide +kernel
theorem dX9_browse_164 : decode cX9_browse 164 = .ok (.aload_n 0, 1) := by decide +kernel
theorem dX9_browse_165 : decode cX9_browse 165 = .ok (.getfield 20, 3) := by decide +kernel
theorem dX9_browse_168 : decode cX9_browse 168 = .ok (.iload 8, 2) := by decide +kernel
theorem dX9_browse_170 : decode cX9_browse 170 = .ok (.iaload, 1) := by decide +kernel
theorem dX9_browse_171 : decode cX9_browse 171 = .ok (.goto 10, 3) := by decide +kernel
theorem dX9_browse_174 : decode cX9_browse 174 = .ok (.aload_n 0, 1) := by decide +kernel
theorem dX9_browse_175 : decode cX9_browse 175 = .ok (.getfield 17, 3) := by decide +kernel
theorem dX9_browse_178 : decode cX9_browse 178 = .ok (.iload 8, 2) := by decide +kernel
theorem dX9_browse_180 : decode cX9_browse 180 = .ok (.iaload, 1) := by decide +kernel
theorem dX9_browse_181 : decode cX9_browse 181 = .ok (.ireturn, 1) := by decide +kernel
theorem dX9_browse_182 : decode cX9_browse 182 = .ok (.iinc 7 (-1), 3) := by decide +kernel
theorem dX9_browse_185 : decode cX9_browse 185 = .ok (.iinc 8 1, 3) := by decide +kernel
theorem dX9_browse_188 : decode cX9_browse 188 = .ok (.goto (-119), 3) := by decide +kernel
theorem dX9_browse_191 : decode cX9_browse 191 = .ok (.aload_n 0, 1) := by decide +kernel
theorem dX9_browse_192 : decode cX9_browse 192 = .ok (.bipush (-9), 2) := by decide +kernel
theorem dX9_browse_194 : decode cX9_browse 194 = .ok (.invokevirtual 175, 3) := by decide +kernel
theorem dX9_browse_197 : decode cX9_browse 197 = .ok (.ireturn, 1) := by decide +kernel
theorem dX9_read_0 : decode cX9_read 0 = .ok (.aload_n 0, 1) := by decide +kernel
theorem dX9_read_1 : decode cX9_read 1 = .ok (.iload_n 1, 1) := by decide +kernel
theorem dX9_read_2 : decode cX9_read 2 = .ok (.invokevirtual 260, 3) := by decide +kernel
theorem dX9_read_5 : decode cX9_read 5 = .ok (.istore_n 3, 1) := by decide +kernel
theorem dX9_read_6 : decode cX9_read 6 = .ok (.iload_n 3, 1) := by decide +kernel
theorem dX9_read_7 : decode cX9_read 7 = .ok (.ifCond .ge 7, 3) := by decide +kernel
theorem dX9_read_10 : decode cX9_read 10 = .ok (.iload_n 3, 1) := by decide +kernel
theorem dX9_read_11 : decode cX9_read 11 = .ok (.goto 17, 3) := by decide +kernel
theorem dX9_read_14 : decode cX9_read 14 = .ok (.aload_n 0, 1) := by decide +kernel
theorem dX9_read_15 : decode cX9_read 15 = .ok (.iload_n 2, 1) := by decide +kernel
theorem dX9_read_16 : decode cX9_read 16 = .ok (.invokevirtual 192, 3) := by decide +kernel
theorem dX9_read_19 : decode cX9_read 19 = .ok (.ifCond .ne 8, 3) := by decide +kernel
theorem dX9_read_22 : decode cX9_read 22 = .ok (.bipush (-4), 2) := by decide +kernel
theorem dX9_read_24 : decode cX9_read 24 = .ok (.goto 4, 3) := by decide +kernel
theorem dX9_read_27 : decode cX9_read 27 = .ok (.iconst 0, 1) := by decide +kernel
theorem dX9_read_28 : decode cX9_read 28 = .ok (.istore_n 3, 1) := by decide +kernel
theorem dX9_read_29 : decode cX9_read 29 = .ok (.iload_n 3, 1) := by decide +kernel
theorem dX9_read_30 : decode cX9_read 30 = .ok (.ifCond .ge 9, 3) := by decide +kernel
theorem dX9_read_33 : decode cX9_read 33 = .ok (.aload_n 0, 1) := by decide +kernel
theorem dX9_read_34 : decode cX9_read 34 = .ok (.iload_n 3, 1) := by decide +kernel
theorem dX9_read_35 : decode cX9_read 35 = .ok (.invokevirtual 175, 3) := by decide +kernel
theorem dX9_read_38 : decode cX9_read 38 = .ok (.ireturn, 1) := by decide +kernel
theorem dX9_read_39 : decode cX9_read 39 = .ok (.aload_n 0, 1) := by decide +kernel
theorem dX9_read_40 : decode cX9_read 40 = .ok (.aload_n 0, 1) := by decide +kernel
theorem dX9_read_41 : decode cX9_read 41 = .ok (.getfield 13, 3) := by decide +kernel
theorem dX9_read_44 : decode cX9_read 44 = .ok (.iload_n 2, 1) := by decide +kernel
theorem dX9_read_45 : decode cX9_read 45 = .ok (.laload, 1) := by decide +kernel
theorem dX9_read_46 : decode cX9_read 46 = .ok (.putfield 263, 3) := by decide +kernel
theorem dX9_read_49 : decode cX9_read 49 = .ok (.iconst 0, 1) := by decide +kernel
theorem dX9_read_50 : decode cX9_read 50 = .ok (.ireturn, 1) := by decide +kernel
theorem dX9_value_0 : decode cX9_value 0 = .ok (.aload_n 0, 1) := by decide +kernel
theorem dX9_value_1 : decode cX9_value 1 = .ok (.getfield 263, 3) := by decide +kernel
theorem dX9_value_4 : decode cX9_value 4 = .ok (.lreturn, 1) := by decide +kernel
theorem dX9_write_0 : decode cX9_write 0 = .ok (.aload_n 0, 1) := by decide +kernel
theorem dX9_write_1 : decode cX9_write 1 = .ok (.iload_n 1, 1) := by decide +kernel
theorem dX9_write_2 : decode cX9_write 2 = .ok (.invokevirtual 260, 3) := by decide +kernel
theorem dX9_write_5 : decode cX9_write 5 = .ok (.istore 5, 2) := by decide +kernel
theorem dX9_write_7 : decode cX9_write 7 = .ok (.iload 5, 2) := by decide +kernel
theorem dX9_write_9 : decode cX9_write 9 = .ok (.ifCond .ge 8, 3) := by decide +kernel
theorem dX9_write_12 : decode cX9_write 12 = .ok (.iload 5, 2) := by decide +kernel
theorem dX9_write_14 : decode cX9_write 14 = .ok (.goto 27, 3) := by decide +kernel
theorem dX9_write_17 : decode cX9_write 17 = .ok (.aload_n 0, 1) := by decide +kernel
theorem dX9_write_18 : decode cX9_write 18 = .ok (.iload_n 2, 1) := by decide +kernel
theorem dX9_write_19 : decode cX9_write 19 = .ok (.invokevirtual 183, 3) := by decide +kernel
theorem dX9_write_22 : decode cX9_write 22 = .ok (.ifCond .eq 13, 3) := by decide +kernel
theorem dX9_write_25 : decode cX9_write 25 = .ok (.aload_n 0, 1) := by decide +kernel
theorem dX9_write_26 : decode cX9_write 26 = .ok (.getfield 7, 3) := by decide +kernel
theorem dX9_write_29 : decode cX9_write 29 = .ok (.iload_n 2, 1) := by decide +kernel
theorem dX9_write_30 : decode cX9_write 30 = .ok (.iaload, 1) := by decide +kernel
theorem dX9_write_31 : decode cX9_write 31 = .ok (.iconst 2, 1) := by decide +kernel
theorem dX9_write_32 : decode cX9_write 32 = .ok (.if_icmp .eq 8, 3) := by decide +kernel
theorem dX9_write_35 : decode cX9_write 35 = .ok (.bipush (-4), 2) := by decide +kernel
theorem dX9_write_37 : decode cX9_write 37 = .ok (.goto 4, 3) := by decide +kernel
theorem dX9_write_40 : decode cX9_write 40 = .ok (.iconst 0, 1) := by decide +kernel
theorem dX9_write_41 : decode cX9_write 41 = .ok (.istore 5, 2) := by decide +kernel
theorem dX9_write_43 : decode cX9_write 43 = .ok (.iload 5, 2) := by decide +kernel
theorem dX9_write_45 : decode cX9_write 45 = .ok (.ifCond .ge 10, 3) := by decide +kernel
theorem dX9_write_48 : decode cX9_write 48 = .ok (.aload_n 0, 1) := by decide +kernel
theorem dX9_write_49 : decode cX9_write 49 = .ok (.iload 5, 2) := by decide +kernel
theorem dX9_write_51 : decode cX9_write 51 = .ok (.invokevirtual 175, 3) := by decide +kernel
theorem dX9_write_54 : decode cX9_write 54 = .ok (.ireturn, 1) := by decide +kernel
theorem dX9_write_55 : decode cX9_write 55 = .ok (.aload_n 0, 1) := by decide +kernel
theorem dX9_write_56 : decode cX9_write 56 = .ok (.getfield 13, 3) := by decide +kernel
theorem dX9_write_59 : decode cX9_write 59 = .ok (.iload_n 2, 1) := by decide +kernel
theorem dX9_write_60 : decode cX9_write 60 = .ok (.lload_n 3, 1) := by decide +kernel
theorem dX9_write_61 : decode cX9_write 61 = .ok (.lastore, 1) := by decide +kernel
theorem dX9_write_62 : decode cX9_write 62 = .ok (.iconst 1, 1) := by decide +kernel
theorem dX9_write_63 : decode cX9_write 63 = .ok (.ireturn, 1) := by decide +kernel
theorem dX9_areRight_0 : decode cX9_areRight 0 = .ok (.iload_n 0, 1) := by decide +kernel
theorem dX9_areRight_1 : decode cX9_areRight 1 = .ok (.i2l, 1) := by decide +kernel
theorem dX9_areRight_2 : decode cX9_areRight 2 = .ok (.lconst 1, 1) := by decide +kernel
theorem dX9_areRight_3 : decode cX9_areRight 3 = .ok (.ldc2_w 267, 3) := by decide +kernel
theorem dX9_areRight_6 : decode cX9_areRight 6 = .ok (.invokestatic 171, 3) := by decide +kernel
theorem dX9_areRight_9 : decode cX9_areRight 9 = .ok (.ifCond .eq 45, 3) := by decide +kernel
theorem dX9_areRight_12 : decode cX9_areRight 12 = .ok (.iload_n 1, 1) := by decide +kernel
theorem dX9_areRight_13 : decode cX9_areRight 13 = .ok (.i2l, 1) := by decide +kernel
theorem dX9_areRight_14 : decode cX9_areRight 14 = .ok (.lconst 1, 1) := by decide +kernel
theorem dX9_areRight_15 : decode cX9_areRight 15 = .ok (.ldc2_w 269, 3) := by decide +kernel
theorem dX9_areRight_18 : decode cX9_areRight 18 = .ok (.invokestatic 171, 3) := by decide +kernel
theorem dX9_areRight_21 : decode cX9_areRight 21 = .ok (.ifCond .eq 33, 3) := by decide +kernel
theorem dX9_areRight_24 : decode cX9_areRight 24 = .ok (.iload_n 2, 1) := by decide +kernel
theorem dX9_areRight_25 : decode cX9_areRight 25 = .ok (.i2l, 1) := by decide +kernel
theorem dX9_areRight_26 : decode cX9_areRight 26 = .ok (.ldc2_w 271, 3) := by decide +kernel
theorem dX9_areRight_29 : decode cX9_areRight 29 = .ok (.ldc2_w 267, 3) := by decide +kernel
theorem dX9_areRight_32 : decode cX9_areRight 32 = .ok (.invokestatic 171, 3) := by decide +kernel
theorem dX9_areRight_35 : decode cX9_areRight 35 = .ok (.ifCond .eq 19, 3) := by decide +kernel
theorem dX9_areRight_38 : decode cX9_areRight 38 = .ok (.iload_n 3, 1) := by decide +kernel
theorem dX9_areRight_39 : decode cX9_areRight 39 = .ok (.i2l, 1) := by decide +kernel
theorem dX9_areRight_40 : decode cX9_areRight 40 = .ok (.lconst 0, 1) := by decide +kernel
theorem dX9_areRight_41 : decode cX9_areRight 41 = .ok (.ldc2_w 273, 3) := by decide +kernel
theorem dX9_areRight_44 : decode cX9_areRight 44 = .ok (.invokestatic 171, 3) := by decide +kernel
theorem dX9_areRight_47 : decode cX9_areRight 47 = .ok (.ifCond .eq 7, 3) := by decide +kernel
theorem dX9_areRight_50 : decode cX9_areRight 50 = .ok (.iconst 1, 1) := by decide +kernel
theorem dX9_areRight_51 : decode cX9_areRight 51 = .ok (.goto 4, 3) := by decide +kernel
theorem dX9_areRight_54 : decode cX9_areRight 54 = .ok (.iconst 0, 1) := by decide +kernel
theorem dX9_areRight_55 : decode cX9_areRight 55 = .ok (.ireturn, 1) := by decide +kernel
theorem dX9_set_0 : decode cX9_set 0 = .ok (.aload_n 0, 1) := by decide +kernel
theorem dX9_set_1 : decode cX9_set 1 = .ok (.getfield 51, 3) := by decide +kernel
theorem dX9_set_4 : decode cX9_set 4 = .ok (.iload_n 1, 1) := by decide +kernel
theorem dX9_set_5 : decode cX9_set 5 = .ok (.aload_n 0, 1) := by decide +kernel
theorem dX9_set_6 : decode cX9_set 6 = .ok (.getfield 199, 3) := by decide +kernel
theorem dX9_set_9 : decode cX9_set 9 = .ok (.iastore, 1) := by decide +kernel
theorem dX9_set_10 : decode cX9_set 10 = .ok (.aload_n 0, 1) := by decide +kernel
theorem dX9_set_11 : decode cX9_set 11 = .ok (.getfield 54, 3) := by decide +kernel
theorem dX9_set_14 : decode cX9_set 14 = .ok (.iload_n 1, 1) := by decide +kernel
theorem dX9_set_15 : decode cX9_set 15 = .ok (.iload_n 2, 1) := by decide +kernel
theorem dX9_set_16 : decode cX9_set 16 = .ok (.iastore, 1) := by decide +kernel
theorem dX9_set_17 : decode cX9_set 17 = .ok (.aload_n 0, 1) := by decide +kernel
theorem dX9_set_18 : decode cX9_set 18 = .ok (.getfield 57, 3) := by decide +kernel
theorem dX9_set_21 : decode cX9_set 21 = .ok (.iload_n 1, 1) := by decide +kernel
theorem dX9_set_22 : decode cX9_set 22 = .ok (.iload_n 3, 1) := by decide +kernel
theorem dX9_set_23 : decode cX9_set 23 = .ok (.iastore, 1) := by decide +kernel
theorem dX9_set_24 : decode cX9_set 24 = .ok (.aload_n 0, 1) := by decide +kernel
theorem dX9_set_25 : decode cX9_set 25 = .ok (.getfield 60, 3) := by decide +kernel
theorem dX9_set_28 : decode cX9_set 28 = .ok (.iload_n 1, 1) := by decide +kernel
theorem dX9_set_29 : decode cX9_set 29 = .ok (.iload 4, 2) := by decide +kernel
theorem dX9_set_31 : decode cX9_set 31 = .ok (.iastore, 1) := by decide +kernel
theorem dX9_set_32 : decode cX9_set 32 = .ok (.aload_n 0, 1) := by decide +kernel
theorem dX9_set_33 : decode cX9_set 33 = .ok (.getfield 63, 3) := by decide +kernel
theorem dX9_set_36 : decode cX9_set 36 = .ok (.iload_n 1, 1) := by decide +kernel
theorem dX9_set_37 : decode cX9_set 37 = .ok (.iload 5, 2) := by decide +kernel
theorem dX9_set_39 : decode cX9_set 39 = .ok (.iastore, 1) := by decide +kernel
theorem dX9_set_40 : decode cX9_set 40 = .ok (.aload_n 0, 1) := by decide +kernel
theorem dX9_set_41 : decode cX9_set 41 = .ok (.getfield 72, 3) := by decide +kernel
theorem dX9_set_44 : decode cX9_set 44 = .ok (.iload_n 1, 1) := by decide +kernel
theorem dX9_set_45 : decode cX9_set 45 = .ok (.iload_n 3, 1) := by decide +kernel
theorem dX9_set_46 : decode cX9_set 46 = .ok (.iastore, 1) := by decide +kernel
theorem dX9_set_47 : decode cX9_set 47 = .ok (.aload_n 0, 1) := by decide +kernel
theorem dX9_set_48 : decode cX9_set 48 = .ok (.getfield 75, 3) := by decide +kernel
theorem dX9_set_51 : decode cX9_set 51 = .ok (.iload_n 1, 1) := by decide +kernel
theorem dX9_set_52 : decode cX9_set 52 = .ok (.iload 4, 2) := by decide +kernel
theorem dX9_set_54 : decode cX9_set 54 = .ok (.iastore, 1) := by decide +kernel
theorem dX9_set_55 : decode cX9_set 55 = .ok (.return_, 1) := by decide +kernel
theorem dX9_subscribe_0 : decode cX9_subscribe 0 = .ok (.aload_n 0, 1) := by decide +kernel
theorem dX9_subscribe_1 : decode cX9_subscribe 1 = .ok (.iload_n 1, 1) := by decide +kernel
theorem dX9_subscribe_2 : decode cX9_subscribe 2 = .ok (.invokevirtual 260, 3) := by decide +kernel
theorem dX9_subscribe_5 : decode cX9_subscribe 5 = .ok (.istore 6, 2) := by decide +kernel
theorem dX9_subscribe_7 : decode cX9_subscribe 7 = .ok (.iload 6, 2) := by decide +kernel
theorem dX9_subscribe_9 : decode cX9_subscribe 9 = .ok (.ifCond .ge 8, 3) := by decide +kernel
theorem dX9_subscribe_12 : decode cX9_subscribe 12 = .ok (.iload 6, 2) := by decide +kernel
theorem dX9_subscribe_14 : decode cX9_subscribe 14 = .ok (.goto 35, 3) := by decide +kernel
theorem dX9_subscribe_17 : decode cX9_subscribe 17 = .ok (.iload_n 2, 1) := by decide +kernel
theorem dX9_subscribe_18 : decode cX9_subscribe 18 = .ok (.iload_n 3, 1) := by decide +kernel
theorem dX9_subscribe_19 : decode cX9_subscribe 19 = .ok (.iload 4, 2) := by decide +kernel
theorem dX9_subscribe_21 : decode cX9_subscribe 21 = .ok (.iload 5, 2) := by decide +kernel
theorem dX9_subscribe_23 : decode cX9_subscribe 23 = .ok (.invokestatic 275, 3) := by decide +kernel
theorem dX9_subscribe_26 : decode cX9_subscribe 26 = .ok (.ifCond .ne 8, 3) := by decide +kernel
theorem dX9_subscribe_29 : decode cX9_subscribe 29 = .ok (.bipush (-7), 2) := by decide +kernel
theorem dX9_subscribe_31 : decode cX9_subscribe 31 = .ok (.goto 18, 3) := by decide +kernel
theorem dX9_subscribe_34 : decode cX9_subscribe 34 = .ok (.aload_n 0, 1) := by decide +kernel
theorem dX9_subscribe_35 : decode cX9_subscribe 35 = .ok (.getfield 224, 3) := by decide +kernel
theorem dX9_subscribe_38 : decode cX9_subscribe 38 = .ok (.bipush 20, 2) := by decide +kernel
theorem dX9_subscribe_40 : decode cX9_subscribe 40 = .ok (.if_icmp .ne 8, 3) := by decide +kernel
theorem dX9_subscribe_43 : decode cX9_subscribe 43 = .ok (.bipush (-8), 2) := by decide +kernel
theorem dX9_subscribe_45 : decode cX9_subscribe 45 = .ok (.goto 4, 3) := by decide +kernel
theorem dX9_subscribe_48 : decode cX9_subscribe 48 = .ok (.iconst 0, 1) := by decide +kernel
theorem dX9_subscribe_49 : decode cX9_subscribe 49 = .ok (.istore 6, 2) := by decide +kernel
theorem dX9_subscribe_51 : decode cX9_subscribe 51 = .ok (.iload 6, 2) := by decide +kernel
theorem dX9_subscribe_53 : decode cX9_subscribe 53 = .ok (.ifCond .ge 10, 3) := by decide +kernel
theorem dX9_subscribe_56 : decode cX9_subscribe 56 = .ok (.aload_n 0, 1) := by decide +kernel
theorem dX9_subscribe_57 : decode cX9_subscribe 57 = .ok (.iload 6, 2) := by decide +kernel
theorem dX9_subscribe_59 : decode cX9_subscribe 59 = .ok (.invokevirtual 175, 3) := by decide +kernel
theorem dX9_subscribe_62 : decode cX9_subscribe 62 = .ok (.ireturn, 1) := by decide +kernel
theorem dX9_subscribe_63 : decode cX9_subscribe 63 = .ok (.aload_n 0, 1) := by decide +kernel
theorem dX9_subscribe_64 : decode cX9_subscribe 64 = .ok (.getfield 224, 3) := by decide +kernel
theorem dX9_subscribe_67 : decode cX9_subscribe 67 = .ok (.istore 7, 2) := by decide +kernel
theorem dX9_subscribe_69 : decode cX9_subscribe 69 = .ok (.aload_n 0, 1) := by decide +kernel
theorem dX9_subscribe_70 : decode cX9_subscribe 70 = .ok (.dup, 1) := by decide +kernel
theorem dX9_subscribe_71 : decode cX9_subscribe 71 = .ok (.getfield 224, 3) := by decide +kernel
theorem dX9_subscribe_74 : decode cX9_subscribe 74 = .ok (.iconst 1, 1) := by decide +kernel
theorem dX9_subscribe_75 : decode cX9_subscribe 75 = .ok (.iadd, 1) := by decide +kernel
theorem dX9_subscribe_76 : decode cX9_subscribe 76 = .ok (.putfield 224, 3) := by decide +kernel
theorem dX9_subscribe_79 : decode cX9_subscribe 79 = .ok (.aload_n 0, 1) := by decide +kernel
theorem dX9_subscribe_80 : decode cX9_subscribe 80 = .ok (.getfield 44, 3) := by decide +kernel
theorem dX9_subscribe_83 : decode cX9_subscribe 83 = .ok (.iload 7, 2) := by decide +kernel
theorem dX9_subscribe_85 : decode cX9_subscribe 85 = .ok (.iconst 1, 1) := by decide +kernel
theorem dX9_subscribe_86 : decode cX9_subscribe 86 = .ok (.bastore, 1) := by decide +kernel
theorem dX9_subscribe_87 : decode cX9_subscribe 87 = .ok (.aload_n 0, 1) := by decide +kernel
theorem dX9_subscribe_88 : decode cX9_subscribe 88 = .ok (.getfield 48, 3) := by decide +kernel
theorem dX9_subscribe_91 : decode cX9_subscribe 91 = .ok (.iload 7, 2) := by decide +kernel
theorem dX9_subscribe_93 : decode cX9_subscribe 93 = .ok (.iload_n 1, 1) := by decide +kernel
theorem dX9_subscribe_94 : decode cX9_subscribe 94 = .ok (.iastore, 1) := by decide +kernel
theorem dX9_subscribe_95 : decode cX9_subscribe 95 = .ok (.aload_n 0, 1) := by decide +kernel
theorem dX9_subscribe_96 : decode cX9_subscribe 96 = .ok (.getfield 66, 3) := by decide +kernel
theorem dX9_subscribe_99 : decode cX9_subscribe 99 = .ok (.iload 7, 2) := by decide +kernel
theorem dX9_subscribe_101 : decode cX9_subscribe 101 = .ok (.iconst 1, 1) := by decide +kernel
theorem dX9_subscribe_102 : decode cX9_subscribe 102 = .ok (.bastore, 1) := by decide +kernel
theorem dX9_subscribe_103 : decode cX9_subscribe 103 = .ok (.aload_n 0, 1) := by decide +kernel
theorem dX9_subscribe_104 : decode cX9_subscribe 104 = .ok (.getfield 69, 3) := by decide +kernel
theorem dX9_subscribe_107 : decode cX9_subscribe 107 = .ok (.iload 7, 2) := by decide +kernel
theorem dX9_subscribe_109 : decode cX9_subscribe 109 = .ok (.iconst 1, 1) := by decide +kernel
theorem dX9_subscribe_110 : decode cX9_subscribe 110 = .ok (.iastore, 1) := by decide +kernel
theorem dX9_subscribe_111 : decode cX9_subscribe 111 = .ok (.aload_n 0, 1) := by decide +kernel
theorem dX9_subscribe_112 : decode cX9_subscribe 112 = .ok (.iload 7, 2) := by decide +kernel
theorem dX9_subscribe_114 : decode cX9_subscribe 114 = .ok (.iload_n 2, 1) := by decide +kernel
theorem dX9_subscribe_115 : decode cX9_subscribe 115 = .ok (.iload_n 3, 1) := by decide +kernel
theorem dX9_subscribe_116 : decode cX9_subscribe 116 = .ok (.iload 4, 2) := by decide +kernel
theorem dX9_subscribe_118 : decode cX9_subscribe 118 = .ok (.iload 5, 2) := by decide +kernel
theorem dX9_subscribe_120 : decode cX9_subscribe 120 = .ok (.invokevirtual 279, 3) := by decide +kernel
theorem dX9_subscribe_123 : decode cX9_subscribe 123 = .ok (.iload 7, 2) := by decide +kernel
theorem dX9_subscribe_125 : decode cX9_subscribe 125 = .ok (.ireturn, 1) := by decide +kernel
theorem dX9_lacksSub_0 : decode cX9_lacksSub 0 = .ok (.aload_n 0, 1) := by decide +kernel
theorem dX9_lacksSub_1 : decode cX9_lacksSub 1 = .ok (.iload_n 1, 1) := by decide +kernel
theorem dX9_lacksSub_2 : decode cX9_lacksSub 2 = .ok (.invokevirtual 260, 3) := by decide +kernel
theorem dX9_lacksSub_5 : decode cX9_lacksSub 5 = .ok (.istore_n 3, 1) := by decide +kernel
theorem dX9_lacksSub_6 : decode cX9_lacksSub 6 = .ok (.iload_n 3, 1) := by decide +kernel
theorem dX9_lacksSub_7 : decode cX9_lacksSub 7 = .ok (.ifCond .ge 7, 3) := by decide +kernel
theorem dX9_lacksSub_10 : decode cX9_lacksSub 10 = .ok (.iload_n 3, 1) := by decide +kernel
theorem dX9_lacksSub_11 : decode cX9_lacksSub 11 = .ok (.goto 44, 3) := by decide +kernel
theorem dX9_lacksSub_14 : decode cX9_lacksSub 14 = .ok (.iload_n 2, 1) := by decide +kernel
theorem dX9_lacksSub_15 : decode cX9_lacksSub 15 = .ok (.i2l, 1) := by decide +kernel
theorem dX9_lacksSub_16 : decode cX9_lacksSub 16 = .ok (.lconst 0, 1) := by decide +kernel
theorem dX9_lacksSub_17 : decode cX9_lacksSub 17 = .ok (.aload_n 0, 1) := by decide +kernel
theorem dX9_lacksSub_18 : decode cX9_lacksSub 18 = .ok (.getfield 224, 3) := by decide +kernel
theorem dX9_lacksSub_21 : decode cX9_lacksSub 21 = .ok (.iconst 1, 1) := by decide +kernel
theorem dX9_lacksSub_22 : decode cX9_lacksSub 22 = .ok (.isub, 1) := by decide +kernel
theorem dX9_lacksSub_23 : decode cX9_lacksSub 23 = .ok (.i2l, 1) := by decide +kernel
theorem dX9_lacksSub_24 : decode cX9_lacksSub 24 = .ok (.invokestatic 171, 3) := by decide +kernel
theorem dX9_lacksSub_27 : decode cX9_lacksSub 27 = .ok (.ifCond .eq 22, 3) := by decide +kernel
theorem dX9_lacksSub_30 : decode cX9_lacksSub 30 = .ok (.aload_n 0, 1) := by decide +kernel
theorem dX9_lacksSub_31 : decode cX9_lacksSub 31 = .ok (.getfield 44, 3) := by decide +kernel
theorem dX9_lacksSub_34 : decode cX9_lacksSub 34 = .ok (.iload_n 2, 1) := by decide +kernel
theorem dX9_lacksSub_35 : decode cX9_lacksSub 35 = .ok (.baload, 1) := by decide +kernel
theorem dX9_lacksSub_36 : decode cX9_lacksSub 36 = .ok (.ifCond .eq 13, 3) := by decide +kernel
theorem dX9_lacksSub_39 : decode cX9_lacksSub 39 = .ok (.aload_n 0, 1) := by decide +kernel
theorem dX9_lacksSub_40 : decode cX9_lacksSub 40 = .ok (.getfield 48, 3) := by decide +kernel
theorem dX9_lacksSub_43 : decode cX9_lacksSub 43 = .ok (.iload_n 2, 1) := by decide +kernel
theorem dX9_lacksSub_44 : decode cX9_lacksSub 44 = .ok (.iaload, 1) := by decide +kernel
theorem dX9_lacksSub_45 : decode cX9_lacksSub 45 = .ok (.iload_n 1, 1) := by decide +kernel
theorem dX9_lacksSub_46 : decode cX9_lacksSub 46 = .ok (.if_icmp .eq 8, 3) := by decide +kernel
theorem dX9_lacksSub_49 : decode cX9_lacksSub 49 = .ok (.bipush (-5), 2) := by decide +kernel
theorem dX9_lacksSub_51 : decode cX9_lacksSub 51 = .ok (.goto 4, 3) := by decide +kernel
theorem dX9_lacksSub_54 : decode cX9_lacksSub 54 = .ok (.iconst 0, 1) := by decide +kernel
theorem dX9_lacksSub_55 : decode cX9_lacksSub 55 = .ok (.ireturn, 1) := by decide +kernel
theorem dX9_modify_0 : decode cX9_modify 0 = .ok (.aload_n 0, 1) := by decide +kernel
theorem dX9_modify_1 : decode cX9_modify 1 = .ok (.iload_n 1, 1) := by decide +kernel
theorem dX9_modify_2 : decode cX9_modify 2 = .ok (.iload_n 2, 1) := by decide +kernel
theorem dX9_modify_3 : decode cX9_modify 3 = .ok (.invokevirtual 283, 3) := by decide +kernel
theorem dX9_modify_6 : decode cX9_modify 6 = .ok (.istore 7, 2) := by decide +kernel
theorem dX9_modify_8 : decode cX9_modify 8 = .ok (.iload 7, 2) := by decide +kernel
theorem dX9_modify_10 : decode cX9_modify 10 = .ok (.ifCond .ge 8, 3) := by decide +kernel
theorem dX9_modify_13 : decode cX9_modify 13 = .ok (.iload 7, 2) := by decide +kernel
theorem dX9_modify_15 : decode cX9_modify 15 = .ok (.goto 22, 3) := by decide +kernel
theorem dX9_modify_18 : decode cX9_modify 18 = .ok (.iload_n 3, 1) := by decide +kernel
theorem dX9_modify_19 : decode cX9_modify 19 = .ok (.iload 4, 2) := by decide +kernel
theorem dX9_modify_21 : decode cX9_modify 21 = .ok (.iload 5, 2) := by decide +kernel
theorem dX9_modify_23 : decode cX9_modify 23 = .ok (.iload 6, 2) := by decide +kernel
theorem dX9_modify_25 : decode cX9_modify 25 = .ok (.invokestatic 275, 3) := by decide +kernel
theorem dX9_modify_28 : decode cX9_modify 28 = .ok (.ifCond .ne 8, 3) := by decide +kernel
theorem dX9_modify_31 : decode cX9_modify 31 = .ok (.bipush (-7), 2) := by decide +kernel
theorem dX9_modify_33 : decode cX9_modify 33 = .ok (.goto 4, 3) := by decide +kernel
theorem dX9_modify_36 : decode cX9_modify 36 = .ok (.iconst 0, 1) := by decide +kernel
theorem dX9_modify_37 : decode cX9_modify 37 = .ok (.istore 7, 2) := by decide +kernel
theorem dX9_modify_39 : decode cX9_modify 39 = .ok (.iload 7, 2) := by decide +kernel
theorem dX9_modify_41 : decode cX9_modify 41 = .ok (.ifCond .ge 10, 3) := by decide +kernel
theorem dX9_modify_44 : decode cX9_modify 44 = .ok (.aload_n 0, 1) := by decide +kernel
theorem dX9_modify_45 : decode cX9_modify 45 = .ok (.iload 7, 2) := by decide +kernel
theorem dX9_modify_47 : decode cX9_modify 47 = .ok (.invokevirtual 175, 3) := by decide +kernel
theorem dX9_modify_50 : decode cX9_modify 50 = .ok (.ireturn, 1) := by decide +kernel
theorem dX9_modify_51 : decode cX9_modify 51 = .ok (.aload_n 0, 1) := by decide +kernel
theorem dX9_modify_52 : decode cX9_modify 52 = .ok (.iload_n 2, 1) := by decide +kernel
theorem dX9_modify_53 : decode cX9_modify 53 = .ok (.iload_n 3, 1) := by decide +kernel
theorem dX9_modify_54 : decode cX9_modify 54 = .ok (.iload 4, 2) := by decide +kernel
theorem dX9_modify_56 : decode cX9_modify 56 = .ok (.iload 5, 2) := by decide +kernel
theorem dX9_modify_58 : decode cX9_modify 58 = .ok (.iload 6, 2) := by decide +kernel
theorem dX9_modify_60 : decode cX9_modify 60 = .ok (.invokevirtual 279, 3) := by decide +kernel
theorem dX9_modify_63 : decode cX9_modify 63 = .ok (.iconst 1, 1) := by decide +kernel
theorem dX9_modify_64 : decode cX9_modify 64 = .ok (.ireturn, 1) := by decide +kernel
theorem dX9_turn_0 : decode cX9_turn 0 = .ok (.aload_n 0, 1) := by decide +kernel
theorem dX9_turn_1 : decode cX9_turn 1 = .ok (.iload_n 1, 1) := by decide +kernel
theorem dX9_turn_2 : decode cX9_turn 2 = .ok (.iload_n 2, 1) := by decide +kernel
theorem dX9_turn_3 : decode cX9_turn 3 = .ok (.invokevirtual 283, 3) := by decide +kernel
theorem dX9_turn_6 : decode cX9_turn 6 = .ok (.istore 4, 2) := by decide +kernel
theorem dX9_turn_8 : decode cX9_turn 8 = .ok (.iload 4, 2) := by decide +kernel
theorem dX9_turn_10 : decode cX9_turn 10 = .ok (.ifCond .ge 10, 3) := by decide +kernel
theorem dX9_turn_13 : decode cX9_turn 13 = .ok (.aload_n 0, 1) := by decide +kernel
theorem dX9_turn_14 : decode cX9_turn 14 = .ok (.iload 4, 2) := by decide +kernel
theorem dX9_turn_16 : decode cX9_turn 16 = .ok (.invokevirtual 175, 3) := by decide +kernel
theorem dX9_turn_19 : decode cX9_turn 19 = .ok (.ireturn, 1) := by decide +kernel
theorem dX9_turn_20 : decode cX9_turn 20 = .ok (.aload_n 0, 1) := by decide +kernel
theorem dX9_turn_21 : decode cX9_turn 21 = .ok (.getfield 66, 3) := by decide +kernel
theorem dX9_turn_24 : decode cX9_turn 24 = .ok (.iload_n 2, 1) := by decide +kernel
theorem dX9_turn_25 : decode cX9_turn 25 = .ok (.baload, 1) := by decide +kernel
theorem dX9_turn_26 : decode cX9_turn 26 = .ok (.iload_n 3, 1) := by decide +kernel
theorem dX9_turn_27 : decode cX9_turn 27 = .ok (.if_icmp .eq 7, 3) := by decide +kernel
theorem dX9_turn_30 : decode cX9_turn 30 = .ok (.iconst 1, 1) := by decide +kernel
theorem dX9_turn_31 : decode cX9_turn 31 = .ok (.goto 4, 3) := by decide +kernel
theorem dX9_turn_34 : decode cX9_turn 34 = .ok (.iconst 0, 1) := by decide +kernel
theorem dX9_turn_35 : decode cX9_turn 35 = .ok (.istore 5, 2) := by decide +kernel
theorem dX9_turn_37 : decode cX9_turn 37 = .ok (.aload_n 0, 1) := by decide +kernel
theorem dX9_turn_38 : decode cX9_turn 38 = .ok (.getfield 66, 3) := by decide +kernel
theorem dX9_turn_41 : decode cX9_turn 41 = .ok (.iload_n 2, 1) := by decide +kernel
theorem dX9_turn_42 : decode cX9_turn 42 = .ok (.iload_n 3, 1) := by decide +kernel
theorem dX9_turn_43 : decode cX9_turn 43 = .ok (.bastore, 1) := by decide +kernel
theorem dX9_turn_44 : decode cX9_turn 44 = .ok (.aload_n 0, 1) := by decide +kernel
theorem dX9_turn_45 : decode cX9_turn 45 = .ok (.getfield 75, 3) := by decide +kernel
theorem dX9_turn_48 : decode cX9_turn 48 = .ok (.iload_n 2, 1) := by decide +kernel
theorem dX9_turn_49 : decode cX9_turn 49 = .ok (.aload_n 0, 1) := by decide +kernel
theorem dX9_turn_50 : decode cX9_turn 50 = .ok (.getfield 60, 3) := by decide +kernel
theorem dX9_turn_53 : decode cX9_turn 53 = .ok (.iload_n 2, 1) := by decide +kernel
theorem dX9_turn_54 : decode cX9_turn 54 = .ok (.iaload, 1) := by decide +kernel
theorem dX9_turn_55 : decode cX9_turn 55 = .ok (.iastore, 1) := by decide +kernel
theorem dX9_turn_56 : decode cX9_turn 56 = .ok (.iload 5, 2) := by decide +kernel
theorem dX9_turn_58 : decode cX9_turn 58 = .ok (.ifCond .eq 7, 3) := by decide +kernel
theorem dX9_turn_61 : decode cX9_turn 61 = .ok (.iconst 1, 1) := by decide +kernel
theorem dX9_turn_62 : decode cX9_turn 62 = .ok (.goto 4, 3) := by decide +kernel
theorem dX9_turn_65 : decode cX9_turn 65 = .ok (.iconst 0, 1) := by decide +kernel
theorem dX9_turn_66 : decode cX9_turn 66 = .ok (.ireturn, 1) := by decide +kernel
theorem dX9_transfer_0 : decode cX9_transfer 0 = .ok (.aload_n 0, 1) := by decide +kernel
theorem dX9_transfer_1 : decode cX9_transfer 1 = .ok (.iload_n 1, 1) := by decide +kernel
theorem dX9_transfer_2 : decode cX9_transfer 2 = .ok (.invokevirtual 260, 3) := by decide +kernel
theorem dX9_transfer_5 : decode cX9_transfer 5 = .ok (.istore_n 3, 1) := by decide +kernel
theorem dX9_transfer_6 : decode cX9_transfer 6 = .ok (.iload_n 3, 1) := by decide +kernel
theorem dX9_transfer_7 : decode cX9_transfer 7 = .ok (.ifCond .ge 7, 3) := by decide +kernel
theorem dX9_transfer_10 : decode cX9_transfer 10 = .ok (.iload_n 3, 1) := by decide +kernel
theorem dX9_transfer_11 : decode cX9_transfer 11 = .ok (.goto 34, 3) := by decide +kernel
theorem dX9_transfer_14 : decode cX9_transfer 14 = .ok (.iload_n 2, 1) := by decide +kernel
theorem dX9_transfer_15 : decode cX9_transfer 15 = .ok (.i2l, 1) := by decide +kernel
theorem dX9_transfer_16 : decode cX9_transfer 16 = .ok (.lconst 0, 1) := by decide +kernel
theorem dX9_transfer_17 : decode cX9_transfer 17 = .ok (.aload_n 0, 1) := by decide +kernel
theorem dX9_transfer_18 : decode cX9_transfer 18 = .ok (.getfield 224, 3) := by decide +kernel
theorem dX9_transfer_21 : decode cX9_transfer 21 = .ok (.iconst 1, 1) := by decide +kernel
theorem dX9_transfer_22 : decode cX9_transfer 22 = .ok (.isub, 1) := by decide +kernel
theorem dX9_transfer_23 : decode cX9_transfer 23 = .ok (.i2l, 1) := by decide +kernel
theorem dX9_transfer_24 : decode cX9_transfer 24 = .ok (.invokestatic 171, 3) := by decide +kernel
theorem dX9_transfer_27 : decode cX9_transfer 27 = .ok (.ifCond .eq 12, 3) := by decide +kernel
theorem dX9_transfer_30 : decode cX9_transfer 30 = .ok (.aload_n 0, 1) := by decide +kernel
theorem dX9_transfer_31 : decode cX9_transfer 31 = .ok (.getfield 44, 3) := by decide +kernel
theorem dX9_transfer_34 : decode cX9_transfer 34 = .ok (.iload_n 2, 1) := by decide +kernel
theorem dX9_transfer_35 : decode cX9_transfer 35 = .ok (.baload, 1) := by decide +kernel
theorem dX9_transfer_36 : decode cX9_transfer 36 = .ok (.ifCond .ne 8, 3) := by decide +kernel
theorem dX9_transfer_39 : decode cX9_transfer 39 = .ok (.bipush (-5), 2) := by decide +kernel
theorem dX9_transfer_41 : decode cX9_transfer 41 = .ok (.goto 4, 3) := by decide +kernel
theorem dX9_transfer_44 : decode cX9_transfer 44 = .ok (.iconst 0, 1) := by decide +kernel
theorem dX9_transfer_45 : decode cX9_transfer 45 = .ok (.istore_n 3, 1) := by decide +kernel
theorem dX9_transfer_46 : decode cX9_transfer 46 = .ok (.iload_n 3, 1) := by decide +kernel
theorem dX9_transfer_47 : decode cX9_transfer 47 = .ok (.ifCond .ge 9, 3) := by decide +kernel
theorem dX9_transfer_50 : decode cX9_transfer 50 = .ok (.aload_n 0, 1) := by decide +kernel
theorem dX9_transfer_51 : decode cX9_transfer 51 = .ok (.iload_n 3, 1) := by decide +kernel
theorem dX9_transfer_52 : decode cX9_transfer 52 = .ok (.invokevirtual 175, 3) := by decide +kernel
theorem dX9_transfer_55 : decode cX9_transfer 55 = .ok (.ireturn, 1) := by decide +kernel
theorem dX9_transfer_56 : decode cX9_transfer 56 = .ok (.aload_n 0, 1) := by decide +kernel
theorem dX9_transfer_57 : decode cX9_transfer 57 = .ok (.getfield 48, 3) := by decide +kernel
theorem dX9_transfer_60 : decode cX9_transfer 60 = .ok (.iload_n 2, 1) := by decide +kernel
theorem dX9_transfer_61 : decode cX9_transfer 61 = .ok (.iaload, 1) := by decide +kernel
theorem dX9_transfer_62 : decode cX9_transfer 62 = .ok (.iload_n 1, 1) := by decide +kernel
theorem dX9_transfer_63 : decode cX9_transfer 63 = .ok (.if_icmp .ne 7, 3) := by decide +kernel
theorem dX9_transfer_66 : decode cX9_transfer 66 = .ok (.iconst 1, 1) := by decide +kernel
theorem dX9_transfer_67 : decode cX9_transfer 67 = .ok (.goto 4, 3) := by decide +kernel
theorem dX9_transfer_70 : decode cX9_transfer 70 = .ok (.iconst 0, 1) := by decide +kernel
theorem dX9_transfer_71 : decode cX9_transfer 71 = .ok (.istore 4, 2) := by decide +kernel
theorem dX9_transfer_73 : decode cX9_transfer 73 = .ok (.aload_n 0, 1) := by decide +kernel
theorem dX9_transfer_74 : decode cX9_transfer 74 = .ok (.getfield 48, 3) := by decide +kernel
theorem dX9_transfer_77 : decode cX9_transfer 77 = .ok (.iload_n 2, 1) := by decide +kernel
theorem dX9_transfer_78 : decode cX9_transfer 78 = .ok (.iload_n 1, 1) := by decide +kernel
theorem dX9_transfer_79 : decode cX9_transfer 79 = .ok (.iastore, 1) := by decide +kernel
theorem dX9_transfer_80 : decode cX9_transfer 80 = .ok (.aload_n 0, 1) := by decide +kernel
theorem dX9_transfer_81 : decode cX9_transfer 81 = .ok (.getfield 75, 3) := by decide +kernel
theorem dX9_transfer_84 : decode cX9_transfer 84 = .ok (.iload_n 2, 1) := by decide +kernel
theorem dX9_transfer_85 : decode cX9_transfer 85 = .ok (.aload_n 0, 1) := by decide +kernel
theorem dX9_transfer_86 : decode cX9_transfer 86 = .ok (.getfield 60, 3) := by decide +kernel
theorem dX9_transfer_89 : decode cX9_transfer 89 = .ok (.iload_n 2, 1) := by decide +kernel
theorem dX9_transfer_90 : decode cX9_transfer 90 = .ok (.iaload, 1) := by decide +kernel
theorem dX9_transfer_91 : decode cX9_transfer 91 = .ok (.iastore, 1) := by decide +kernel
theorem dX9_transfer_92 : decode cX9_transfer 92 = .ok (.iload 4, 2) := by decide +kernel
theorem dX9_transfer_94 : decode cX9_transfer 94 = .ok (.ifCond .eq 7, 3) := by decide +kernel
theorem dX9_transfer_97 : decode cX9_transfer 97 = .ok (.iconst 0, 1) := by decide +kernel
theorem dX9_transfer_98 : decode cX9_transfer 98 = .ok (.goto 4, 3) := by decide +kernel
theorem dX9_transfer_101 : decode cX9_transfer 101 = .ok (.iconst 1, 1) := by decide +kernel
theorem dX9_transfer_102 : decode cX9_transfer 102 = .ok (.ireturn, 1) := by decide +kernel
theorem dX9_unsubscribe_0 : decode cX9_unsubscribe 0 = .ok (.aload_n 0, 1) := by decide +kernel
theorem dX9_unsubscribe_1 : decode cX9_unsubscribe 1 = .ok (.iload_n 1, 1) := by decide +kernel
theorem dX9_unsubscribe_2 : decode cX9_unsubscribe 2 = .ok (.iload_n 2, 1) := by decide +kernel
theorem dX9_unsubscribe_3 : decode cX9_unsubscribe 3 = .ok (.invokevirtual 283, 3) := by decide +kernel
theorem dX9_unsubscribe_6 : decode cX9_unsubscribe 6 = .ok (.istore_n 3, 1) := by decide +kernel
theorem dX9_unsubscribe_7 : decode cX9_unsubscribe 7 = .ok (.iload_n 3, 1) := by decide +kernel
theorem dX9_unsubscribe_8 : decode cX9_unsubscribe 8 = .ok (.ifCond .ge 9, 3) := by decide +kernel
theorem dX9_unsubscribe_11 : decode cX9_unsubscribe 11 = .ok (.aload_n 0, 1) := by decide +kernel
theorem dX9_unsubscribe_12 : decode cX9_unsubscribe 12 = .ok (.iload_n 3, 1) := by decide +kernel
theorem dX9_unsubscribe_13 : decode cX9_unsubscribe 13 = .ok (.invokevirtual 175, 3) := by decide +kernel
theorem dX9_unsubscribe_16 : decode cX9_unsubscribe 16 = .ok (.ireturn, 1) := by decide +kernel
theorem dX9_unsubscribe_17 : decode cX9_unsubscribe 17 = .ok (.aload_n 0, 1) := by decide +kernel
theorem dX9_unsubscribe_18 : decode cX9_unsubscribe 18 = .ok (.iload_n 2, 1) := by decide +kernel
theorem dX9_unsubscribe_19 : decode cX9_unsubscribe 19 = .ok (.invokevirtual 227, 3) := by decide +kernel
theorem dX9_unsubscribe_22 : decode cX9_unsubscribe 22 = .ok (.iconst 1, 1) := by decide +kernel
theorem dX9_unsubscribe_23 : decode cX9_unsubscribe 23 = .ok (.ireturn, 1) := by decide +kernel
theorem dX9_item_0 : decode cX9_item 0 = .ok (.aload_n 0, 1) := by decide +kernel
theorem dX9_item_1 : decode cX9_item 1 = .ok (.iload_n 1, 1) := by decide +kernel
theorem dX9_item_2 : decode cX9_item 2 = .ok (.iload_n 2, 1) := by decide +kernel
theorem dX9_item_3 : decode cX9_item 3 = .ok (.invokevirtual 283, 3) := by decide +kernel
theorem dX9_item_6 : decode cX9_item 6 = .ok (.istore 10, 2) := by decide +kernel
theorem dX9_item_8 : decode cX9_item 8 = .ok (.iload 4, 2) := by decide +kernel
theorem dX9_item_10 : decode cX9_item 10 = .ok (.i2l, 1) := by decide +kernel
theorem dX9_item_11 : decode cX9_item 11 = .ok (.lconst 1, 1) := by decide +kernel
theorem dX9_item_12 : decode cX9_item 12 = .ok (.ldc2_w 267, 3) := by decide +kernel
theorem dX9_item_15 : decode cX9_item 15 = .ok (.invokestatic 171, 3) := by decide +kernel
theorem dX9_item_18 : decode cX9_item 18 = .ok (.ifCond .eq 40, 3) := by decide +kernel
theorem dX9_item_21 : decode cX9_item 21 = .ok (.iload 5, 2) := by decide +kernel
theorem dX9_item_23 : decode cX9_item 23 = .ok (.i2l, 1) := by decide +kernel
theorem dX9_item_24 : decode cX9_item 24 = .ok (.lconst 1, 1) := by decide +kernel
theorem dX9_item_25 : decode cX9_item 25 = .ok (.ldc2_w 287, 3) := by decide +kernel
theorem dX9_item_28 : decode cX9_item 28 = .ok (.invokestatic 171, 3) := by decide +kernel
theorem dX9_item_31 : decode cX9_item 31 = .ok (.ifCond .eq 27, 3) := by decide +kernel
theorem dX9_item_34 : decode cX9_item 34 = .ok (.iload 7, 2) := by decide +kernel
theorem dX9_item_36 : decode cX9_item 36 = .ok (.i2l, 1) := by decide +kernel
theorem dX9_item_37 : decode cX9_item 37 = .ok (.lconst 0, 1) := by decide +kernel
theorem dX9_item_38 : decode cX9_item 38 = .ok (.ldc2_w 169, 3) := by decide +kernel
theorem dX9_item_41 : decode cX9_item 41 = .ok (.invokestatic 171, 3) := by decide +kernel
theorem dX9_item_44 : decode cX9_item 44 = .ok (.ifCond .eq 14, 3) := by decide +kernel
theorem dX9_item_47 : decode cX9_item 47 = .ok (.lload 8, 2) := by decide +kernel
theorem dX9_item_49 : decode cX9_item 49 = .ok (.lconst 0, 1) := by decide +kernel
theorem dX9_item_50 : decode cX9_item 50 = .ok (.lcmp, 1) := by decide +kernel
theorem dX9_item_51 : decode cX9_item 51 = .ok (.ifCond .lt 7, 3) := by decide +kernel
theorem dX9_item_54 : decode cX9_item 54 = .ok (.iconst 1, 1) := by decide +kernel
theorem dX9_item_55 : decode cX9_item 55 = .ok (.goto 4, 3) := by decide +kernel
theorem dX9_item_58 : decode cX9_item 58 = .ok (.iconst 0, 1) := by decide +kernel
theorem dX9_item_59 : decode cX9_item 59 = .ok (.istore 11, 2) := by decide +kernel
theorem dX9_item_61 : decode cX9_item 61 = .ok (.iload 10, 2) := by decide +kernel
theorem dX9_item_63 : decode cX9_item 63 = .ok (.ifCond .ge 8, 3) := by decide +kernel
theorem dX9_item_66 : decode cX9_item 66 = .ok (.iload 10, 2) := by decide +kernel
theorem dX9_item_68 : decode cX9_item 68 = .ok (.goto 41, 3) := by decide +kernel
theorem dX9_item_71 : decode cX9_item 71 = .ok (.aload_n 0, 1) := by decide +kernel
theorem dX9_item_72 : decode cX9_item 72 = .ok (.iload_n 3, 1) := by decide +kernel
theorem dX9_item_73 : decode cX9_item 73 = .ok (.invokevirtual 192, 3) := by decide +kernel
theorem dX9_item_76 : decode cX9_item 76 = .ok (.ifCond .ne 8, 3) := by decide +kernel
theorem dX9_item_79 : decode cX9_item 79 = .ok (.bipush (-4), 2) := by decide +kernel
theorem dX9_item_81 : decode cX9_item 81 = .ok (.goto 28, 3) := by decide +kernel
theorem dX9_item_84 : decode cX9_item 84 = .ok (.iload 11, 2) := by decide +kernel
theorem dX9_item_86 : decode cX9_item 86 = .ok (.ifCond .ne 8, 3) := by decide +kernel
theorem dX9_item_89 : decode cX9_item 89 = .ok (.bipush (-7), 2) := by decide +kernel
theorem dX9_item_91 : decode cX9_item 91 = .ok (.goto 18, 3) := by decide +kernel
theorem dX9_item_94 : decode cX9_item 94 = .ok (.aload_n 0, 1) := by decide +kernel
theorem dX9_item_95 : decode cX9_item 95 = .ok (.getfield 202, 3) := by decide +kernel
theorem dX9_item_98 : decode cX9_item 98 = .ok (.bipush 60, 2) := by decide +kernel
theorem dX9_item_100 : decode cX9_item 100 = .ok (.if_icmp .ne 8, 3) := by decide +kernel
theorem dX9_item_103 : decode cX9_item 103 = .ok (.bipush (-8), 2) := by decide +kernel
theorem dX9_item_105 : decode cX9_item 105 = .ok (.goto 4, 3) := by decide +kernel
theorem dX9_item_108 : decode cX9_item 108 = .ok (.iconst 0, 1) := by decide +kernel
theorem dX9_item_109 : decode cX9_item 109 = .ok (.istore 10, 2) := by decide +kernel
theorem dX9_item_111 : decode cX9_item 111 = .ok (.iload 10, 2) := by decide +kernel
theorem dX9_item_113 : decode cX9_item 113 = .ok (.ifCond .ge 10, 3) := by decide +kernel
theorem dX9_item_116 : decode cX9_item 116 = .ok (.aload_n 0, 1) := by decide +kernel
theorem dX9_item_117 : decode cX9_item 117 = .ok (.iload 10, 2) := by decide +kernel
theorem dX9_item_119 : decode cX9_item 119 = .ok (.invokevirtual 175, 3) := by decide +kernel
theorem dX9_item_122 : decode cX9_item 122 = .ok (.ireturn, 1) := by decide +kernel
theorem dX9_item_123 : decode cX9_item 123 = .ok (.aload_n 0, 1) := by decide +kernel
theorem dX9_item_124 : decode cX9_item 124 = .ok (.getfield 202, 3) := by decide +kernel
theorem dX9_item_127 : decode cX9_item 127 = .ok (.istore 12, 2) := by decide +kernel
theorem dX9_item_129 : decode cX9_item 129 = .ok (.aload_n 0, 1) := by decide +kernel
theorem dX9_item_130 : decode cX9_item 130 = .ok (.dup, 1) := by decide +kernel
theorem dX9_item_131 : decode cX9_item 131 = .ok (.getfield 202, 3) := by decide +kernel
theorem dX9_item_134 : decode cX9_item 134 = .ok (.iconst 1, 1) := by decide +kernel
theorem dX9_item_135 : decode cX9_item 135 = .ok (.iadd, 1) := by decide +kernel
theorem dX9_item_136 : decode cX9_item 136 = .ok (.putfield 202, 3) := by decide +kernel
theorem dX9_item_139 : decode cX9_item 139 = .ok (.aload_n 0, 1) := by decide +kernel
theorem dX9_item_140 : decode cX9_item 140 = .ok (.getfield 90, 3) := by decide +kernel
theorem dX9_item_143 : decode cX9_item 143 = .ok (.iload 12, 2) := by decide +kernel
theorem dX9_item_145 : decode cX9_item 145 = .ok (.iconst 1, 1) := by decide +kernel
theorem dX9_item_146 : decode cX9_item 146 = .ok (.bastore, 1) := by decide +kernel
theorem dX9_item_147 : decode cX9_item 147 = .ok (.aload_n 0, 1) := by decide +kernel
theorem dX9_item_148 : decode cX9_item 148 = .ok (.getfield 93, 3) := by decide +kernel
theorem dX9_item_151 : decode cX9_item 151 = .ok (.iload 12, 2) := by decide +kernel
theorem dX9_item_153 : decode cX9_item 153 = .ok (.iload_n 2, 1) := by decide +kernel
theorem dX9_item_154 : decode cX9_item 154 = .ok (.iastore, 1) := by decide +kernel
theorem dX9_item_155 : decode cX9_item 155 = .ok (.aload_n 0, 1) := by decide +kernel
theorem dX9_item_156 : decode cX9_item 156 = .ok (.getfield 96, 3) := by decide +kernel
theorem dX9_item_159 : decode cX9_item 159 = .ok (.iload 12, 2) := by decide +kernel
theorem dX9_item_161 : decode cX9_item 161 = .ok (.iload_n 3, 1) := by decide +kernel
theorem dX9_item_162 : decode cX9_item 162 = .ok (.iastore, 1) := by decide +kernel
theorem dX9_item_163 : decode cX9_item 163 = .ok (.aload_n 0, 1) := by decide +kernel
theorem dX9_item_164 : decode cX9_item 164 = .ok (.getfield 99, 3) := by decide +kernel
theorem dX9_item_167 : decode cX9_item 167 = .ok (.iload 12, 2) := by decide +kernel
theorem dX9_item_169 : decode cX9_item 169 = .ok (.aload_n 0, 1) := by decide +kernel
theorem dX9_item_170 : decode cX9_item 170 = .ok (.getfield 199, 3) := by decide +kernel
theorem dX9_item_173 : decode cX9_item 173 = .ok (.iastore, 1) := by decide +kernel
theorem dX9_item_174 : decode cX9_item 174 = .ok (.aload_n 0, 1) := by decide +kernel
theorem dX9_item_175 : decode cX9_item 175 = .ok (.getfield 102, 3) := by decide +kernel
theorem dX9_item_178 : decode cX9_item 178 = .ok (.iload 12, 2) := by decide +kernel
theorem dX9_item_180 : decode cX9_item 180 = .ok (.iload 4, 2) := by decide +kernel
theorem dX9_item_182 : decode cX9_item 182 = .ok (.iastore, 1) := by decide +kernel
theorem dX9_item_183 : decode cX9_item 183 = .ok (.aload_n 0, 1) := by decide +kernel
theorem dX9_item_184 : decode cX9_item 184 = .ok (.getfield 105, 3) := by decide +kernel
theorem dX9_item_187 : decode cX9_item 187 = .ok (.iload 12, 2) := by decide +kernel
theorem dX9_item_189 : decode cX9_item 189 = .ok (.iload 5, 2) := by decide +kernel
theorem dX9_item_191 : decode cX9_item 191 = .ok (.iastore, 1) := by decide +kernel
theorem dX9_item_192 : decode cX9_item 192 = .ok (.aload_n 0, 1) := by decide +kernel
theorem dX9_item_193 : decode cX9_item 193 = .ok (.getfield 108, 3) := by decide +kernel
theorem dX9_item_196 : decode cX9_item 196 = .ok (.iload 12, 2) := by decide +kernel
theorem dX9_item_198 : decode cX9_item 198 = .ok (.iload 6, 2) := by decide +kernel
theorem dX9_item_200 : decode cX9_item 200 = .ok (.bastore, 1) := by decide +kernel
theorem dX9_item_201 : decode cX9_item 201 = .ok (.aload_n 0, 1) := by decide +kernel
theorem dX9_item_202 : decode cX9_item 202 = .ok (.getfield 111, 3) := by decide +kernel
theorem dX9_item_205 : decode cX9_item 205 = .ok (.iload 12, 2) := by decide +kernel
theorem dX9_item_207 : decode cX9_item 207 = .ok (.iload 7, 2) := by decide +kernel
theorem dX9_item_209 : decode cX9_item 209 = .ok (.iastore, 1) := by decide +kernel
theorem dX9_item_210 : decode cX9_item 210 = .ok (.aload_n 0, 1) := by decide +kernel
theorem dX9_item_211 : decode cX9_item 211 = .ok (.getfield 114, 3) := by decide +kernel
theorem dX9_item_214 : decode cX9_item 214 = .ok (.iload 12, 2) := by decide +kernel
theorem dX9_item_216 : decode cX9_item 216 = .ok (.lload 8, 2) := by decide +kernel
theorem dX9_item_218 : decode cX9_item 218 = .ok (.lastore, 1) := by decide +kernel
theorem dX9_item_219 : decode cX9_item 219 = .ok (.aload_n 0, 1) := by decide +kernel
theorem dX9_item_220 : decode cX9_item 220 = .ok (.getfield 75, 3) := by decide +kernel
theorem dX9_item_223 : decode cX9_item 223 = .ok (.iload_n 2, 1) := by decide +kernel
theorem dX9_item_224 : decode cX9_item 224 = .ok (.aload_n 0, 1) := by decide +kernel
theorem dX9_item_225 : decode cX9_item 225 = .ok (.getfield 60, 3) := by decide +kernel
theorem dX9_item_228 : decode cX9_item 228 = .ok (.iload_n 2, 1) := by decide +kernel
theorem dX9_item_229 : decode cX9_item 229 = .ok (.iaload, 1) := by decide +kernel
theorem dX9_item_230 : decode cX9_item 230 = .ok (.iastore, 1) := by decide +kernel
theorem dX9_item_231 : decode cX9_item 231 = .ok (.iload 7, 2) := by decide +kernel
theorem dX9_item_233 : decode cX9_item 233 = .ok (.ifCond .le 9, 3) := by decide +kernel
theorem dX9_item_236 : decode cX9_item 236 = .ok (.aload_n 0, 1) := by decide +kernel
theorem dX9_item_237 : decode cX9_item 237 = .ok (.iload 12, 2) := by decide +kernel
theorem dX9_item_239 : decode cX9_item 239 = .ok (.invokevirtual 242, 3) := by decide +kernel
theorem dX9_item_242 : decode cX9_item 242 = .ok (.iload 12, 2) := by decide +kernel
theorem dX9_item_244 : decode cX9_item 244 = .ok (.ireturn, 1) := by decide +kernel
theorem dX9_lacksItem_0 : decode cX9_lacksItem 0 = .ok (.aload_n 0, 1) := by decide +kernel
theorem dX9_lacksItem_1 : decode cX9_lacksItem 1 = .ok (.iload_n 1, 1) := by decide +kernel
theorem dX9_lacksItem_2 : decode cX9_lacksItem 2 = .ok (.invokevirtual 260, 3) := by decide +kernel
theorem dX9_lacksItem_5 : decode cX9_lacksItem 5 = .ok (.istore_n 3, 1) := by decide +kernel
theorem dX9_lacksItem_6 : decode cX9_lacksItem 6 = .ok (.iload_n 3, 1) := by decide +kernel
theorem dX9_lacksItem_7 : decode cX9_lacksItem 7 = .ok (.ifCond .ge 7, 3) := by decide +kernel
theorem dX9_lacksItem_10 : decode cX9_lacksItem 10 = .ok (.iload_n 3, 1) := by decide +kernel
theorem dX9_lacksItem_11 : decode cX9_lacksItem 11 = .ok (.goto 49, 3) := by decide +kernel
theorem dX9_lacksItem_14 : decode cX9_lacksItem 14 = .ok (.iload_n 2, 1) := by decide +kernel
theorem dX9_lacksItem_15 : decode cX9_lacksItem 15 = .ok (.i2l, 1) := by decide +kernel
theorem dX9_lacksItem_16 : decode cX9_lacksItem 16 = .ok (.lconst 0, 1) := by decide +kernel
theorem dX9_lacksItem_17 : decode cX9_lacksItem 17 = .ok (.aload_n 0, 1) := by decide +kernel
theorem dX9_lacksItem_18 : decode cX9_lacksItem 18 = .ok (.getfield 202, 3) := by decide +kernel
theorem dX9_lacksItem_21 : decode cX9_lacksItem 21 = .ok (.iconst 1, 1) := by decide +kernel
theorem dX9_lacksItem_22 : decode cX9_lacksItem 22 = .ok (.isub, 1) := by decide +kernel
theorem dX9_lacksItem_23 : decode cX9_lacksItem 23 = .ok (.i2l, 1) := by decide +kernel
theorem dX9_lacksItem_24 : decode cX9_lacksItem 24 = .ok (.invokestatic 171, 3) := by decide +kernel
theorem dX9_lacksItem_27 : decode cX9_lacksItem 27 = .ok (.ifCond .eq 27, 3) := by decide +kernel
theorem dX9_lacksItem_30 : decode cX9_lacksItem 30 = .ok (.aload_n 0, 1) := by decide +kernel
theorem dX9_lacksItem_31 : decode cX9_lacksItem 31 = .ok (.getfield 90, 3) := by decide +kernel
theorem dX9_lacksItem_34 : decode cX9_lacksItem 34 = .ok (.iload_n 2, 1) := by decide +kernel
theorem dX9_lacksItem_35 : decode cX9_lacksItem 35 = .ok (.baload, 1) := by decide +kernel
theorem dX9_lacksItem_36 : decode cX9_lacksItem 36 = .ok (.ifCond .eq 18, 3) := by decide +kernel
theorem dX9_lacksItem_39 : decode cX9_lacksItem 39 = .ok (.aload_n 0, 1) := by decide +kernel
theorem dX9_lacksItem_40 : decode cX9_lacksItem 40 = .ok (.getfield 48, 3) := by decide +kernel
theorem dX9_lacksItem_43 : decode cX9_lacksItem 43 = .ok (.aload_n 0, 1) := by decide +kernel
theorem dX9_lacksItem_44 : decode cX9_lacksItem 44 = .ok (.getfield 93, 3) := by decide +kernel
theorem dX9_lacksItem_47 : decode cX9_lacksItem 47 = .ok (.iload_n 2, 1) := by decide +kernel
theorem dX9_lacksItem_48 : decode cX9_lacksItem 48 = .ok (.iaload, 1) := by decide +kernel
theorem dX9_lacksItem_49 : decode cX9_lacksItem 49 = .ok (.iaload, 1) := by decide +kernel
theorem dX9_lacksItem_50 : decode cX9_lacksItem 50 = .ok (.iload_n 1, 1) := by decide +kernel
theorem dX9_lacksItem_51 : decode cX9_lacksItem 51 = .ok (.if_icmp .eq 8, 3) := by decide +kernel
theorem dX9_lacksItem_54 : decode cX9_lacksItem 54 = .ok (.bipush (-6), 2) := by decide +kernel
theorem dX9_lacksItem_56 : decode cX9_lacksItem 56 = .ok (.goto 4, 3) := by decide +kernel
theorem dX9_lacksItem_59 : decode cX9_lacksItem 59 = .ok (.iconst 0, 1) := by decide +kernel
theorem dX9_lacksItem_60 : decode cX9_lacksItem 60 = .ok (.ireturn, 1) := by decide +kernel
theorem dX9_mode_0 : decode cX9_mode 0 = .ok (.aload_n 0, 1) := by decide +kernel
theorem dX9_mode_1 : decode cX9_mode 1 = .ok (.iload_n 1, 1) := by decide +kernel
theorem dX9_mode_2 : decode cX9_mode 2 = .ok (.iload_n 2, 1) := by decide +kernel
theorem dX9_mode_3 : decode cX9_mode 3 = .ok (.invokevirtual 289, 3) := by decide +kernel
theorem dX9_mode_6 : decode cX9_mode 6 = .ok (.istore 4, 2) := by decide +kernel
theorem dX9_mode_8 : decode cX9_mode 8 = .ok (.iload 4, 2) := by decide +kernel
theorem dX9_mode_10 : decode cX9_mode 10 = .ok (.ifCond .ge 8, 3) := by decide +kernel
theorem dX9_mode_13 : decode cX9_mode 13 = .ok (.iload 4, 2) := by decide +kernel
theorem dX9_mode_15 : decode cX9_mode 15 = .ok (.goto 21, 3) := by decide +kernel
theorem dX9_mode_18 : decode cX9_mode 18 = .ok (.iload_n 3, 1) := by decide +kernel
theorem dX9_mode_19 : decode cX9_mode 19 = .ok (.i2l, 1) := by decide +kernel
theorem dX9_mode_20 : decode cX9_mode 20 = .ok (.lconst 0, 1) := by decide +kernel
theorem dX9_mode_21 : decode cX9_mode 21 = .ok (.ldc2_w 169, 3) := by decide +kernel
theorem dX9_mode_24 : decode cX9_mode 24 = .ok (.invokestatic 171, 3) := by decide +kernel
theorem dX9_mode_27 : decode cX9_mode 27 = .ok (.ifCond .ne 8, 3) := by decide +kernel
theorem dX9_mode_30 : decode cX9_mode 30 = .ok (.bipush (-7), 2) := by decide +kernel
theorem dX9_mode_32 : decode cX9_mode 32 = .ok (.goto 4, 3) := by decide +kernel
theorem dX9_mode_35 : decode cX9_mode 35 = .ok (.iconst 0, 1) := by decide +kernel
theorem dX9_mode_36 : decode cX9_mode 36 = .ok (.istore 4, 2) := by decide +kernel
theorem dX9_mode_38 : decode cX9_mode 38 = .ok (.iload 4, 2) := by decide +kernel
theorem dX9_mode_40 : decode cX9_mode 40 = .ok (.ifCond .ge 10, 3) := by decide +kernel
theorem dX9_mode_43 : decode cX9_mode 43 = .ok (.aload_n 0, 1) := by decide +kernel
theorem dX9_mode_44 : decode cX9_mode 44 = .ok (.iload 4, 2) := by decide +kernel
theorem dX9_mode_46 : decode cX9_mode 46 = .ok (.invokevirtual 175, 3) := by decide +kernel
theorem dX9_mode_49 : decode cX9_mode 49 = .ok (.ireturn, 1) := by decide +kernel
theorem dX9_mode_50 : decode cX9_mode 50 = .ok (.aload_n 0, 1) := by decide +kernel
theorem dX9_mode_51 : decode cX9_mode 51 = .ok (.getfield 111, 3) := by decide +kernel
theorem dX9_mode_54 : decode cX9_mode 54 = .ok (.iload_n 2, 1) := by decide +kernel
theorem dX9_mode_55 : decode cX9_mode 55 = .ok (.iaload, 1) := by decide +kernel
theorem dX9_mode_56 : decode cX9_mode 56 = .ok (.istore 5, 2) := by decide +kernel
theorem dX9_mode_58 : decode cX9_mode 58 = .ok (.aload_n 0, 1) := by decide +kernel
theorem dX9_mode_59 : decode cX9_mode 59 = .ok (.getfield 111, 3) := by decide +kernel
theorem dX9_mode_62 : decode cX9_mode 62 = .ok (.iload_n 2, 1) := by decide +kernel
theorem dX9_mode_63 : decode cX9_mode 63 = .ok (.iload_n 3, 1) := by decide +kernel
theorem dX9_mode_64 : decode cX9_mode 64 = .ok (.iastore, 1) := by decide +kernel
theorem dX9_mode_65 : decode cX9_mode 65 = .ok (.aload_n 0, 1) := by decide +kernel
theorem dX9_mode_66 : decode cX9_mode 66 = .ok (.getfield 75, 3) := by decide +kernel
theorem dX9_mode_69 : decode cX9_mode 69 = .ok (.aload_n 0, 1) := by decide +kernel
theorem dX9_mode_70 : decode cX9_mode 70 = .ok (.getfield 93, 3) := by decide +kernel
theorem dX9_mode_73 : decode cX9_mode 73 = .ok (.iload_n 2, 1) := by decide +kernel
theorem dX9_mode_74 : decode cX9_mode 74 = .ok (.iaload, 1) := by decide +kernel
theorem dX9_mode_75 : decode cX9_mode 75 = .ok (.aload_n 0, 1) := by decide +kernel
theorem dX9_mode_76 : decode cX9_mode 76 = .ok (.getfield 60, 3) := by decide +kernel
theorem dX9_mode_79 : decode cX9_mode 79 = .ok (.aload_n 0, 1) := by decide +kernel
theorem dX9_mode_80 : decode cX9_mode 80 = .ok (.getfield 93, 3) := by decide +kernel
theorem dX9_mode_83 : decode cX9_mode 83 = .ok (.iload_n 2, 1) := by decide +kernel
theorem dX9_mode_84 : decode cX9_mode 84 = .ok (.iaload, 1) := by decide +kernel
theorem dX9_mode_85 : decode cX9_mode 85 = .ok (.iaload, 1) := by decide +kernel
theorem dX9_mode_86 : decode cX9_mode 86 = .ok (.iastore, 1) := by decide +kernel
theorem dX9_mode_87 : decode cX9_mode 87 = .ok (.iload_n 3, 1) := by decide +kernel
theorem dX9_mode_88 : decode cX9_mode 88 = .ok (.ifCond .ne 20, 3) := by decide +kernel
theorem dX9_mode_91 : decode cX9_mode 91 = .ok (.aload_n 0, 1) := by decide +kernel
theorem dX9_mode_92 : decode cX9_mode 92 = .ok (.getfield 123, 3) := by decide +kernel
theorem dX9_mode_95 : decode cX9_mode 95 = .ok (.iload_n 2, 1) := by decide +kernel
theorem dX9_mode_96 : decode cX9_mode 96 = .ok (.iconst 0, 1) := by decide +kernel
theorem dX9_mode_97 : decode cX9_mode 97 = .ok (.iastore, 1) := by decide +kernel
theorem dX9_mode_98 : decode cX9_mode 98 = .ok (.aload_n 0, 1) := by decide +kernel
theorem dX9_mode_99 : decode cX9_mode 99 = .ok (.getfield 117, 3) := by decide +kernel
theorem dX9_mode_102 : decode cX9_mode 102 = .ok (.iload_n 2, 1) := by decide +kernel
theorem dX9_mode_103 : decode cX9_mode 103 = .ok (.iconst 0, 1) := by decide +kernel
theorem dX9_mode_104 : decode cX9_mode 104 = .ok (.bastore, 1) := by decide +kernel
theorem dX9_mode_105 : decode cX9_mode 105 = .ok (.goto 20, 3) := by decide +kernel
theorem dX9_mode_108 : decode cX9_mode 108 = .ok (.iload 5, 2) := by decide +kernel
theorem dX9_mode_110 : decode cX9_mode 110 = .ok (.ifCond .ne 15, 3) := by decide +kernel
theorem dX9_mode_113 : decode cX9_mode 113 = .ok (.aload_n 0, 1) := by decide +kernel
theorem dX9_mode_114 : decode cX9_mode 114 = .ok (.getfield 117, 3) := by decide +kernel
theorem dX9_mode_117 : decode cX9_mode 117 = .ok (.iload_n 2, 1) := by decide +kernel
theorem dX9_mode_118 : decode cX9_mode 118 = .ok (.iconst 0, 1) := by decide +kernel
theorem dX9_mode_119 : decode cX9_mode 119 = .ok (.bastore, 1) := by decide +kernel
theorem dX9_mode_120 : decode cX9_mode 120 = .ok (.aload_n 0, 1) := by decide +kernel
theorem dX9_mode_121 : decode cX9_mode 121 = .ok (.iload_n 2, 1) := by decide +kernel
theorem dX9_mode_122 : decode cX9_mode 122 = .ok (.invokevirtual 242, 3) := by decide +kernel
theorem dX9_mode_125 : decode cX9_mode 125 = .ok (.iload 5, 2) := by decide +kernel
theorem dX9_mode_127 : decode cX9_mode 127 = .ok (.ireturn, 1) := by decide +kernel
theorem dX9_drop_0 : decode cX9_drop 0 = .ok (.aload_n 0, 1) := by decide +kernel
theorem dX9_drop_1 : decode cX9_drop 1 = .ok (.iload_n 1, 1) := by decide +kernel
theorem dX9_drop_2 : decode cX9_drop 2 = .ok (.iload_n 2, 1) := by decide +kernel
theorem dX9_drop_3 : decode cX9_drop 3 = .ok (.invokevirtual 289, 3) := by decide +kernel
theorem dX9_drop_6 : decode cX9_drop 6 = .ok (.istore_n 3, 1) := by decide +kernel
theorem dX9_drop_7 : decode cX9_drop 7 = .ok (.iload_n 3, 1) := by decide +kernel
theorem dX9_drop_8 : decode cX9_drop 8 = .ok (.ifCond .ge 9, 3) := by decide +kernel
theorem dX9_drop_11 : decode cX9_drop 11 = .ok (.aload_n 0, 1) := by decide +kernel
theorem dX9_drop_12 : decode cX9_drop 12 = .ok (.iload_n 3, 1) := by decide +kernel
theorem dX9_drop_13 : decode cX9_drop 13 = .ok (.invokevirtual 175, 3) := by decide +kernel
theorem dX9_drop_16 : decode cX9_drop 16 = .ok (.ireturn, 1) := by decide +kernel
theorem dX9_drop_17 : decode cX9_drop 17 = .ok (.aload_n 0, 1) := by decide +kernel
theorem dX9_drop_18 : decode cX9_drop 18 = .ok (.getfield 90, 3) := by decide +kernel
theorem dX9_drop_21 : decode cX9_drop 21 = .ok (.iload_n 2, 1) := by decide +kernel
theorem dX9_drop_22 : decode cX9_drop 22 = .ok (.iconst 0, 1) := by decide +kernel
theorem dX9_drop_23 : decode cX9_drop 23 = .ok (.bastore, 1) := by decide +kernel
theorem dX9_drop_24 : decode cX9_drop 24 = .ok (.aload_n 0, 1) := by decide +kernel
theorem dX9_drop_25 : decode cX9_drop 25 = .ok (.getfield 75, 3) := by decide +kernel
theorem dX9_drop_28 : decode cX9_drop 28 = .ok (.aload_n 0, 1) := by decide +kernel
theorem dX9_drop_29 : decode cX9_drop 29 = .ok (.getfield 93, 3) := by decide +kernel
theorem dX9_drop_32 : decode cX9_drop 32 = .ok (.iload_n 2, 1) := by decide +kernel
theorem dX9_drop_33 : decode cX9_drop 33 = .ok (.iaload, 1) := by decide +kernel
theorem dX9_drop_34 : decode cX9_drop 34 = .ok (.aload_n 0, 1) := by decide +kernel
theorem dX9_drop_35 : decode cX9_drop 35 = .ok (.getfield 60, 3) := by decide +kernel
theorem dX9_drop_38 : decode cX9_drop 38 = .ok (.aload_n 0, 1) := by decide +kernel
theorem dX9_drop_39 : decode cX9_drop 39 = .ok (.getfield 93, 3) := by decide +kernel
theorem dX9_drop_42 : decode cX9_drop 42 = .ok (.iload_n 2, 1) := by decide +kernel
theorem dX9_drop_43 : decode cX9_drop 43 = .ok (.iaload, 1) := by decide +kernel
theorem dX9_drop_44 : decode cX9_drop 44 = .ok (.iaload, 1) := by decide +kernel
theorem dX9_drop_45 : decode cX9_drop 45 = .ok (.iastore, 1) := by decide +kernel
theorem dX9_drop_46 : decode cX9_drop 46 = .ok (.aload_n 0, 1) := by decide +kernel
theorem dX9_drop_47 : decode cX9_drop 47 = .ok (.getfield 123, 3) := by decide +kernel
theorem dX9_drop_50 : decode cX9_drop 50 = .ok (.iload_n 2, 1) := by decide +kernel
theorem dX9_drop_51 : decode cX9_drop 51 = .ok (.iaload, 1) := by decide +kernel
theorem dX9_drop_52 : decode cX9_drop 52 = .ok (.ireturn, 1) := by decide +kernel
theorem dX9_findKept_0 : decode cX9_findKept 0 = .ok (.iconst 0, 1) := by decide +kernel
theorem dX9_findKept_1 : decode cX9_findKept 1 = .ok (.istore_n 3, 1) := by decide +kernel
theorem dX9_findKept_2 : decode cX9_findKept 2 = .ok (.iload_n 3, 1) := by decide +kernel
theorem dX9_findKept_3 : decode cX9_findKept 3 = .ok (.aload_n 0, 1) := by decide +kernel
theorem dX9_findKept_4 : decode cX9_findKept 4 = .ok (.getfield 205, 3) := by decide +kernel
theorem dX9_findKept_7 : decode cX9_findKept 7 = .ok (.if_icmp .ge 40, 3) := by decide +kernel
theorem dX9_findKept_10 : decode cX9_findKept 10 = .ok (.aload_n 0, 1) := by decide +kernel
theorem dX9_findKept_11 : decode cX9_findKept 11 = .ok (.getfield 150, 3) := by decide +kernel
theorem dX9_findKept_14 : decode cX9_findKept 14 = .ok (.iload_n 3, 1) := by decide +kernel
theorem dX9_findKept_15 : decode cX9_findKept 15 = .ok (.baload, 1) := by decide +kernel
theorem dX9_findKept_16 : decode cX9_findKept 16 = .ok (.ifCond .eq 25, 3) := by decide +kernel
theorem dX9_findKept_19 : decode cX9_findKept 19 = .ok (.aload_n 0, 1) := by decide +kernel
theorem dX9_findKept_20 : decode cX9_findKept 20 = .ok (.getfield 135, 3) := by decide +kernel
theorem dX9_findKept_23 : decode cX9_findKept 23 = .ok (.iload_n 3, 1) := by decide +kernel
theorem dX9_findKept_24 : decode cX9_findKept 24 = .ok (.iaload, 1) := by decide +kernel
theorem dX9_findKept_25 : decode cX9_findKept 25 = .ok (.iload_n 1, 1) := by decide +kernel
theorem dX9_findKept_26 : decode cX9_findKept 26 = .ok (.if_icmp .ne 15, 3) := by decide +kernel
theorem dX9_findKept_29 : decode cX9_findKept 29 = .ok (.aload_n 0, 1) := by decide +kernel
theorem dX9_findKept_30 : decode cX9_findKept 30 = .ok (.getfield 138, 3) := by decide +kernel
theorem dX9_findKept_33 : decode cX9_findKept 33 = .ok (.iload_n 3, 1) := by decide +kernel
theorem dX9_findKept_34 : decode cX9_findKept 34 = .ok (.iaload, 1) := by decide +kernel
theorem dX9_findKept_35 : decode cX9_findKept 35 = .ok (.iload_n 2, 1) := by decide +kernel
theorem dX9_findKept_36 : decode cX9_findKept 36 = .ok (.if_icmp .ne 5, 3) := by decide +kernel
theorem dX9_findKept_39 : decode cX9_findKept 39 = .ok (.iload_n 3, 1) := by decide +kernel
theorem dX9_findKept_40 : decode cX9_findKept 40 = .ok (.ireturn, 1) := by decide +kernel
theorem dX9_findKept_41 : decode cX9_findKept 41 = .ok (.iinc 3 1, 3) := by decide +kernel
theorem dX9_findKept_44 : decode cX9_findKept 44 = .ok (.goto (-42), 3) := by decide +kernel
theorem dX9_findKept_47 : decode cX9_findKept 47 = .ok (.iconst (-1), 1) := by decide +kernel
theorem dX9_findKept_48 : decode cX9_findKept 48 = .ok (.ireturn, 1) := by decide +kernel
theorem dX9_acknowledge_0 : decode cX9_acknowledge 0 = .ok (.iload_n 2, 1) := by decide +kernel
theorem dX9_acknowledge_1 : decode cX9_acknowledge 1 = .ok (.iconst (-1), 1) := by decide +kernel
theorem dX9_acknowledge_2 : decode cX9_acknowledge 2 = .ok (.if_icmp .ne 5, 3) := by decide +kernel
theorem dX9_acknowledge_5 : decode cX9_acknowledge 5 = .ok (.iconst 0, 1) := by decide +kernel
theorem dX9_acknowledge_6 : decode cX9_acknowledge 6 = .ok (.ireturn, 1) := by decide +kernel
theorem dX9_acknowledge_7 : decode cX9_acknowledge 7 = .ok (.iload_n 2, 1) := by decide +kernel
theorem dX9_acknowledge_8 : decode cX9_acknowledge 8 = .ok (.i2l, 1) := by decide +kernel
theorem dX9_acknowledge_9 : decode cX9_acknowledge 9 = .ok (.lconst 0, 1) := by decide +kernel
theorem dX9_acknowledge_10 : decode cX9_acknowledge 10 = .ok (.aload_n 0, 1) := by decide +kernel
theorem dX9_acknowledge_11 : decode cX9_acknowledge 11 = .ok (.getfield 224, 3) := by decide +kernel
theorem dX9_acknowledge_14 : decode cX9_acknowledge 14 = .ok (.iconst 1, 1) := by decide +kernel
theorem dX9_acknowledge_15 : decode cX9_acknowledge 15 = .ok (.isub, 1) := by decide +kernel
theorem dX9_acknowledge_16 : decode cX9_acknowledge 16 = .ok (.i2l, 1) := by decide +kernel
theorem dX9_acknowledge_17 : decode cX9_acknowledge 17 = .ok (.invokestatic 171, 3) := by decide +kernel
theorem dX9_acknowledge_20 : decode cX9_acknowledge 20 = .ok (.ifCond .eq 22, 3) := by decide +kernel
theorem dX9_acknowledge_23 : decode cX9_acknowledge 23 = .ok (.aload_n 0, 1) := by decide +kernel
theorem dX9_acknowledge_24 : decode cX9_acknowledge 24 = .ok (.getfield 44, 3) := by decide +kernel
theorem dX9_acknowledge_27 : decode cX9_acknowledge 27 = .ok (.iload_n 2, 1) := by decide +kernel
theorem dX9_acknowledge_28 : decode cX9_acknowledge 28 = .ok (.baload, 1) := by decide +kernel
theorem dX9_acknowledge_29 : decode cX9_acknowledge 29 = .ok (.ifCond .eq 13, 3) := by decide +kernel
theorem dX9_acknowledge_32 : decode cX9_acknowledge 32 = .ok (.aload_n 0, 1) := by decide +kernel
theorem dX9_acknowledge_33 : decode cX9_acknowledge 33 = .ok (.getfield 48, 3) := by decide +kernel
theorem dX9_acknowledge_36 : decode cX9_acknowledge 36 = .ok (.iload_n 2, 1) := by decide +kernel
theorem dX9_acknowledge_37 : decode cX9_acknowledge 37 = .ok (.iaload, 1) := by decide +kernel
theorem dX9_acknowledge_38 : decode cX9_acknowledge 38 = .ok (.iload_n 1, 1) := by decide +kernel
theorem dX9_acknowledge_39 : decode cX9_acknowledge 39 = .ok (.if_icmp .eq 6, 3) := by decide +kernel
theorem dX9_acknowledge_42 : decode cX9_acknowledge 42 = .ok (.bipush (-5), 2) := by decide +kernel
theorem dX9_acknowledge_44 : decode cX9_acknowledge 44 = .ok (.ireturn, 1) := by decide +kernel
theorem dX9_acknowledge_45 : decode cX9_acknowledge 45 = .ok (.aload_n 0, 1) := by decide +kernel
theorem dX9_acknowledge_46 : decode cX9_acknowledge 46 = .ok (.iload_n 2, 1) := by decide +kernel
theorem dX9_acknowledge_47 : decode cX9_acknowledge 47 = .ok (.iload_n 3, 1) := by decide +kernel
theorem dX9_acknowledge_48 : decode cX9_acknowledge 48 = .ok (.invokevirtual 292, 3) := by decide +kernel
theorem dX9_acknowledge_51 : decode cX9_acknowledge 51 = .ok (.istore 4, 2) := by decide +kernel
theorem dX9_acknowledge_53 : decode cX9_acknowledge 53 = .ok (.iload 4, 2) := by decide +kernel
theorem dX9_acknowledge_55 : decode cX9_acknowledge 55 = .ok (.ifCond .ge 6, 3) := by decide +kernel
theorem dX9_acknowledge_58 : decode cX9_acknowledge 58 = .ok (.bipush (-9), 2) := by decide +kernel
theorem dX9_acknowledge_60 : decode cX9_acknowledge 60 = .ok (.ireturn, 1) := by decide +kernel
theorem dX9_acknowledge_61 : decode cX9_acknowledge 61 = .ok (.aload_n 0, 1) := by decide +kernel
theorem dX9_acknowledge_62 : decode cX9_acknowledge 62 = .ok (.getfield 150, 3) := by decide +kernel
theorem dX9_acknowledge_65 : decode cX9_acknowledge 65 = .ok (.iload 4, 2) := by decide +kernel
theorem dX9_acknowledge_67 : decode cX9_acknowledge 67 = .ok (.iconst 0, 1) := by decide +kernel
theorem dX9_acknowledge_68 : decode cX9_acknowledge 68 = .ok (.bastore, 1) := by decide +kernel
theorem dX9_acknowledge_69 : decode cX9_acknowledge 69 = .ok (.iconst 1, 1) := by decide +kernel
theorem dX9_acknowledge_70 : decode cX9_acknowledge 70 = .ok (.ireturn, 1) := by decide +kernel
theorem dX9_publish_0 : decode cX9_publish 0 = .ok (.aload_n 0, 1) := by decide +kernel
theorem dX9_publish_1 : decode cX9_publish 1 = .ok (.iload_n 1, 1) := by decide +kernel
theorem dX9_publish_2 : decode cX9_publish 2 = .ok (.invokevirtual 260, 3) := by decide +kernel
theorem dX9_publish_5 : decode cX9_publish 5 = .ok (.istore 4, 2) := by decide +kernel
theorem dX9_publish_7 : decode cX9_publish 7 = .ok (.iconst (-1), 1) := by decide +kernel
theorem dX9_publish_8 : decode cX9_publish 8 = .ok (.istore 5, 2) := by decide +kernel
theorem dX9_publish_10 : decode cX9_publish 10 = .ok (.iconst 0, 1) := by decide +kernel
theorem dX9_publish_11 : decode cX9_publish 11 = .ok (.istore 6, 2) := by decide +kernel
theorem dX9_publish_13 : decode cX9_publish 13 = .ok (.iload 6, 2) := by decide +kernel
theorem dX9_publish_15 : decode cX9_publish 15 = .ok (.aload_n 0, 1) := by decide +kernel
theorem dX9_publish_16 : decode cX9_publish 16 = .ok (.getfield 224, 3) := by decide +kernel
theorem dX9_publish_19 : decode cX9_publish 19 = .ok (.if_icmp .ge 49, 3) := by decide +kernel
theorem dX9_publish_22 : decode cX9_publish 22 = .ok (.iload 4, 2) := by decide +kernel
theorem dX9_publish_24 : decode cX9_publish 24 = .ok (.ifCond .ne 44, 3) := by decide +kernel
theorem dX9_publish_27 : decode cX9_publish 27 = .ok (.iload 5, 2) := by decide +kernel
theorem dX9_publish_29 : decode cX9_publish 29 = .ok (.ifCond .ge 29, 3) := by decide +kernel
theorem dX9_publish_32 : decode cX9_publish 32 = .ok (.aload_n 0, 1) := by decide +kernel
theorem dX9_publish_33 : decode cX9_publish 33 = .ok (.getfield 44, 3) := by decide +kernel
theorem dX9_publish_36 : decode cX9_publish 36 = .ok (.iload 6, 2) := by decide +kernel
theorem dX9_publish_38 : decode cX9_publish 38 = .ok (.baload, 1) := by decide +kernel
theorem dX9_publish_39 : decode cX9_publish 39 = .ok (.ifCond .eq 19, 3) := by decide +kernel
theorem dX9_publish_42 : decode cX9_publish 42 = .ok (.aload_n 0, 1) := by decide +kernel
theorem dX9_publish_43 : decode cX9_publish 43 = .ok (.getfield 48, 3) := by decide +kernel
theorem dX9_publish_46 : decode cX9_publish 46 = .ok (.iload 6, 2) := by decide +kernel
theorem dX9_publish_48 : decode cX9_publish 48 = .ok (.iaload, 1) := by decide +kernel
theorem dX9_publish_49 : decode cX9_publish 49 = .ok (.iload_n 1, 1) := by decide +kernel
theorem dX9_publish_50 : decode cX9_publish 50 = .ok (.if_icmp .ne 8, 3) := by decide +kernel
theorem dX9_publish_53 : decode cX9_publish 53 = .ok (.iload 6, 2) := by decide +kernel
theorem dX9_publish_55 : decode cX9_publish 55 = .ok (.goto 5, 3) := by decide +kernel
theorem dX9_publish_58 : decode cX9_publish 58 = .ok (.iload 5, 2) := by decide +kernel
theorem dX9_publish_60 : decode cX9_publish 60 = .ok (.istore 5, 2) := by decide +kernel
theorem dX9_publish_62 : decode cX9_publish 62 = .ok (.iinc 6 1, 3) := by decide +kernel
theorem dX9_publish_65 : decode cX9_publish 65 = .ok (.goto (-52), 3) := by decide +kernel
theorem dX9_publish_68 : decode cX9_publish 68 = .ok (.iload 4, 2) := by decide +kernel
theorem dX9_publish_70 : decode cX9_publish 70 = .ok (.ifCond .ge 8, 3) := by decide +kernel
theorem dX9_publish_73 : decode cX9_publish 73 = .ok (.iload 4, 2) := by decide +kernel
theorem dX9_publish_75 : decode cX9_publish 75 = .ok (.goto 39, 3) := by decide +kernel
theorem dX9_publish_78 : decode cX9_publish 78 = .ok (.iload 5, 2) := by decide +kernel
theorem dX9_publish_80 : decode cX9_publish 80 = .ok (.ifCond .ge 8, 3) := by decide +kernel
theorem dX9_publish_83 : decode cX9_publish 83 = .ok (.bipush (-9), 2) := by decide +kernel
theorem dX9_publish_85 : decode cX9_publish 85 = .ok (.goto 29, 3) := by decide +kernel
theorem dX9_publish_88 : decode cX9_publish 88 = .ok (.aload_n 0, 1) := by decide +kernel
theorem dX9_publish_89 : decode cX9_publish 89 = .ok (.getfield 35, 3) := by decide +kernel
theorem dX9_publish_92 : decode cX9_publish 92 = .ok (.iload_n 1, 1) := by decide +kernel
theorem dX9_publish_93 : decode cX9_publish 93 = .ok (.iaload, 1) := by decide +kernel
theorem dX9_publish_94 : decode cX9_publish 94 = .ok (.iconst 4, 1) := by decide +kernel
theorem dX9_publish_95 : decode cX9_publish 95 = .ok (.if_icmp .eq 13, 3) := by decide +kernel
theorem dX9_publish_98 : decode cX9_publish 98 = .ok (.aload_n 0, 1) := by decide +kernel
theorem dX9_publish_99 : decode cX9_publish 99 = .ok (.getfield 205, 3) := by decide +kernel
theorem dX9_publish_102 : decode cX9_publish 102 = .ok (.sipush 900, 3) := by decide +kernel
theorem dX9_publish_105 : decode cX9_publish 105 = .ok (.if_icmp .ne 8, 3) := by decide +kernel
theorem dX9_publish_108 : decode cX9_publish 108 = .ok (.bipush (-8), 2) := by decide +kernel
theorem dX9_publish_110 : decode cX9_publish 110 = .ok (.goto 4, 3) := by decide +kernel
theorem dX9_publish_113 : decode cX9_publish 113 = .ok (.iconst 0, 1) := by decide +kernel
theorem dX9_publish_114 : decode cX9_publish 114 = .ok (.istore 4, 2) := by decide +kernel
theorem dX9_publish_116 : decode cX9_publish 116 = .ok (.iload 4, 2) := by decide +kernel
theorem dX9_publish_118 : decode cX9_publish 118 = .ok (.ifCond .ge 10, 3) := by decide +kernel
theorem dX9_publish_121 : decode cX9_publish 121 = .ok (.aload_n 0, 1) := by decide +kernel
theorem dX9_publish_122 : decode cX9_publish 122 = .ok (.iload 4, 2) := by decide +kernel
theorem dX9_publish_124 : decode cX9_publish 124 = .ok (.invokevirtual 175, 3) := by decide +kernel
theorem dX9_publish_127 : decode cX9_publish 127 = .ok (.ireturn, 1) := by decide +kernel
theorem dX9_publish_128 : decode cX9_publish 128 = .ok (.aload_n 0, 1) := by decide +kernel
theorem dX9_publish_129 : decode cX9_publish 129 = .ok (.aload_n 0, 1) := by decide +kernel
theorem dX9_publish_130 : decode cX9_publish 130 = .ok (.iload_n 1, 1) := by decide +kernel
theorem dX9_publish_131 : decode cX9_publish 131 = .ok (.iload_n 2, 1) := by decide +kernel
theorem dX9_publish_132 : decode cX9_publish 132 = .ok (.iload_n 3, 1) := by decide +kernel
theorem dX9_publish_133 : decode cX9_publish 133 = .ok (.invokevirtual 295, 3) := by decide +kernel
theorem dX9_publish_136 : decode cX9_publish 136 = .ok (.putfield 299, 3) := by decide +kernel
theorem dX9_publish_139 : decode cX9_publish 139 = .ok (.aload_n 0, 1) := by decide +kernel
theorem dX9_publish_140 : decode cX9_publish 140 = .ok (.getfield 35, 3) := by decide +kernel
theorem dX9_publish_143 : decode cX9_publish 143 = .ok (.iload_n 1, 1) := by decide +kernel
theorem dX9_publish_144 : decode cX9_publish 144 = .ok (.dup2, 1) := by decide +kernel
theorem dX9_publish_145 : decode cX9_publish 145 = .ok (.iaload, 1) := by decide +kernel
theorem dX9_publish_146 : decode cX9_publish 146 = .ok (.iconst 1, 1) := by decide +kernel
theorem dX9_publish_147 : decode cX9_publish 147 = .ok (.iadd, 1) := by decide +kernel
theorem dX9_publish_148 : decode cX9_publish 148 = .ok (.iastore, 1) := by decide +kernel
theorem dX9_publish_149 : decode cX9_publish 149 = .ok (.iconst (-1), 1) := by decide +kernel
theorem dX9_publish_150 : decode cX9_publish 150 = .ok (.istore 6, 2) := by decide +kernel
theorem dX9_publish_152 : decode cX9_publish 152 = .ok (.iconst 0, 1) := by decide +kernel
theorem dX9_publish_153 : decode cX9_publish 153 = .ok (.istore 7, 2) := by decide +kernel
theorem dX9_publish_155 : decode cX9_publish 155 = .ok (.iload 7, 2) := by decide +kernel
theorem dX9_publish_157 : decode cX9_publish 157 = .ok (.aload_n 0, 1) := by decide +kernel
theorem dX9_publish_158 : decode cX9_publish 158 = .ok (.getfield 224, 3) := by decide +kernel
theorem dX9_publish_161 : decode cX9_publish 161 = .ok (.if_icmp .ge 83, 3) := by decide +kernel
theorem dX9_publish_164 : decode cX9_publish 164 = .ok (.aload_n 0, 1) := by decide +kernel
theorem dX9_publish_165 : decode cX9_publish 165 = .ok (.getfield 44, 3) := by decide +kernel
theorem dX9_publish_168 : decode cX9_publish 168 = .ok (.iload 7, 2) := by decide +kernel
theorem dX9_publish_170 : decode cX9_publish 170 = .ok (.baload, 1) := by decide +kernel
theorem dX9_publish_171 : decode cX9_publish 171 = .ok (.ifCond .eq 28, 3) := by decide +kernel
theorem dX9_publish_174 : decode cX9_publish 174 = .ok (.aload_n 0, 1) := by decide +kernel
theorem dX9_publish_175 : decode cX9_publish 175 = .ok (.getfield 48, 3) := by decide +kernel
theorem dX9_publish_178 : decode cX9_publish 178 = .ok (.iload 7, 2) := by decide +kernel
theorem dX9_publish_180 : decode cX9_publish 180 = .ok (.iaload, 1) := by decide +kernel
theorem dX9_publish_181 : decode cX9_publish 181 = .ok (.iload_n 1, 1) := by decide +kernel
theorem dX9_publish_182 : decode cX9_publish 182 = .ok (.if_icmp .ne 17, 3) := by decide +kernel
theorem dX9_publish_185 : decode cX9_publish 185 = .ok (.aload_n 0, 1) := by decide +kernel
theorem dX9_publish_186 : decode cX9_publish 186 = .ok (.getfield 81, 3) := by decide +kernel
theorem dX9_publish_189 : decode cX9_publish 189 = .ok (.iload 7, 2) := by decide +kernel
theorem dX9_publish_191 : decode cX9_publish 191 = .ok (.baload, 1) := by decide +kernel
theorem dX9_publish_192 : decode cX9_publish 192 = .ok (.ifCond .eq 7, 3) := by decide +kernel
theorem dX9_publish_195 : decode cX9_publish 195 = .ok (.iconst 1, 1) := by decide +kernel
theorem dX9_publish_196 : decode cX9_publish 196 = .ok (.goto 4, 3) := by decide +kernel
theorem dX9_publish_199 : decode cX9_publish 199 = .ok (.iconst 0, 1) := by decide +kernel
theorem dX9_publish_200 : decode cX9_publish 200 = .ok (.istore 8, 2) := by decide +kernel
theorem dX9_publish_202 : decode cX9_publish 202 = .ok (.iload 8, 2) := by decide +kernel
theorem dX9_publish_204 : decode cX9_publish 204 = .ok (.ifCond .eq 30, 3) := by decide +kernel
theorem dX9_publish_207 : decode cX9_publish 207 = .ok (.iload 6, 2) := by decide +kernel
theorem dX9_publish_209 : decode cX9_publish 209 = .ok (.ifCond .lt 20, 3) := by decide +kernel
theorem dX9_publish_212 : decode cX9_publish 212 = .ok (.aload_n 0, 1) := by decide +kernel
theorem dX9_publish_213 : decode cX9_publish 213 = .ok (.getfield 84, 3) := by decide +kernel
theorem dX9_publish_216 : decode cX9_publish 216 = .ok (.iload 7, 2) := by decide +kernel
theorem dX9_publish_218 : decode cX9_publish 218 = .ok (.iaload, 1) := by decide +kernel
theorem dX9_publish_219 : decode cX9_publish 219 = .ok (.aload_n 0, 1) := by decide +kernel
theorem dX9_publish_220 : decode cX9_publish 220 = .ok (.getfield 84, 3) := by decide +kernel
theorem dX9_publish_223 : decode cX9_publish 223 = .ok (.iload 6, 2) := by decide +kernel
theorem dX9_publish_225 : decode cX9_publish 225 = .ok (.iaload, 1) := by decide +kernel
theorem dX9_publish_226 : decode cX9_publish 226 = .ok (.if_icmp .ge 8, 3) := by decide +kernel
theorem dX9_publish_229 : decode cX9_publish 229 = .ok (.iload 7, 2) := by decide +kernel
theorem dX9_publish_231 : decode cX9_publish 231 = .ok (.goto 5, 3) := by decide +kernel
theorem dX9_publish_234 : decode cX9_publish 234 = .ok (.iload 6, 2) := by decide +kernel
theorem dX9_publish_236 : decode cX9_publish 236 = .ok (.istore 6, 2) := by decide +kernel
theorem dX9_publish_238 : decode cX9_publish 238 = .ok (.iinc 7 1, 3) := by decide +kernel
theorem dX9_publish_241 : decode cX9_publish 241 = .ok (.goto (-86), 3) := by decide +kernel
theorem dX9_publish_244 : decode cX9_publish 244 = .ok (.iconst 0, 1) := by decide +kernel
theorem dX9_publish_245 : decode cX9_publish 245 = .ok (.istore 7, 2) := by decide +kernel
theorem dX9_publish_247 : decode cX9_publish 247 = .ok (.iload 7, 2) := by decide +kernel
theorem dX9_publish_249 : decode cX9_publish 249 = .ok (.aload_n 0, 1) := by decide +kernel
theorem dX9_publish_250 : decode cX9_publish 250 = .ok (.getfield 224, 3) := by decide +kernel
theorem dX9_publish_253 : decode cX9_publish 253 = .ok (.if_icmp .ge 63, 3) := by decide +kernel
theorem dX9_publish_256 : decode cX9_publish 256 = .ok (.iload 6, 2) := by decide +kernel
theorem dX9_publish_258 : decode cX9_publish 258 = .ok (.ifCond .ge 58, 3) := by decide +kernel
theorem dX9_publish_261 : decode cX9_publish 261 = .ok (.aload_n 0, 1) := by decide +kernel
theorem dX9_publish_262 : decode cX9_publish 262 = .ok (.getfield 44, 3) := by decide +kernel
theorem dX9_publish_265 : decode cX9_publish 265 = .ok (.iload 7, 2) := by decide +kernel
theorem dX9_publish_267 : decode cX9_publish 267 = .ok (.baload, 1) := by decide +kernel
theorem dX9_publish_268 : decode cX9_publish 268 = .ok (.ifCond .eq 38, 3) := by decide +kernel
theorem dX9_publish_271 : decode cX9_publish 271 = .ok (.aload_n 0, 1) := by decide +kernel
theorem dX9_publish_272 : decode cX9_publish 272 = .ok (.getfield 48, 3) := by decide +kernel
theorem dX9_publish_275 : decode cX9_publish 275 = .ok (.iload 7, 2) := by decide +kernel
theorem dX9_publish_277 : decode cX9_publish 277 = .ok (.iaload, 1) := by decide +kernel
theorem dX9_publish_278 : decode cX9_publish 278 = .ok (.iload_n 1, 1) := by decide +kernel
theorem dX9_publish_279 : decode cX9_publish 279 = .ok (.if_icmp .ne 27, 3) := by decide +kernel
theorem dX9_publish_282 : decode cX9_publish 282 = .ok (.aload_n 0, 1) := by decide +kernel
theorem dX9_publish_283 : decode cX9_publish 283 = .ok (.getfield 87, 3) := by decide +kernel
theorem dX9_publish_286 : decode cX9_publish 286 = .ok (.iload 7, 2) := by decide +kernel
theorem dX9_publish_288 : decode cX9_publish 288 = .ok (.baload, 1) := by decide +kernel
theorem dX9_publish_289 : decode cX9_publish 289 = .ok (.ifCond .eq 17, 3) := by decide +kernel
theorem dX9_publish_292 : decode cX9_publish 292 = .ok (.aload_n 0, 1) := by decide +kernel
theorem dX9_publish_293 : decode cX9_publish 293 = .ok (.iload 7, 2) := by decide +kernel
theorem dX9_publish_295 : decode cX9_publish 295 = .ok (.invokevirtual 208, 3) := by decide +kernel
theorem dX9_publish_298 : decode cX9_publish 298 = .ok (.ifCond .eq 8, 3) := by decide +kernel
theorem dX9_publish_301 : decode cX9_publish 301 = .ok (.iload 7, 2) := by decide +kernel
theorem dX9_publish_303 : decode cX9_publish 303 = .ok (.goto 5, 3) := by decide +kernel
theorem dX9_publish_306 : decode cX9_publish 306 = .ok (.iload 6, 2) := by decide +kernel
theorem dX9_publish_308 : decode cX9_publish 308 = .ok (.istore 6, 2) := by decide +kernel
theorem dX9_publish_310 : decode cX9_publish 310 = .ok (.iinc 7 1, 3) := by decide +kernel
theorem dX9_publish_313 : decode cX9_publish 313 = .ok (.goto (-66), 3) := by decide +kernel
theorem dX9_publish_316 : decode cX9_publish 316 = .ok (.iload 6, 2) := by decide +kernel
theorem dX9_publish_318 : decode cX9_publish 318 = .ok (.ifCond .ge 5, 3) := by decide +kernel
theorem dX9_publish_321 : decode cX9_publish 321 = .ok (.iconst 0, 1) := by decide +kernel
theorem dX9_publish_322 : decode cX9_publish 322 = .ok (.ireturn, 1) := by decide +kernel
theorem dX9_publish_323 : decode cX9_publish 323 = .ok (.aload_n 0, 1) := by decide +kernel
theorem dX9_publish_324 : decode cX9_publish 324 = .ok (.iload 6, 2) := by decide +kernel
theorem dX9_publish_326 : decode cX9_publish 326 = .ok (.invokevirtual 239, 3) := by decide +kernel
theorem dX9_publish_329 : decode cX9_publish 329 = .ok (.iconst 1, 1) := by decide +kernel
theorem dX9_publish_330 : decode cX9_publish 330 = .ok (.ireturn, 1) := by decide +kernel
theorem dX9_acknowledged_0 : decode cX9_acknowledged 0 = .ok (.aload_n 0, 1) := by decide +kernel
theorem dX9_acknowledged_1 : decode cX9_acknowledged 1 = .ok (.getfield 299, 3) := by decide +kernel
theorem dX9_acknowledged_4 : decode cX9_acknowledged 4 = .ok (.ireturn, 1) := by decide +kernel
theorem dX9_again_0 : decode cX9_again 0 = .ok (.aload_n 0, 1) := by decide +kernel
theorem dX9_again_1 : decode cX9_again 1 = .ok (.iload_n 1, 1) := by decide +kernel
theorem dX9_again_2 : decode cX9_again 2 = .ok (.iload_n 2, 1) := by decide +kernel
theorem dX9_again_3 : decode cX9_again 3 = .ok (.invokevirtual 283, 3) := by decide +kernel
theorem dX9_again_6 : decode cX9_again 6 = .ok (.istore 4, 2) := by decide +kernel
theorem dX9_again_8 : decode cX9_again 8 = .ok (.iload 4, 2) := by decide +kernel
theorem dX9_again_10 : decode cX9_again 10 = .ok (.ifCond .ge 7, 3) := by decide +kernel
theorem dX9_again_13 : decode cX9_again 13 = .ok (.iconst (-1), 1) := by decide +kernel
theorem dX9_again_14 : decode cX9_again 14 = .ok (.goto 9, 3) := by decide +kernel
theorem dX9_again_17 : decode cX9_again 17 = .ok (.aload_n 0, 1) := by decide +kernel
theorem dX9_again_18 : decode cX9_again 18 = .ok (.iload_n 2, 1) := by decide +kernel
theorem dX9_again_19 : decode cX9_again 19 = .ok (.iload_n 3, 1) := by decide +kernel
theorem dX9_again_20 : decode cX9_again 20 = .ok (.invokevirtual 292, 3) := by decide +kernel
theorem dX9_again_23 : decode cX9_again 23 = .ok (.istore 5, 2) := by decide +kernel
theorem dX9_again_25 : decode cX9_again 25 = .ok (.iload 4, 2) := by decide +kernel
theorem dX9_again_27 : decode cX9_again 27 = .ok (.ifCond .ge 8, 3) := by decide +kernel
theorem dX9_again_30 : decode cX9_again 30 = .ok (.iload 4, 2) := by decide +kernel
theorem dX9_again_32 : decode cX9_again 32 = .ok (.goto 31, 3) := by decide +kernel
theorem dX9_again_35 : decode cX9_again 35 = .ok (.iload 5, 2) := by decide +kernel
theorem dX9_again_37 : decode cX9_again 37 = .ok (.ifCond .ge 8, 3) := by decide +kernel
theorem dX9_again_40 : decode cX9_again 40 = .ok (.bipush (-9), 2) := by decide +kernel
theorem dX9_again_42 : decode cX9_again 42 = .ok (.goto 21, 3) := by decide +kernel
theorem dX9_again_45 : decode cX9_again 45 = .ok (.aload_n 0, 1) := by decide +kernel
theorem dX9_again_46 : decode cX9_again 46 = .ok (.getfield 38, 3) := by decide +kernel
theorem dX9_again_49 : decode cX9_again 49 = .ok (.iload_n 1, 1) := by decide +kernel
theorem dX9_again_50 : decode cX9_again 50 = .ok (.iaload, 1) := by decide +kernel
theorem dX9_again_51 : decode cX9_again 51 = .ok (.sipush 200, 3) := by decide +kernel
theorem dX9_again_54 : decode cX9_again 54 = .ok (.if_icmp .lt 8, 3) := by decide +kernel
theorem dX9_again_57 : decode cX9_again 57 = .ok (.bipush (-8), 2) := by decide +kernel
theorem dX9_again_59 : decode cX9_again 59 = .ok (.goto 4, 3) := by decide +kernel
theorem dX9_again_62 : decode cX9_again 62 = .ok (.iconst 0, 1) := by decide +kernel
theorem dX9_again_63 : decode cX9_again 63 = .ok (.istore 4, 2) := by decide +kernel
theorem dX9_again_65 : decode cX9_again 65 = .ok (.iload 4, 2) := by decide +kernel
theorem dX9_again_67 : decode cX9_again 67 = .ok (.ifCond .ge 10, 3) := by decide +kernel
theorem dX9_again_70 : decode cX9_again 70 = .ok (.aload_n 0, 1) := by decide +kernel
theorem dX9_again_71 : decode cX9_again 71 = .ok (.iload 4, 2) := by decide +kernel
theorem dX9_again_73 : decode cX9_again 73 = .ok (.invokevirtual 175, 3) := by decide +kernel
theorem dX9_again_76 : decode cX9_again 76 = .ok (.ireturn, 1) := by decide +kernel
theorem dX9_again_77 : decode cX9_again 77 = .ok (.aload_n 0, 1) := by decide +kernel
theorem dX9_again_78 : decode cX9_again 78 = .ok (.iload_n 1, 1) := by decide +kernel
theorem dX9_again_79 : decode cX9_again 79 = .ok (.iload 5, 2) := by decide +kernel
theorem dX9_again_81 : decode cX9_again 81 = .ok (.invokevirtual 217, 3) := by decide +kernel
theorem dX9_again_84 : decode cX9_again 84 = .ok (.aload_n 0, 1) := by decide +kernel
theorem dX9_again_85 : decode cX9_again 85 = .ok (.getfield 75, 3) := by decide +kernel
theorem dX9_again_88 : decode cX9_again 88 = .ok (.iload_n 2, 1) := by decide +kernel
theorem dX9_again_89 : decode cX9_again 89 = .ok (.aload_n 0, 1) := by decide +kernel
theorem dX9_again_90 : decode cX9_again 90 = .ok (.getfield 60, 3) := by decide +kernel
theorem dX9_again_93 : decode cX9_again 93 = .ok (.iload_n 2, 1) := by decide +kernel
theorem dX9_again_94 : decode cX9_again 94 = .ok (.iaload, 1) := by decide +kernel
theorem dX9_again_95 : decode cX9_again 95 = .ok (.iastore, 1) := by decide +kernel
theorem dX9_again_96 : decode cX9_again 96 = .ok (.iload 5, 2) := by decide +kernel
theorem dX9_again_98 : decode cX9_again 98 = .ok (.ireturn, 1) := by decide +kernel
theorem dX9_mail_0 : decode cX9_mail 0 = .ok (.iload_n 1, 1) := by decide +kernel
theorem dX9_mail_1 : decode cX9_mail 1 = .ok (.i2l, 1) := by decide +kernel
theorem dX9_mail_2 : decode cX9_mail 2 = .ok (.lconst 0, 1) := by decide +kernel
theorem dX9_mail_3 : decode cX9_mail 3 = .ok (.aload_n 0, 1) := by decide +kernel
theorem dX9_mail_4 : decode cX9_mail 4 = .ok (.getfield 248, 3) := by decide +kernel
theorem dX9_mail_7 : decode cX9_mail 7 = .ok (.iconst 1, 1) := by decide +kernel
theorem dX9_mail_8 : decode cX9_mail 8 = .ok (.isub, 1) := by decide +kernel
theorem dX9_mail_9 : decode cX9_mail 9 = .ok (.i2l, 1) := by decide +kernel
theorem dX9_mail_10 : decode cX9_mail 10 = .ok (.invokestatic 171, 3) := by decide +kernel
theorem dX9_mail_13 : decode cX9_mail 13 = .ok (.ifCond .ne 7, 3) := by decide +kernel
theorem dX9_mail_16 : decode cX9_mail 16 = .ok (.iconst (-1), 1) := by decide +kernel
theorem dX9_mail_17 : decode cX9_mail 17 = .ok (.goto 38, 3) := by decide +kernel
theorem dX9_mail_20 : decode cX9_mail 20 = .ok (.iload_n 2, 1) := by decide +kernel
theorem dX9_mail_21 : decode cX9_mail 21 = .ok (.i2l, 1) := by decide +kernel
theorem dX9_mail_22 : decode cX9_mail 22 = .ok (.lconst 0, 1) := by decide +kernel
theorem dX9_mail_23 : decode cX9_mail 23 = .ok (.aload_n 0, 1) := by decide +kernel
theorem dX9_mail_24 : decode cX9_mail 24 = .ok (.getfield 38, 3) := by decide +kernel
theorem dX9_mail_27 : decode cX9_mail 27 = .ok (.iload_n 1, 1) := by decide +kernel
theorem dX9_mail_28 : decode cX9_mail 28 = .ok (.iaload, 1) := by decide +kernel
theorem dX9_mail_29 : decode cX9_mail 29 = .ok (.iconst 1, 1) := by decide +kernel
theorem dX9_mail_30 : decode cX9_mail 30 = .ok (.isub, 1) := by decide +kernel
theorem dX9_mail_31 : decode cX9_mail 31 = .ok (.i2l, 1) := by decide +kernel
theorem dX9_mail_32 : decode cX9_mail 32 = .ok (.invokestatic 171, 3) := by decide +kernel
theorem dX9_mail_35 : decode cX9_mail 35 = .ok (.ifCond .eq 18, 3) := by decide +kernel
theorem dX9_mail_38 : decode cX9_mail 38 = .ok (.aload_n 0, 1) := by decide +kernel
theorem dX9_mail_39 : decode cX9_mail 39 = .ok (.getfield 41, 3) := by decide +kernel
theorem dX9_mail_42 : decode cX9_mail 42 = .ok (.sipush 1200, 3) := by decide +kernel
theorem dX9_mail_45 : decode cX9_mail 45 = .ok (.iload_n 1, 1) := by decide +kernel
theorem dX9_mail_46 : decode cX9_mail 46 = .ok (.imul, 1) := by decide +kernel
theorem dX9_mail_47 : decode cX9_mail 47 = .ok (.iload_n 2, 1) := by decide +kernel
theorem dX9_mail_48 : decode cX9_mail 48 = .ok (.iadd, 1) := by decide +kernel
theorem dX9_mail_49 : decode cX9_mail 49 = .ok (.iaload, 1) := by decide +kernel
theorem dX9_mail_50 : decode cX9_mail 50 = .ok (.goto 5, 3) := by decide +kernel
theorem dX9_mail_53 : decode cX9_mail 53 = .ok (.bipush (-9), 2) := by decide +kernel
theorem dX9_mail_55 : decode cX9_mail 55 = .ok (.ireturn, 1) := by decide +kernel
theorem dX9_message_0 : decode cX9_message 0 = .ok (.iload_n 1, 1) := by decide +kernel
theorem dX9_message_1 : decode cX9_message 1 = .ok (.i2l, 1) := by decide +kernel
theorem dX9_message_2 : decode cX9_message 2 = .ok (.lconst 0, 1) := by decide +kernel
theorem dX9_message_3 : decode cX9_message 3 = .ok (.aload_n 0, 1) := by decide +kernel
theorem dX9_message_4 : decode cX9_message 4 = .ok (.getfield 205, 3) := by decide +kernel
theorem dX9_message_7 : decode cX9_message 7 = .ok (.iconst 1, 1) := by decide +kernel
theorem dX9_message_8 : decode cX9_message 8 = .ok (.isub, 1) := by decide +kernel
theorem dX9_message_9 : decode cX9_message 9 = .ok (.i2l, 1) := by decide +kernel
theorem dX9_message_10 : decode cX9_message 10 = .ok (.invokestatic 171, 3) := by decide +kernel
theorem dX9_message_13 : decode cX9_message 13 = .ok (.ifCond .ne 6, 3) := by decide +kernel
theorem dX9_message_16 : decode cX9_message 16 = .ok (.bipush (-9), 2) := by decide +kernel
theorem dX9_message_18 : decode cX9_message 18 = .ok (.ireturn, 1) := by decide +kernel
theorem dX9_message_19 : decode cX9_message 19 = .ok (.iload_n 2, 1) := by decide +kernel
theorem dX9_message_20 : decode cX9_message 20 = .ok (.tableswitch 79 0 4 #[36, 43, 50, 57, 72], 36) := by decide +kernel
theorem dX9_message_56 : decode cX9_message 56 = .ok (.aload_n 0, 1) := by decide +kernel
theorem dX9_message_57 : decode cX9_message 57 = .ok (.getfield 135, 3) := by decide +kernel
theorem dX9_message_60 : decode cX9_message 60 = .ok (.iload_n 1, 1) := by decide +kernel
theorem dX9_message_61 : decode cX9_message 61 = .ok (.iaload, 1) := by decide +kernel
theorem dX9_message_62 : decode cX9_message 62 = .ok (.ireturn, 1) := by decide +kernel
theorem dX9_message_63 : decode cX9_message 63 = .ok (.aload_n 0, 1) := by decide +kernel
theorem dX9_message_64 : decode cX9_message 64 = .ok (.getfield 138, 3) := by decide +kernel
theorem dX9_message_67 : decode cX9_message 67 = .ok (.iload_n 1, 1) := by decide +kernel
theorem dX9_message_68 : decode cX9_message 68 = .ok (.iaload, 1) := by decide +kernel
theorem dX9_message_69 : decode cX9_message 69 = .ok (.ireturn, 1) := by decide +kernel
theorem dX9_message_70 : decode cX9_message 70 = .ok (.aload_n 0, 1) := by decide +kernel
theorem dX9_message_71 : decode cX9_message 71 = .ok (.getfield 141, 3) := by decide +kernel
theorem dX9_message_74 : decode cX9_message 74 = .ok (.iload_n 1, 1) := by decide +kernel
theorem dX9_message_75 : decode cX9_message 75 = .ok (.iaload, 1) := by decide +kernel
theorem dX9_message_76 : decode cX9_message 76 = .ok (.ireturn, 1) := by decide +kernel
theorem dX9_message_77 : decode cX9_message 77 = .ok (.aload_n 0, 1) := by decide +kernel
theorem dX9_message_78 : decode cX9_message 78 = .ok (.getfield 144, 3) := by decide +kernel
theorem dX9_message_81 : decode cX9_message 81 = .ok (.iload_n 1, 1) := by decide +kernel
theorem dX9_message_82 : decode cX9_message 82 = .ok (.baload, 1) := by decide +kernel
theorem dX9_message_83 : decode cX9_message 83 = .ok (.ifCond .eq 7, 3) := by decide +kernel
theorem dX9_message_86 : decode cX9_message 86 = .ok (.iconst 1, 1) := by decide +kernel
theorem dX9_message_87 : decode cX9_message 87 = .ok (.goto 4, 3) := by decide +kernel
theorem dX9_message_90 : decode cX9_message 90 = .ok (.iconst 0, 1) := by decide +kernel
theorem dX9_message_91 : decode cX9_message 91 = .ok (.ireturn, 1) := by decide +kernel
theorem dX9_message_92 : decode cX9_message 92 = .ok (.aload_n 0, 1) := by decide +kernel
theorem dX9_message_93 : decode cX9_message 93 = .ok (.getfield 147, 3) := by decide +kernel
theorem dX9_message_96 : decode cX9_message 96 = .ok (.iload_n 1, 1) := by decide +kernel
theorem dX9_message_97 : decode cX9_message 97 = .ok (.iaload, 1) := by decide +kernel
theorem dX9_message_98 : decode cX9_message 98 = .ok (.ireturn, 1) := by decide +kernel
theorem dX9_message_99 : decode cX9_message 99 = .ok (.iload_n 2, 1) := by decide +kernel
theorem dX9_message_100 : decode cX9_message 100 = .ok (.iconst 5, 1) := by decide +kernel
theorem dX9_message_101 : decode cX9_message 101 = .ok (.if_icmp .ne 20, 3) := by decide +kernel
theorem dX9_message_104 : decode cX9_message 104 = .ok (.aload_n 0, 1) := by decide +kernel
theorem dX9_message_105 : decode cX9_message 105 = .ok (.getfield 150, 3) := by decide +kernel
theorem dX9_message_108 : decode cX9_message 108 = .ok (.iload_n 1, 1) := by decide +kernel
theorem dX9_message_109 : decode cX9_message 109 = .ok (.baload, 1) := by decide +kernel
theorem dX9_message_110 : decode cX9_message 110 = .ok (.ifCond .eq 7, 3) := by decide +kernel
theorem dX9_message_113 : decode cX9_message 113 = .ok (.iconst 1, 1) := by decide +kernel
theorem dX9_message_114 : decode cX9_message 114 = .ok (.goto 9, 3) := by decide +kernel
theorem dX9_message_117 : decode cX9_message 117 = .ok (.iconst 0, 1) := by decide +kernel
theorem dX9_message_118 : decode cX9_message 118 = .ok (.goto 5, 3) := by decide +kernel
theorem dX9_message_121 : decode cX9_message 121 = .ok (.bipush (-9), 2) := by decide +kernel
theorem dX9_message_123 : decode cX9_message 123 = .ok (.ireturn, 1) := by decide +kernel
theorem dX9_entry_0 : decode cX9_entry 0 = .ok (.iload_n 1, 1) := by decide +kernel
theorem dX9_entry_1 : decode cX9_entry 1 = .ok (.i2l, 1) := by decide +kernel
theorem dX9_entry_2 : decode cX9_entry 2 = .ok (.lconst 0, 1) := by decide +kernel
theorem dX9_entry_3 : decode cX9_entry 3 = .ok (.aload_n 0, 1) := by decide +kernel
theorem dX9_entry_4 : decode cX9_entry 4 = .ok (.getfield 205, 3) := by decide +kernel
theorem dX9_entry_7 : decode cX9_entry 7 = .ok (.iconst 1, 1) := by decide +kernel
theorem dX9_entry_8 : decode cX9_entry 8 = .ok (.isub, 1) := by decide +kernel
theorem dX9_entry_9 : decode cX9_entry 9 = .ok (.i2l, 1) := by decide +kernel
theorem dX9_entry_10 : decode cX9_entry 10 = .ok (.invokestatic 171, 3) := by decide +kernel
theorem dX9_entry_13 : decode cX9_entry 13 = .ok (.ifCond .eq 21, 3) := by decide +kernel
theorem dX9_entry_16 : decode cX9_entry 16 = .ok (.iload_n 2, 1) := by decide +kernel
theorem dX9_entry_17 : decode cX9_entry 17 = .ok (.i2l, 1) := by decide +kernel
theorem dX9_entry_18 : decode cX9_entry 18 = .ok (.lconst 0, 1) := by decide +kernel
theorem dX9_entry_19 : decode cX9_entry 19 = .ok (.aload_n 0, 1) := by decide +kernel
theorem dX9_entry_20 : decode cX9_entry 20 = .ok (.getfield 141, 3) := by decide +kernel
theorem dX9_entry_23 : decode cX9_entry 23 = .ok (.iload_n 1, 1) := by decide +kernel
theorem dX9_entry_24 : decode cX9_entry 24 = .ok (.iaload, 1) := by decide +kernel
theorem dX9_entry_25 : decode cX9_entry 25 = .ok (.iconst 1, 1) := by decide +kernel
theorem dX9_entry_26 : decode cX9_entry 26 = .ok (.isub, 1) := by decide +kernel
theorem dX9_entry_27 : decode cX9_entry 27 = .ok (.i2l, 1) := by decide +kernel
theorem dX9_entry_28 : decode cX9_entry 28 = .ok (.invokestatic 171, 3) := by decide +kernel
theorem dX9_entry_31 : decode cX9_entry 31 = .ok (.ifCond .ne 7, 3) := by decide +kernel
theorem dX9_entry_34 : decode cX9_entry 34 = .ok (.ldc2_w 302, 3) := by decide +kernel
theorem dX9_entry_37 : decode cX9_entry 37 = .ok (.lreturn, 1) := by decide +kernel
theorem dX9_entry_38 : decode cX9_entry 38 = .ok (.bipush 40, 2) := by decide +kernel
theorem dX9_entry_40 : decode cX9_entry 40 = .ok (.iload_n 1, 1) := by decide +kernel
theorem dX9_entry_41 : decode cX9_entry 41 = .ok (.imul, 1) := by decide +kernel
theorem dX9_entry_42 : decode cX9_entry 42 = .ok (.iload_n 2, 1) := by decide +kernel
theorem dX9_entry_43 : decode cX9_entry 43 = .ok (.iadd, 1) := by decide +kernel
theorem dX9_entry_44 : decode cX9_entry 44 = .ok (.istore 4, 2) := by decide +kernel
theorem dX9_entry_46 : decode cX9_entry 46 = .ok (.iload_n 3, 1) := by decide +kernel
theorem dX9_entry_47 : decode cX9_entry 47 = .ok (.ifCond .ne 13, 3) := by decide +kernel
theorem dX9_entry_50 : decode cX9_entry 50 = .ok (.aload_n 0, 1) := by decide +kernel
theorem dX9_entry_51 : decode cX9_entry 51 = .ok (.getfield 154, 3) := by decide +kernel
theorem dX9_entry_54 : decode cX9_entry 54 = .ok (.iload 4, 2) := by decide +kernel
theorem dX9_entry_56 : decode cX9_entry 56 = .ok (.laload, 1) := by decide +kernel
theorem dX9_entry_57 : decode cX9_entry 57 = .ok (.goto 54, 3) := by decide +kernel
theorem dX9_entry_60 : decode cX9_entry 60 = .ok (.iload_n 3, 1) := by decide +kernel
theorem dX9_entry_61 : decode cX9_entry 61 = .ok (.iconst 1, 1) := by decide +kernel
theorem dX9_entry_62 : decode cX9_entry 62 = .ok (.if_icmp .ne 14, 3) := by decide +kernel
theorem dX9_entry_65 : decode cX9_entry 65 = .ok (.aload_n 0, 1) := by decide +kernel
theorem dX9_entry_66 : decode cX9_entry 66 = .ok (.getfield 157, 3) := by decide +kernel
theorem dX9_entry_69 : decode cX9_entry 69 = .ok (.iload 4, 2) := by decide +kernel
theorem dX9_entry_71 : decode cX9_entry 71 = .ok (.iaload, 1) := by decide +kernel
theorem dX9_entry_72 : decode cX9_entry 72 = .ok (.i2l, 1) := by decide +kernel
theorem dX9_entry_73 : decode cX9_entry 73 = .ok (.goto 38, 3) := by decide +kernel
theorem dX9_entry_76 : decode cX9_entry 76 = .ok (.iload_n 3, 1) := by decide +kernel
theorem dX9_entry_77 : decode cX9_entry 77 = .ok (.iconst 2, 1) := by decide +kernel
theorem dX9_entry_78 : decode cX9_entry 78 = .ok (.if_icmp .ne 14, 3) := by decide +kernel
theorem dX9_entry_81 : decode cX9_entry 81 = .ok (.aload_n 0, 1) := by decide +kernel
theorem dX9_entry_82 : decode cX9_entry 82 = .ok (.getfield 160, 3) := by decide +kernel
theorem dX9_entry_85 : decode cX9_entry 85 = .ok (.iload 4, 2) := by decide +kernel
theorem dX9_entry_87 : decode cX9_entry 87 = .ok (.iaload, 1) := by decide +kernel
theorem dX9_entry_88 : decode cX9_entry 88 = .ok (.i2l, 1) := by decide +kernel
theorem dX9_entry_89 : decode cX9_entry 89 = .ok (.goto 22, 3) := by decide +kernel
theorem dX9_entry_92 : decode cX9_entry 92 = .ok (.iload_n 3, 1) := by decide +kernel
theorem dX9_entry_93 : decode cX9_entry 93 = .ok (.iconst 3, 1) := by decide +kernel
theorem dX9_entry_94 : decode cX9_entry 94 = .ok (.if_icmp .ne 14, 3) := by decide +kernel
theorem dX9_entry_97 : decode cX9_entry 97 = .ok (.aload_n 0, 1) := by decide +kernel
theorem dX9_entry_98 : decode cX9_entry 98 = .ok (.getfield 163, 3) := by decide +kernel
theorem dX9_entry_101 : decode cX9_entry 101 = .ok (.iload 4, 2) := by decide +kernel
theorem dX9_entry_103 : decode cX9_entry 103 = .ok (.iaload, 1) := by decide +kernel
theorem dX9_entry_104 : decode cX9_entry 104 = .ok (.i2l, 1) := by decide +kernel
theorem dX9_entry_105 : decode cX9_entry 105 = .ok (.goto 6, 3) := by decide +kernel
theorem dX9_entry_108 : decode cX9_entry 108 = .ok (.ldc2_w 302, 3) := by decide +kernel
theorem dX9_entry_111 : decode cX9_entry 111 = .ok (.lreturn, 1) := by decide +kernel
theorem dX9_sessionOf_0 : decode cX9_sessionOf 0 = .ok (.iload_n 1, 1) := by decide +kernel
theorem dX9_sessionOf_1 : decode cX9_sessionOf 1 = .ok (.i2l, 1) := by decide +kernel
theorem dX9_sessionOf_2 : decode cX9_sessionOf 2 = .ok (.lconst 0, 1) := by decide +kernel
theorem dX9_sessionOf_3 : decode cX9_sessionOf 3 = .ok (.aload_n 0, 1) := by decide +kernel
theorem dX9_sessionOf_4 : decode cX9_sessionOf 4 = .ok (.getfield 248, 3) := by decide +kernel
theorem dX9_sessionOf_7 : decode cX9_sessionOf 7 = .ok (.iconst 1, 1) := by decide +kernel
theorem dX9_sessionOf_8 : decode cX9_sessionOf 8 = .ok (.isub, 1) := by decide +kernel
theorem dX9_sessionOf_9 : decode cX9_sessionOf 9 = .ok (.i2l, 1) := by decide +kernel
theorem dX9_sessionOf_10 : decode cX9_sessionOf 10 = .ok (.invokestatic 171, 3) := by decide +kernel
theorem dX9_sessionOf_13 : decode cX9_sessionOf 13 = .ok (.ifCond .ne 6, 3) := by decide +kernel
theorem dX9_sessionOf_16 : decode cX9_sessionOf 16 = .ok (.bipush (-9), 2) := by decide +kernel
theorem dX9_sessionOf_18 : decode cX9_sessionOf 18 = .ok (.ireturn, 1) := by decide +kernel
theorem dX9_sessionOf_19 : decode cX9_sessionOf 19 = .ok (.iconst 0, 1) := by decide +kernel
theorem dX9_sessionOf_20 : decode cX9_sessionOf 20 = .ok (.istore_n 3, 1) := by decide +kernel
theorem dX9_sessionOf_21 : decode cX9_sessionOf 21 = .ok (.iconst 0, 1) := by decide +kernel
theorem dX9_sessionOf_22 : decode cX9_sessionOf 22 = .ok (.istore 4, 2) := by decide +kernel
theorem dX9_sessionOf_24 : decode cX9_sessionOf 24 = .ok (.iload 4, 2) := by decide +kernel
theorem dX9_sessionOf_26 : decode cX9_sessionOf 26 = .ok (.aload_n 0, 1) := by decide +kernel
theorem dX9_sessionOf_27 : decode cX9_sessionOf 27 = .ok (.getfield 224, 3) := by decide +kernel
theorem dX9_sessionOf_30 : decode cX9_sessionOf 30 = .ok (.if_icmp .ge 38, 3) := by decide +kernel
theorem dX9_sessionOf_33 : decode cX9_sessionOf 33 = .ok (.iload_n 3, 1) := by decide +kernel
theorem dX9_sessionOf_34 : decode cX9_sessionOf 34 = .ok (.aload_n 0, 1) := by decide +kernel
theorem dX9_sessionOf_35 : decode cX9_sessionOf 35 = .ok (.getfield 44, 3) := by decide +kernel
theorem dX9_sessionOf_38 : decode cX9_sessionOf 38 = .ok (.iload 4, 2) := by decide +kernel
theorem dX9_sessionOf_40 : decode cX9_sessionOf 40 = .ok (.baload, 1) := by decide +kernel
theorem dX9_sessionOf_41 : decode cX9_sessionOf 41 = .ok (.ifCond .eq 18, 3) := by decide +kernel
theorem dX9_sessionOf_44 : decode cX9_sessionOf 44 = .ok (.aload_n 0, 1) := by decide +kernel
theorem dX9_sessionOf_45 : decode cX9_sessionOf 45 = .ok (.getfield 48, 3) := by decide +kernel
theorem dX9_sessionOf_48 : decode cX9_sessionOf 48 = .ok (.iload 4, 2) := by decide +kernel
theorem dX9_sessionOf_50 : decode cX9_sessionOf 50 = .ok (.iaload, 1) := by decide +kernel
theorem dX9_sessionOf_51 : decode cX9_sessionOf 51 = .ok (.iload_n 1, 1) := by decide +kernel
theorem dX9_sessionOf_52 : decode cX9_sessionOf 52 = .ok (.if_icmp .ne 7, 3) := by decide +kernel
theorem dX9_sessionOf_55 : decode cX9_sessionOf 55 = .ok (.iconst 1, 1) := by decide +kernel
theorem dX9_sessionOf_56 : decode cX9_sessionOf 56 = .ok (.goto 4, 3) := by decide +kernel
theorem dX9_sessionOf_59 : decode cX9_sessionOf 59 = .ok (.iconst 0, 1) := by decide +kernel
theorem dX9_sessionOf_60 : decode cX9_sessionOf 60 = .ok (.iadd, 1) := by decide +kernel
theorem dX9_sessionOf_61 : decode cX9_sessionOf 61 = .ok (.istore_n 3, 1) := by decide +kernel
theorem dX9_sessionOf_62 : decode cX9_sessionOf 62 = .ok (.iinc 4 1, 3) := by decide +kernel
theorem dX9_sessionOf_65 : decode cX9_sessionOf 65 = .ok (.goto (-41), 3) := by decide +kernel
theorem dX9_sessionOf_68 : decode cX9_sessionOf 68 = .ok (.iload_n 2, 1) := by decide +kernel
theorem dX9_sessionOf_69 : decode cX9_sessionOf 69 = .ok (.ifCond .ne 12, 3) := by decide +kernel
theorem dX9_sessionOf_72 : decode cX9_sessionOf 72 = .ok (.aload_n 0, 1) := by decide +kernel
theorem dX9_sessionOf_73 : decode cX9_sessionOf 73 = .ok (.getfield 32, 3) := by decide +kernel
theorem dX9_sessionOf_76 : decode cX9_sessionOf 76 = .ok (.iload_n 1, 1) := by decide +kernel
theorem dX9_sessionOf_77 : decode cX9_sessionOf 77 = .ok (.iaload, 1) := by decide +kernel
theorem dX9_sessionOf_78 : decode cX9_sessionOf 78 = .ok (.goto 61, 3) := by decide +kernel
theorem dX9_sessionOf_81 : decode cX9_sessionOf 81 = .ok (.iload_n 2, 1) := by decide +kernel
theorem dX9_sessionOf_82 : decode cX9_sessionOf 82 = .ok (.iconst 1, 1) := by decide +kernel
theorem dX9_sessionOf_83 : decode cX9_sessionOf 83 = .ok (.if_icmp .ne 17, 3) := by decide +kernel
theorem dX9_sessionOf_86 : decode cX9_sessionOf 86 = .ok (.aload_n 0, 1) := by decide +kernel
theorem dX9_sessionOf_87 : decode cX9_sessionOf 87 = .ok (.getfield 29, 3) := by decide +kernel
theorem dX9_sessionOf_90 : decode cX9_sessionOf 90 = .ok (.iload_n 1, 1) := by decide +kernel
theorem dX9_sessionOf_91 : decode cX9_sessionOf 91 = .ok (.iaload, 1) := by decide +kernel
theorem dX9_sessionOf_92 : decode cX9_sessionOf 92 = .ok (.aload_n 0, 1) := by decide +kernel
theorem dX9_sessionOf_93 : decode cX9_sessionOf 93 = .ok (.getfield 199, 3) := by decide +kernel
theorem dX9_sessionOf_96 : decode cX9_sessionOf 96 = .ok (.isub, 1) := by decide +kernel
theorem dX9_sessionOf_97 : decode cX9_sessionOf 97 = .ok (.goto 42, 3) := by decide +kernel
theorem dX9_sessionOf_100 : decode cX9_sessionOf 100 = .ok (.iload_n 2, 1) := by decide +kernel
theorem dX9_sessionOf_101 : decode cX9_sessionOf 101 = .ok (.iconst 2, 1) := by decide +kernel
theorem dX9_sessionOf_102 : decode cX9_sessionOf 102 = .ok (.if_icmp .ne 12, 3) := by decide +kernel
theorem dX9_sessionOf_105 : decode cX9_sessionOf 105 = .ok (.aload_n 0, 1) := by decide +kernel
theorem dX9_sessionOf_106 : decode cX9_sessionOf 106 = .ok (.getfield 35, 3) := by decide +kernel
theorem dX9_sessionOf_109 : decode cX9_sessionOf 109 = .ok (.iload_n 1, 1) := by decide +kernel
theorem dX9_sessionOf_110 : decode cX9_sessionOf 110 = .ok (.iaload, 1) := by decide +kernel
theorem dX9_sessionOf_111 : decode cX9_sessionOf 111 = .ok (.goto 28, 3) := by decide +kernel
theorem dX9_sessionOf_114 : decode cX9_sessionOf 114 = .ok (.iload_n 2, 1) := by decide +kernel
theorem dX9_sessionOf_115 : decode cX9_sessionOf 115 = .ok (.iconst 3, 1) := by decide +kernel
theorem dX9_sessionOf_116 : decode cX9_sessionOf 116 = .ok (.if_icmp .ne 7, 3) := by decide +kernel
theorem dX9_sessionOf_119 : decode cX9_sessionOf 119 = .ok (.iload_n 3, 1) := by decide +kernel
theorem dX9_sessionOf_120 : decode cX9_sessionOf 120 = .ok (.goto 19, 3) := by decide +kernel
theorem dX9_sessionOf_123 : decode cX9_sessionOf 123 = .ok (.iload_n 2, 1) := by decide +kernel
theorem dX9_sessionOf_124 : decode cX9_sessionOf 124 = .ok (.iconst 4, 1) := by decide +kernel
theorem dX9_sessionOf_125 : decode cX9_sessionOf 125 = .ok (.if_icmp .ne 12, 3) := by decide +kernel
theorem dX9_sessionOf_128 : decode cX9_sessionOf 128 = .ok (.aload_n 0, 1) := by decide +kernel
theorem dX9_sessionOf_129 : decode cX9_sessionOf 129 = .ok (.getfield 38, 3) := by decide +kernel
theorem dX9_sessionOf_132 : decode cX9_sessionOf 132 = .ok (.iload_n 1, 1) := by decide +kernel
theorem dX9_sessionOf_133 : decode cX9_sessionOf 133 = .ok (.iaload, 1) := by decide +kernel
theorem dX9_sessionOf_134 : decode cX9_sessionOf 134 = .ok (.goto 5, 3) := by decide +kernel
theorem dX9_sessionOf_137 : decode cX9_sessionOf 137 = .ok (.bipush (-9), 2) := by decide +kernel
theorem dX9_sessionOf_139 : decode cX9_sessionOf 139 = .ok (.ireturn, 1) := by decide +kernel
theorem dX9_subscription_0 : decode cX9_subscription 0 = .ok (.iload_n 1, 1) := by decide +kernel
theorem dX9_subscription_1 : decode cX9_subscription 1 = .ok (.i2l, 1) := by decide +kernel
theorem dX9_subscription_2 : decode cX9_subscription 2 = .ok (.lconst 0, 1) := by decide +kernel
theorem dX9_subscription_3 : decode cX9_subscription 3 = .ok (.aload_n 0, 1) := by decide +kernel
theorem dX9_subscription_4 : decode cX9_subscription 4 = .ok (.getfield 224, 3) := by decide +kernel
theorem dX9_subscription_7 : decode cX9_subscription 7 = .ok (.iconst 1, 1) := by decide +kernel
theorem dX9_subscription_8 : decode cX9_subscription 8 = .ok (.isub, 1) := by decide +kernel
theorem dX9_subscription_9 : decode cX9_subscription 9 = .ok (.i2l, 1) := by decide +kernel
theorem dX9_subscription_10 : decode cX9_subscription 10 = .ok (.invokestatic 171, 3) := by decide +kernel
theorem dX9_subscription_13 : decode cX9_subscription 13 = .ok (.ifCond .eq 12, 3) := by decide +kernel
theorem dX9_subscription_16 : decode cX9_subscription 16 = .ok (.aload_n 0, 1) := by decide +kernel
theorem dX9_subscription_17 : decode cX9_subscription 17 = .ok (.getfield 44, 3) := by decide +kernel
theorem dX9_subscription_20 : decode cX9_subscription 20 = .ok (.iload_n 1, 1) := by decide +kernel
theorem dX9_subscription_21 : decode cX9_subscription 21 = .ok (.baload, 1) := by decide +kernel
theorem dX9_subscription_22 : decode cX9_subscription 22 = .ok (.ifCond .ne 6, 3) := by decide +kernel
theorem dX9_subscription_25 : decode cX9_subscription 25 = .ok (.bipush (-9), 2) := by decide +kernel
theorem dX9_subscription_27 : decode cX9_subscription 27 = .ok (.ireturn, 1) := by decide +kernel
theorem dX9_subscription_28 : decode cX9_subscription 28 = .ok (.iconst 0, 1) := by decide +kernel
theorem dX9_subscription_29 : decode cX9_subscription 29 = .ok (.istore_n 3, 1) := by decide +kernel
theorem dX9_subscription_30 : decode cX9_subscription 30 = .ok (.iconst 0, 1) := by decide +kernel
theorem dX9_subscription_31 : decode cX9_subscription 31 = .ok (.istore 4, 2) := by decide +kernel
theorem dX9_subscription_33 : decode cX9_subscription 33 = .ok (.iload 4, 2) := by decide +kernel
theorem dX9_subscription_35 : decode cX9_subscription 35 = .ok (.aload_n 0, 1) := by decide +kernel
theorem dX9_subscription_36 : decode cX9_subscription 36 = .ok (.getfield 202, 3) := by decide +kernel
theorem dX9_subscription_39 : decode cX9_subscription 39 = .ok (.if_icmp .ge 38, 3) := by decide +kernel
theorem dX9_subscription_42 : decode cX9_subscription 42 = .ok (.iload_n 3, 1) := by decide +kernel
theorem dX9_subscription_43 : decode cX9_subscription 43 = .ok (.aload_n 0, 1) := by decide +kernel
theorem dX9_subscription_44 : decode cX9_subscription 44 = .ok (.getfield 90, 3) := by decide +kernel
theorem dX9_subscription_47 : decode cX9_subscription 47 = .ok (.iload 4, 2) := by decide +kernel
theorem dX9_subscription_49 : decode cX9_subscription 49 = .ok (.baload, 1) := by decide +kernel
theorem dX9_subscription_50 : decode cX9_subscription 50 = .ok (.ifCond .eq 18, 3) := by decide +kernel
theorem dX9_subscription_53 : decode cX9_subscription 53 = .ok (.aload_n 0, 1) := by decide +kernel
theorem dX9_subscription_54 : decode cX9_subscription 54 = .ok (.getfield 93, 3) := by decide +kernel
theorem dX9_subscription_57 : decode cX9_subscription 57 = .ok (.iload 4, 2) := by decide +kernel
theorem dX9_subscription_59 : decode cX9_subscription 59 = .ok (.iaload, 1) := by decide +kernel
theorem dX9_subscription_60 : decode cX9_subscription 60 = .ok (.iload_n 1, 1) := by decide +kernel
theorem dX9_subscription_61 : decode cX9_subscription 61 = .ok (.if_icmp .ne 7, 3) := by decide +kernel
theorem dX9_subscription_64 : decode cX9_subscription 64 = .ok (.iconst 1, 1) := by decide +kernel
theorem dX9_subscription_65 : decode cX9_subscription 65 = .ok (.goto 4, 3) := by decide +kernel
theorem dX9_subscription_68 : decode cX9_subscription 68 = .ok (.iconst 0, 1) := by decide +kernel
theorem dX9_subscription_69 : decode cX9_subscription 69 = .ok (.iadd, 1) := by decide +kernel
theorem dX9_subscription_70 : decode cX9_subscription 70 = .ok (.istore_n 3, 1) := by decide +kernel
theorem dX9_subscription_71 : decode cX9_subscription 71 = .ok (.iinc 4 1, 3) := by decide +kernel
theorem dX9_subscription_74 : decode cX9_subscription 74 = .ok (.goto (-41), 3) := by decide +kernel
theorem dX9_subscription_77 : decode cX9_subscription 77 = .ok (.iload_n 2, 1) := by decide +kernel
theorem dX9_subscription_78 : decode cX9_subscription 78 = .ok (.tableswitch 112 0 7 #[46, 53, 68, 75, 82, 89, 104, 106], 46) := by decide +kernel
theorem dX9_subscription_124 : decode cX9_subscription 124 = .ok (.aload_n 0, 1) := by decide +kernel
theorem dX9_subscription_125 : decode cX9_subscription 125 = .ok (.getfield 48, 3) := by decide +kernel
theorem dX9_subscription_128 : decode cX9_subscription 128 = .ok (.iload_n 1, 1) := by decide +kernel
theorem dX9_subscription_129 : decode cX9_subscription 129 = .ok (.iaload, 1) := by decide +kernel
theorem dX9_subscription_130 : decode cX9_subscription 130 = .ok (.ireturn, 1) := by decide +kernel
theorem dX9_subscription_131 : decode cX9_subscription 131 = .ok (.aload_n 0, 1) := by decide +kernel
theorem dX9_subscription_132 : decode cX9_subscription 132 = .ok (.getfield 66, 3) := by decide +kernel
theorem dX9_subscription_135 : decode cX9_subscription 135 = .ok (.iload_n 1, 1) := by decide +kernel
theorem dX9_subscription_136 : decode cX9_subscription 136 = .ok (.baload, 1) := by decide +kernel
theorem dX9_subscription_137 : decode cX9_subscription 137 = .ok (.ifCond .eq 7, 3) := by decide +kernel
theorem dX9_subscription_140 : decode cX9_subscription 140 = .ok (.iconst 1, 1) := by decide +kernel
theorem dX9_subscription_141 : decode cX9_subscription 141 = .ok (.goto 4, 3) := by decide +kernel
theorem dX9_subscription_144 : decode cX9_subscription 144 = .ok (.iconst 0, 1) := by decide +kernel
theorem dX9_subscription_145 : decode cX9_subscription 145 = .ok (.ireturn, 1) := by decide +kernel
theorem dX9_subscription_146 : decode cX9_subscription 146 = .ok (.aload_n 0, 1) := by decide +kernel
theorem dX9_subscription_147 : decode cX9_subscription 147 = .ok (.getfield 69, 3) := by decide +kernel
theorem dX9_subscription_150 : decode cX9_subscription 150 = .ok (.iload_n 1, 1) := by decide +kernel
theorem dX9_subscription_151 : decode cX9_subscription 151 = .ok (.iaload, 1) := by decide +kernel
theorem dX9_subscription_152 : decode cX9_subscription 152 = .ok (.ireturn, 1) := by decide +kernel
theorem dX9_subscription_153 : decode cX9_subscription 153 = .ok (.aload_n 0, 1) := by decide +kernel
theorem dX9_subscription_154 : decode cX9_subscription 154 = .ok (.getfield 72, 3) := by decide +kernel
theorem dX9_subscription_157 : decode cX9_subscription 157 = .ok (.iload_n 1, 1) := by decide +kernel
theorem dX9_subscription_158 : decode cX9_subscription 158 = .ok (.iaload, 1) := by decide +kernel
theorem dX9_subscription_159 : decode cX9_subscription 159 = .ok (.ireturn, 1) := by decide +kernel
theorem dX9_subscription_160 : decode cX9_subscription 160 = .ok (.aload_n 0, 1) := by decide +kernel
theorem dX9_subscription_161 : decode cX9_subscription 161 = .ok (.getfield 75, 3) := by decide +kernel
theorem dX9_subscription_164 : decode cX9_subscription 164 = .ok (.iload_n 1, 1) := by decide +kernel
theorem dX9_subscription_165 : decode cX9_subscription 165 = .ok (.iaload, 1) := by decide +kernel
theorem dX9_subscription_166 : decode cX9_subscription 166 = .ok (.ireturn, 1) := by decide +kernel
theorem dX9_subscription_167 : decode cX9_subscription 167 = .ok (.aload_n 0, 1) := by decide +kernel
theorem dX9_subscription_168 : decode cX9_subscription 168 = .ok (.getfield 81, 3) := by decide +kernel
theorem dX9_subscription_171 : decode cX9_subscription 171 = .ok (.iload_n 1, 1) := by decide +kernel
theorem dX9_subscription_172 : decode cX9_subscription 172 = .ok (.baload, 1) := by decide +kernel
theorem dX9_subscription_173 : decode cX9_subscription 173 = .ok (.ifCond .eq 7, 3) := by decide +kernel
theorem dX9_subscription_176 : decode cX9_subscription 176 = .ok (.iconst 1, 1) := by decide +kernel
theorem dX9_subscription_177 : decode cX9_subscription 177 = .ok (.goto 4, 3) := by decide +kernel
theorem dX9_subscription_180 : decode cX9_subscription 180 = .ok (.iconst 0, 1) := by decide +kernel
theorem dX9_subscription_181 : decode cX9_subscription 181 = .ok (.ireturn, 1) := by decide +kernel
theorem dX9_subscription_182 : decode cX9_subscription 182 = .ok (.iload_n 3, 1) := by decide +kernel
theorem dX9_subscription_183 : decode cX9_subscription 183 = .ok (.ireturn, 1) := by decide +kernel
theorem dX9_subscription_184 : decode cX9_subscription 184 = .ok (.aload_n 0, 1) := by decide +kernel
theorem dX9_subscription_185 : decode cX9_subscription 185 = .ok (.iload_n 1, 1) := by decide +kernel
theorem dX9_subscription_186 : decode cX9_subscription 186 = .ok (.invokevirtual 211, 3) := by decide +kernel
theorem dX9_subscription_189 : decode cX9_subscription 189 = .ok (.ireturn, 1) := by decide +kernel
theorem dX9_subscription_190 : decode cX9_subscription 190 = .ok (.iload_n 2, 1) := by decide +kernel
theorem dX9_subscription_191 : decode cX9_subscription 191 = .ok (.bipush 8, 2) := by decide +kernel
theorem dX9_subscription_193 : decode cX9_subscription 193 = .ok (.if_icmp .ne 19, 3) := by decide +kernel
theorem dX9_subscription_196 : decode cX9_subscription 196 = .ok (.aload_n 0, 1) := by decide +kernel
theorem dX9_subscription_197 : decode cX9_subscription 197 = .ok (.iload_n 1, 1) := by decide +kernel
theorem dX9_subscription_198 : decode cX9_subscription 198 = .ok (.invokevirtual 208, 3) := by decide +kernel
theorem dX9_subscription_201 : decode cX9_subscription 201 = .ok (.ifCond .eq 7, 3) := by decide +kernel
theorem dX9_subscription_204 : decode cX9_subscription 204 = .ok (.iconst 1, 1) := by decide +kernel
theorem dX9_subscription_205 : decode cX9_subscription 205 = .ok (.goto 9, 3) := by decide +kernel
theorem dX9_subscription_208 : decode cX9_subscription 208 = .ok (.iconst 0, 1) := by decide +kernel
theorem dX9_subscription_209 : decode cX9_subscription 209 = .ok (.goto 5, 3) := by decide +kernel
theorem dX9_subscription_212 : decode cX9_subscription 212 = .ok (.bipush (-9), 2) := by decide +kernel
theorem dX9_subscription_214 : decode cX9_subscription 214 = .ok (.ireturn, 1) := by decide +kernel
theorem dX9_itemOf_0 : decode cX9_itemOf 0 = .ok (.iload_n 1, 1) := by decide +kernel
theorem dX9_itemOf_1 : decode cX9_itemOf 1 = .ok (.i2l, 1) := by decide +kernel
theorem dX9_itemOf_2 : decode cX9_itemOf 2 = .ok (.lconst 0, 1) := by decide +kernel
theorem dX9_itemOf_3 : decode cX9_itemOf 3 = .ok (.aload_n 0, 1) := by decide +kernel
theorem dX9_itemOf_4 : decode cX9_itemOf 4 = .ok (.getfield 202, 3) := by decide +kernel
theorem dX9_itemOf_7 : decode cX9_itemOf 7 = .ok (.iconst 1, 1) := by decide +kernel
theorem dX9_itemOf_8 : decode cX9_itemOf 8 = .ok (.isub, 1) := by decide +kernel
theorem dX9_itemOf_9 : decode cX9_itemOf 9 = .ok (.i2l, 1) := by decide +kernel
theorem dX9_itemOf_10 : decode cX9_itemOf 10 = .ok (.invokestatic 171, 3) := by decide +kernel
theorem dX9_itemOf_13 : decode cX9_itemOf 13 = .ok (.ifCond .eq 12, 3) := by decide +kernel
theorem dX9_itemOf_16 : decode cX9_itemOf 16 = .ok (.aload_n 0, 1) := by decide +kernel
theorem dX9_itemOf_17 : decode cX9_itemOf 17 = .ok (.getfield 90, 3) := by decide +kernel
theorem dX9_itemOf_20 : decode cX9_itemOf 20 = .ok (.iload_n 1, 1) := by decide +kernel
theorem dX9_itemOf_21 : decode cX9_itemOf 21 = .ok (.baload, 1) := by decide +kernel
theorem dX9_itemOf_22 : decode cX9_itemOf 22 = .ok (.ifCond .ne 6, 3) := by decide +kernel
theorem dX9_itemOf_25 : decode cX9_itemOf 25 = .ok (.bipush (-9), 2) := by decide +kernel
theorem dX9_itemOf_27 : decode cX9_itemOf 27 = .ok (.ireturn, 1) := by decide +kernel
theorem dX9_itemOf_28 : decode cX9_itemOf 28 = .ok (.iload_n 2, 1) := by decide +kernel
theorem dX9_itemOf_29 : decode cX9_itemOf 29 = .ok (.ifCond .ne 12, 3) := by decide +kernel
theorem dX9_itemOf_32 : decode cX9_itemOf 32 = .ok (.aload_n 0, 1) := by decide +kernel
theorem dX9_itemOf_33 : decode cX9_itemOf 33 = .ok (.getfield 93, 3) := by decide +kernel
theorem dX9_itemOf_36 : decode cX9_itemOf 36 = .ok (.iload_n 1, 1) := by decide +kernel
theorem dX9_itemOf_37 : decode cX9_itemOf 37 = .ok (.iaload, 1) := by decide +kernel
theorem dX9_itemOf_38 : decode cX9_itemOf 38 = .ok (.goto 77, 3) := by decide +kernel
theorem dX9_itemOf_41 : decode cX9_itemOf 41 = .ok (.iload_n 2, 1) := by decide +kernel
theorem dX9_itemOf_42 : decode cX9_itemOf 42 = .ok (.iconst 1, 1) := by decide +kernel
theorem dX9_itemOf_43 : decode cX9_itemOf 43 = .ok (.if_icmp .ne 12, 3) := by decide +kernel
theorem dX9_itemOf_46 : decode cX9_itemOf 46 = .ok (.aload_n 0, 1) := by decide +kernel
theorem dX9_itemOf_47 : decode cX9_itemOf 47 = .ok (.getfield 96, 3) := by decide +kernel
theorem dX9_itemOf_50 : decode cX9_itemOf 50 = .ok (.iload_n 1, 1) := by decide +kernel
theorem dX9_itemOf_51 : decode cX9_itemOf 51 = .ok (.iaload, 1) := by decide +kernel
theorem dX9_itemOf_52 : decode cX9_itemOf 52 = .ok (.goto 63, 3) := by decide +kernel
theorem dX9_itemOf_55 : decode cX9_itemOf 55 = .ok (.iload_n 2, 1) := by decide +kernel
theorem dX9_itemOf_56 : decode cX9_itemOf 56 = .ok (.iconst 2, 1) := by decide +kernel
theorem dX9_itemOf_57 : decode cX9_itemOf 57 = .ok (.if_icmp .ne 12, 3) := by decide +kernel
theorem dX9_itemOf_60 : decode cX9_itemOf 60 = .ok (.aload_n 0, 1) := by decide +kernel
theorem dX9_itemOf_61 : decode cX9_itemOf 61 = .ok (.getfield 111, 3) := by decide +kernel
theorem dX9_itemOf_64 : decode cX9_itemOf 64 = .ok (.iload_n 1, 1) := by decide +kernel
theorem dX9_itemOf_65 : decode cX9_itemOf 65 = .ok (.iaload, 1) := by decide +kernel
theorem dX9_itemOf_66 : decode cX9_itemOf 66 = .ok (.goto 49, 3) := by decide +kernel
theorem dX9_itemOf_69 : decode cX9_itemOf 69 = .ok (.iload_n 2, 1) := by decide +kernel
theorem dX9_itemOf_70 : decode cX9_itemOf 70 = .ok (.iconst 3, 1) := by decide +kernel
theorem dX9_itemOf_71 : decode cX9_itemOf 71 = .ok (.if_icmp .ne 12, 3) := by decide +kernel
theorem dX9_itemOf_74 : decode cX9_itemOf 74 = .ok (.aload_n 0, 1) := by decide +kernel
theorem dX9_itemOf_75 : decode cX9_itemOf 75 = .ok (.getfield 123, 3) := by decide +kernel
theorem dX9_itemOf_78 : decode cX9_itemOf 78 = .ok (.iload_n 1, 1) := by decide +kernel
theorem dX9_itemOf_79 : decode cX9_itemOf 79 = .ok (.iaload, 1) := by decide +kernel
theorem dX9_itemOf_80 : decode cX9_itemOf 80 = .ok (.goto 35, 3) := by decide +kernel
end
section
theorem dX9_itemOf_83 : decode cX9_itemOf 83 = .ok (.iload_n 2, 1) := by decide +kernel
theorem dX9_itemOf_84 : decode cX9_itemOf 84 = .ok (.iconst 4, 1) := by decide +kernel
theorem dX9_itemOf_85 : decode cX9_itemOf 85 = .ok (.if_icmp .ne 28, 3) := by decide +kernel
theorem dX9_itemOf_88 : decode cX9_itemOf 88 = .ok (.aload_n 0, 1) := by decide +kernel
theorem dX9_itemOf_89 : decode cX9_itemOf 89 = .ok (.getfield 123, 3) := by decide +kernel
theorem dX9_itemOf_92 : decode cX9_itemOf 92 = .ok (.iload_n 1, 1) := by decide +kernel
theorem dX9_itemOf_93 : decode cX9_itemOf 93 = .ok (.iaload, 1) := by decide +kernel
theorem dX9_itemOf_94 : decode cX9_itemOf 94 = .ok (.ifCond .le 15, 3) := by decide +kernel
theorem dX9_itemOf_97 : decode cX9_itemOf 97 = .ok (.aload_n 0, 1) := by decide +kernel
theorem dX9_itemOf_98 : decode cX9_itemOf 98 = .ok (.getfield 132, 3) := by decide +kernel
theorem dX9_itemOf_101 : decode cX9_itemOf 101 = .ok (.bipush 8, 2) := by decide +kernel
theorem dX9_itemOf_103 : decode cX9_itemOf 103 = .ok (.iload_n 1, 1) := by decide +kernel
theorem dX9_itemOf_104 : decode cX9_itemOf 104 = .ok (.imul, 1) := by decide +kernel
theorem dX9_itemOf_105 : decode cX9_itemOf 105 = .ok (.iaload, 1) := by decide +kernel
theorem dX9_itemOf_106 : decode cX9_itemOf 106 = .ok (.goto 9, 3) := by decide +kernel
theorem dX9_itemOf_109 : decode cX9_itemOf 109 = .ok (.iconst 0, 1) := by decide +kernel
theorem dX9_itemOf_110 : decode cX9_itemOf 110 = .ok (.goto 5, 3) := by decide +kernel
theorem dX9_itemOf_113 : decode cX9_itemOf 113 = .ok (.bipush (-9), 2) := by decide +kernel
theorem dX9_itemOf_115 : decode cX9_itemOf 115 = .ok (.ireturn, 1) := by decide +kernel
theorem dX9_status_0 : decode cX9_status 0 = .ok (.iconst 0, 1) := by decide +kernel
theorem dX9_status_1 : decode cX9_status 1 = .ok (.istore_n 2, 1) := by decide +kernel
theorem dX9_status_2 : decode cX9_status 2 = .ok (.iload_n 1, 1) := by decide +kernel
theorem dX9_status_3 : decode cX9_status 3 = .ok (.tableswitch 167 0 6 #[41, 46, 51, 56, 92, 127, 162], 41) := by decide +kernel
theorem dX9_status_44 : decode cX9_status 44 = .ok (.aload_n 0, 1) := by decide +kernel
theorem dX9_status_45 : decode cX9_status 45 = .ok (.getfield 199, 3) := by decide +kernel
theorem dX9_status_48 : decode cX9_status 48 = .ok (.ireturn, 1) := by decide +kernel
theorem dX9_status_49 : decode cX9_status 49 = .ok (.aload_n 0, 1) := by decide +kernel
theorem dX9_status_50 : decode cX9_status 50 = .ok (.getfield 179, 3) := by decide +kernel
theorem dX9_status_53 : decode cX9_status 53 = .ok (.ireturn, 1) := by decide +kernel
theorem dX9_status_54 : decode cX9_status 54 = .ok (.aload_n 0, 1) := by decide +kernel
theorem dX9_status_55 : decode cX9_status 55 = .ok (.getfield 189, 3) := by decide +kernel
theorem dX9_status_58 : decode cX9_status 58 = .ok (.ireturn, 1) := by decide +kernel
theorem dX9_status_59 : decode cX9_status 59 = .ok (.iconst 0, 1) := by decide +kernel
theorem dX9_status_60 : decode cX9_status 60 = .ok (.istore_n 3, 1) := by decide +kernel
theorem dX9_status_61 : decode cX9_status 61 = .ok (.iload_n 3, 1) := by decide +kernel
theorem dX9_status_62 : decode cX9_status 62 = .ok (.aload_n 0, 1) := by decide +kernel
theorem dX9_status_63 : decode cX9_status 63 = .ok (.getfield 248, 3) := by decide +kernel
theorem dX9_status_66 : decode cX9_status 66 = .ok (.if_icmp .ge 27, 3) := by decide +kernel
theorem dX9_status_69 : decode cX9_status 69 = .ok (.iload_n 2, 1) := by decide +kernel
theorem dX9_status_70 : decode cX9_status 70 = .ok (.aload_n 0, 1) := by decide +kernel
theorem dX9_status_71 : decode cX9_status 71 = .ok (.getfield 32, 3) := by decide +kernel
theorem dX9_status_74 : decode cX9_status 74 = .ok (.iload_n 3, 1) := by decide +kernel
theorem dX9_status_75 : decode cX9_status 75 = .ok (.iaload, 1) := by decide +kernel
theorem dX9_status_76 : decode cX9_status 76 = .ok (.iconst 2, 1) := by decide +kernel
theorem dX9_status_77 : decode cX9_status 77 = .ok (.if_icmp .eq 7, 3) := by decide +kernel
theorem dX9_status_80 : decode cX9_status 80 = .ok (.iconst 1, 1) := by decide +kernel
theorem dX9_status_81 : decode cX9_status 81 = .ok (.goto 4, 3) := by decide +kernel
theorem dX9_status_84 : decode cX9_status 84 = .ok (.iconst 0, 1) := by decide +kernel
theorem dX9_status_85 : decode cX9_status 85 = .ok (.iadd, 1) := by decide +kernel
theorem dX9_status_86 : decode cX9_status 86 = .ok (.istore_n 2, 1) := by decide +kernel
theorem dX9_status_87 : decode cX9_status 87 = .ok (.iinc 3 1, 3) := by decide +kernel
theorem dX9_status_90 : decode cX9_status 90 = .ok (.goto (-29), 3) := by decide +kernel
theorem dX9_status_93 : decode cX9_status 93 = .ok (.iload_n 2, 1) := by decide +kernel
theorem dX9_status_94 : decode cX9_status 94 = .ok (.ireturn, 1) := by decide +kernel
theorem dX9_status_95 : decode cX9_status 95 = .ok (.iconst 0, 1) := by decide +kernel
theorem dX9_status_96 : decode cX9_status 96 = .ok (.istore_n 3, 1) := by decide +kernel
theorem dX9_status_97 : decode cX9_status 97 = .ok (.iload_n 3, 1) := by decide +kernel
theorem dX9_status_98 : decode cX9_status 98 = .ok (.aload_n 0, 1) := by decide +kernel
theorem dX9_status_99 : decode cX9_status 99 = .ok (.getfield 224, 3) := by decide +kernel
theorem dX9_status_102 : decode cX9_status 102 = .ok (.if_icmp .ge 26, 3) := by decide +kernel
theorem dX9_status_105 : decode cX9_status 105 = .ok (.iload_n 2, 1) := by decide +kernel
theorem dX9_status_106 : decode cX9_status 106 = .ok (.aload_n 0, 1) := by decide +kernel
theorem dX9_status_107 : decode cX9_status 107 = .ok (.getfield 44, 3) := by decide +kernel
theorem dX9_status_110 : decode cX9_status 110 = .ok (.iload_n 3, 1) := by decide +kernel
theorem dX9_status_111 : decode cX9_status 111 = .ok (.baload, 1) := by decide +kernel
theorem dX9_status_112 : decode cX9_status 112 = .ok (.ifCond .eq 7, 3) := by decide +kernel
theorem dX9_status_115 : decode cX9_status 115 = .ok (.iconst 1, 1) := by decide +kernel
theorem dX9_status_116 : decode cX9_status 116 = .ok (.goto 4, 3) := by decide +kernel
theorem dX9_status_119 : decode cX9_status 119 = .ok (.iconst 0, 1) := by decide +kernel
theorem dX9_status_120 : decode cX9_status 120 = .ok (.iadd, 1) := by decide +kernel
theorem dX9_status_121 : decode cX9_status 121 = .ok (.istore_n 2, 1) := by decide +kernel
theorem dX9_status_122 : decode cX9_status 122 = .ok (.iinc 3 1, 3) := by decide +kernel
theorem dX9_status_125 : decode cX9_status 125 = .ok (.goto (-28), 3) := by decide +kernel
theorem dX9_status_128 : decode cX9_status 128 = .ok (.iload_n 2, 1) := by decide +kernel
theorem dX9_status_129 : decode cX9_status 129 = .ok (.ireturn, 1) := by decide +kernel
theorem dX9_status_130 : decode cX9_status 130 = .ok (.iconst 0, 1) := by decide +kernel
theorem dX9_status_131 : decode cX9_status 131 = .ok (.istore_n 3, 1) := by decide +kernel
theorem dX9_status_132 : decode cX9_status 132 = .ok (.iload_n 3, 1) := by decide +kernel
theorem dX9_status_133 : decode cX9_status 133 = .ok (.aload_n 0, 1) := by decide +kernel
theorem dX9_status_134 : decode cX9_status 134 = .ok (.getfield 202, 3) := by decide +kernel
theorem dX9_status_137 : decode cX9_status 137 = .ok (.if_icmp .ge 26, 3) := by decide +kernel
theorem dX9_status_140 : decode cX9_status 140 = .ok (.iload_n 2, 1) := by decide +kernel
theorem dX9_status_141 : decode cX9_status 141 = .ok (.aload_n 0, 1) := by decide +kernel
theorem dX9_status_142 : decode cX9_status 142 = .ok (.getfield 90, 3) := by decide +kernel
theorem dX9_status_145 : decode cX9_status 145 = .ok (.iload_n 3, 1) := by decide +kernel
theorem dX9_status_146 : decode cX9_status 146 = .ok (.baload, 1) := by decide +kernel
theorem dX9_status_147 : decode cX9_status 147 = .ok (.ifCond .eq 7, 3) := by decide +kernel
theorem dX9_status_150 : decode cX9_status 150 = .ok (.iconst 1, 1) := by decide +kernel
theorem dX9_status_151 : decode cX9_status 151 = .ok (.goto 4, 3) := by decide +kernel
theorem dX9_status_154 : decode cX9_status 154 = .ok (.iconst 0, 1) := by decide +kernel
theorem dX9_status_155 : decode cX9_status 155 = .ok (.iadd, 1) := by decide +kernel
theorem dX9_status_156 : decode cX9_status 156 = .ok (.istore_n 2, 1) := by decide +kernel
theorem dX9_status_157 : decode cX9_status 157 = .ok (.iinc 3 1, 3) := by decide +kernel
theorem dX9_status_160 : decode cX9_status 160 = .ok (.goto (-28), 3) := by decide +kernel
theorem dX9_status_163 : decode cX9_status 163 = .ok (.iload_n 2, 1) := by decide +kernel
theorem dX9_status_164 : decode cX9_status 164 = .ok (.ireturn, 1) := by decide +kernel
theorem dX9_status_165 : decode cX9_status 165 = .ok (.aload_n 0, 1) := by decide +kernel
theorem dX9_status_166 : decode cX9_status 166 = .ok (.getfield 205, 3) := by decide +kernel
theorem dX9_status_169 : decode cX9_status 169 = .ok (.ireturn, 1) := by decide +kernel
theorem dX9_status_170 : decode cX9_status 170 = .ok (.iload_n 1, 1) := by decide +kernel
theorem dX9_status_171 : decode cX9_status 171 = .ok (.i2l, 1) := by decide +kernel
theorem dX9_status_172 : decode cX9_status 172 = .ok (.ldc2_w 304, 3) := by decide +kernel
theorem dX9_status_175 : decode cX9_status 175 = .ok (.ldc2_w 306, 3) := by decide +kernel
theorem dX9_status_178 : decode cX9_status 178 = .ok (.invokestatic 171, 3) := by decide +kernel
theorem dX9_status_181 : decode cX9_status 181 = .ok (.ifCond .eq 15, 3) := by decide +kernel
theorem dX9_status_184 : decode cX9_status 184 = .ok (.aload_n 0, 1) := by decide +kernel
theorem dX9_status_185 : decode cX9_status 185 = .ok (.getfield 166, 3) := by decide +kernel
theorem dX9_status_188 : decode cX9_status 188 = .ok (.iload_n 1, 1) := by decide +kernel
theorem dX9_status_189 : decode cX9_status 189 = .ok (.bipush 10, 2) := by decide +kernel
theorem dX9_status_191 : decode cX9_status 191 = .ok (.isub, 1) := by decide +kernel
theorem dX9_status_192 : decode cX9_status 192 = .ok (.iaload, 1) := by decide +kernel
theorem dX9_status_193 : decode cX9_status 193 = .ok (.goto 5, 3) := by decide +kernel
theorem dX9_status_196 : decode cX9_status 196 = .ok (.bipush (-9), 2) := by decide +kernel
theorem dX9_status_198 : decode cX9_status 198 = .ok (.ireturn, 1) := by decide +kernel
theorem dJ9_max_7cf53_0 : decode cJ9_max_7cf53 0 = .ok (.iload_n 0, 1) := by decide +kernel
theorem dJ9_max_7cf53_1 : decode cJ9_max_7cf53 1 = .ok (.iload_n 1, 1) := by decide +kernel
theorem dJ9_max_7cf53_2 : decode cJ9_max_7cf53 2 = .ok (.if_icmp .lt 7, 3) := by decide +kernel
theorem dJ9_max_7cf53_5 : decode cJ9_max_7cf53 5 = .ok (.iload_n 0, 1) := by decide +kernel
theorem dJ9_max_7cf53_6 : decode cJ9_max_7cf53 6 = .ok (.goto 4, 3) := by decide +kernel
theorem dJ9_max_7cf53_9 : decode cJ9_max_7cf53 9 = .ok (.iload_n 1, 1) := by decide +kernel
theorem dJ9_max_7cf53_10 : decode cJ9_max_7cf53 10 = .ok (.ireturn, 1) := by decide +kernel
theorem dJ9_max_f86c9_0 : decode cJ9_max_f86c9 0 = .ok (.lload_n 0, 1) := by decide +kernel
theorem dJ9_max_f86c9_1 : decode cJ9_max_f86c9 1 = .ok (.lload_n 2, 1) := by decide +kernel
theorem dJ9_max_f86c9_2 : decode cJ9_max_f86c9 2 = .ok (.lcmp, 1) := by decide +kernel
theorem dJ9_max_f86c9_3 : decode cJ9_max_f86c9 3 = .ok (.ifCond .lt 7, 3) := by decide +kernel
theorem dJ9_max_f86c9_6 : decode cJ9_max_f86c9 6 = .ok (.lload_n 0, 1) := by decide +kernel
theorem dJ9_max_f86c9_7 : decode cJ9_max_f86c9 7 = .ok (.goto 4, 3) := by decide +kernel
theorem dJ9_max_f86c9_10 : decode cJ9_max_f86c9 10 = .ok (.lload_n 2, 1) := by decide +kernel
theorem dJ9_max_f86c9_11 : decode cJ9_max_f86c9 11 = .ok (.lreturn, 1) := by decide +kernel
theorem dJ9_min_7cf53_0 : decode cJ9_min_7cf53 0 = .ok (.iload_n 0, 1) := by decide +kernel
theorem dJ9_min_7cf53_1 : decode cJ9_min_7cf53 1 = .ok (.iload_n 1, 1) := by decide +kernel
theorem dJ9_min_7cf53_2 : decode cJ9_min_7cf53 2 = .ok (.if_icmp .gt 7, 3) := by decide +kernel
theorem dJ9_min_7cf53_5 : decode cJ9_min_7cf53 5 = .ok (.iload_n 0, 1) := by decide +kernel
theorem dJ9_min_7cf53_6 : decode cJ9_min_7cf53 6 = .ok (.goto 4, 3) := by decide +kernel
theorem dJ9_min_7cf53_9 : decode cJ9_min_7cf53 9 = .ok (.iload_n 1, 1) := by decide +kernel
theorem dJ9_min_7cf53_10 : decode cJ9_min_7cf53 10 = .ok (.ireturn, 1) := by decide +kernel
theorem dJ9_min_f86c9_0 : decode cJ9_min_f86c9 0 = .ok (.lload_n 0, 1) := by decide +kernel
theorem dJ9_min_f86c9_1 : decode cJ9_min_f86c9 1 = .ok (.lload_n 2, 1) := by decide +kernel
theorem dJ9_min_f86c9_2 : decode cJ9_min_f86c9 2 = .ok (.lcmp, 1) := by decide +kernel
theorem dJ9_min_f86c9_3 : decode cJ9_min_f86c9 3 = .ok (.ifCond .gt 7, 3) := by decide +kernel
theorem dJ9_min_f86c9_6 : decode cJ9_min_f86c9 6 = .ok (.lload_n 0, 1) := by decide +kernel
theorem dJ9_min_f86c9_7 : decode cJ9_min_f86c9 7 = .ok (.goto 4, 3) := by decide +kernel
theorem dJ9_min_f86c9_10 : decode cJ9_min_f86c9 10 = .ok (.lload_n 2, 1) := by decide +kernel
theorem dJ9_min_f86c9_11 : decode cJ9_min_f86c9 11 = .ok (.lreturn, 1) := by decide +kernel
theorem dJxa1e45_init_da8c8_0 : decode cJxa1e45_init_da8c8 0 = .ok (.aload_n 0, 1) := by decide +kernel
theorem dJxa1e45_init_da8c8_1 : decode cJxa1e45_init_da8c8 1 = .ok (.invokespecial 1, 3) := by decide +kernel
theorem dJxa1e45_init_da8c8_4 : decode cJxa1e45_init_da8c8 4 = .ok (.return_, 1) := by decide +kernel
theorem dJxc12de_init_da8c8_0 : decode cJxc12de_init_da8c8 0 = .ok (.aload_n 0, 1) := by decide +kernel
theorem dJxc12de_init_da8c8_1 : decode cJxc12de_init_da8c8 1 = .ok (.invokespecial 1, 3) := by decide +kernel
theorem dJxc12de_init_da8c8_4 : decode cJxc12de_init_da8c8 4 = .ok (.aload_n 0, 1) := by decide +kernel
theorem dJxc12de_init_da8c8_5 : decode cJxc12de_init_da8c8 5 = .ok (.iconst 0, 1) := by decide +kernel
theorem dJxc12de_init_da8c8_6 : decode cJxc12de_init_da8c8 6 = .ok (.putfield 7, 3) := by decide +kernel
theorem dJxc12de_init_da8c8_9 : decode cJxc12de_init_da8c8 9 = .ok (.return_, 1) := by decide +kernel
theorem dJx4a65c_init_da8c8_0 : decode cJx4a65c_init_da8c8 0 = .ok (.aload_n 0, 1) := by decide +kernel
theorem dJx4a65c_init_da8c8_1 : decode cJx4a65c_init_da8c8 1 = .ok (.invokespecial 1, 3) := by decide +kernel
theorem dJx4a65c_init_da8c8_4 : decode cJx4a65c_init_da8c8 4 = .ok (.aload_n 0, 1) := by decide +kernel
theorem dJx4a65c_init_da8c8_5 : decode cJx4a65c_init_da8c8 5 = .ok (.getstatic 39, 3) := by decide +kernel
theorem dJx4a65c_init_da8c8_8 : decode cJx4a65c_init_da8c8 8 = .ok (.putfield 9, 3) := by decide +kernel
theorem dJx4a65c_init_da8c8_11 : decode cJx4a65c_init_da8c8 11 = .ok (.return_, 1) := by decide +kernel
theorem dJx4a65c_grow_92f84_0 : decode cJx4a65c_grow_92f84 0 = .ok (.aload_n 0, 1) := by decide +kernel
theorem dJx4a65c_grow_92f84_1 : decode cJx4a65c_grow_92f84 1 = .ok (.getfield 9, 3) := by decide +kernel
theorem dJx4a65c_grow_92f84_4 : decode cJx4a65c_grow_92f84 4 = .ok (.arraylength, 1) := by decide +kernel
theorem dJx4a65c_grow_92f84_5 : decode cJx4a65c_grow_92f84 5 = .ok (.istore_n 2, 1) := by decide +kernel
theorem dJx4a65c_grow_92f84_6 : decode cJx4a65c_grow_92f84 6 = .ok (.iload_n 2, 1) := by decide +kernel
theorem dJx4a65c_grow_92f84_7 : decode cJx4a65c_grow_92f84 7 = .ok (.ifCond .gt 13, 3) := by decide +kernel
theorem dJx4a65c_grow_92f84_10 : decode cJx4a65c_grow_92f84 10 = .ok (.aload_n 0, 1) := by decide +kernel
theorem dJx4a65c_grow_92f84_11 : decode cJx4a65c_grow_92f84 11 = .ok (.getfield 9, 3) := by decide +kernel
theorem dJx4a65c_grow_92f84_14 : decode cJx4a65c_grow_92f84 14 = .ok (.getstatic 39, 3) := by decide +kernel
theorem dJx4a65c_grow_92f84_17 : decode cJx4a65c_grow_92f84 17 = .ok (.if_acmp .eq 28, 3) := by decide +kernel
theorem dJx4a65c_grow_92f84_20 : decode cJx4a65c_grow_92f84 20 = .ok (.iload_n 2, 1) := by decide +kernel
theorem dJx4a65c_grow_92f84_21 : decode cJx4a65c_grow_92f84 21 = .ok (.iload_n 1, 1) := by decide +kernel
theorem dJx4a65c_grow_92f84_22 : decode cJx4a65c_grow_92f84 22 = .ok (.iload_n 2, 1) := by decide +kernel
theorem dJx4a65c_grow_92f84_23 : decode cJx4a65c_grow_92f84 23 = .ok (.isub, 1) := by decide +kernel
theorem dJx4a65c_grow_92f84_24 : decode cJx4a65c_grow_92f84 24 = .ok (.iload_n 2, 1) := by decide +kernel
theorem dJx4a65c_grow_92f84_25 : decode cJx4a65c_grow_92f84 25 = .ok (.iconst 1, 1) := by decide +kernel
theorem dJx4a65c_grow_92f84_26 : decode cJx4a65c_grow_92f84 26 = .ok (.ishr, 1) := by decide +kernel
theorem dJx4a65c_grow_92f84_27 : decode cJx4a65c_grow_92f84 27 = .ok (.invokestatic 73, 3) := by decide +kernel
theorem dJx4a65c_grow_92f84_30 : decode cJx4a65c_grow_92f84 30 = .ok (.istore_n 3, 1) := by decide +kernel
theorem dJx4a65c_grow_92f84_31 : decode cJx4a65c_grow_92f84 31 = .ok (.aload_n 0, 1) := by decide +kernel
theorem dJx4a65c_grow_92f84_32 : decode cJx4a65c_grow_92f84 32 = .ok (.aload_n 0, 1) := by decide +kernel
theorem dJx4a65c_grow_92f84_33 : decode cJx4a65c_grow_92f84 33 = .ok (.getfield 9, 3) := by decide +kernel
theorem dJx4a65c_grow_92f84_36 : decode cJx4a65c_grow_92f84 36 = .ok (.iload_n 3, 1) := by decide +kernel
theorem dJx4a65c_grow_92f84_37 : decode cJx4a65c_grow_92f84 37 = .ok (.invokestatic 66, 3) := by decide +kernel
theorem dJx4a65c_grow_92f84_40 : decode cJx4a65c_grow_92f84 40 = .ok (.dup_x1, 1) := by decide +kernel
theorem dJx4a65c_grow_92f84_41 : decode cJx4a65c_grow_92f84 41 = .ok (.putfield 9, 3) := by decide +kernel
theorem dJx4a65c_grow_92f84_44 : decode cJx4a65c_grow_92f84 44 = .ok (.areturn, 1) := by decide +kernel
theorem dJx4a65c_grow_92f84_45 : decode cJx4a65c_grow_92f84 45 = .ok (.aload_n 0, 1) := by decide +kernel
theorem dJx4a65c_grow_92f84_46 : decode cJx4a65c_grow_92f84 46 = .ok (.bipush 10, 2) := by decide +kernel
theorem dJx4a65c_grow_92f84_48 : decode cJx4a65c_grow_92f84 48 = .ok (.iload_n 1, 1) := by decide +kernel
theorem dJx4a65c_grow_92f84_49 : decode cJx4a65c_grow_92f84 49 = .ok (.invokestatic 79, 3) := by decide +kernel
theorem dJx4a65c_grow_92f84_52 : decode cJx4a65c_grow_92f84 52 = .ok (.anewarray 7, 3) := by decide +kernel
theorem dJx4a65c_grow_92f84_55 : decode cJx4a65c_grow_92f84 55 = .ok (.dup_x1, 1) := by decide +kernel
theorem dJx4a65c_grow_92f84_56 : decode cJx4a65c_grow_92f84 56 = .ok (.putfield 9, 3) := by decide +kernel
theorem dJx4a65c_grow_92f84_59 : decode cJx4a65c_grow_92f84 59 = .ok (.areturn, 1) := by decide +kernel
theorem dJx4a65c_grow_d5877_0 : decode cJx4a65c_grow_d5877 0 = .ok (.aload_n 0, 1) := by decide +kernel
theorem dJx4a65c_grow_d5877_1 : decode cJx4a65c_grow_d5877 1 = .ok (.aload_n 0, 1) := by decide +kernel
theorem dJx4a65c_grow_d5877_2 : decode cJx4a65c_grow_d5877 2 = .ok (.getfield 48, 3) := by decide +kernel
theorem dJx4a65c_grow_d5877_5 : decode cJx4a65c_grow_d5877 5 = .ok (.iconst 1, 1) := by decide +kernel
theorem dJx4a65c_grow_d5877_6 : decode cJx4a65c_grow_d5877 6 = .ok (.iadd, 1) := by decide +kernel
theorem dJx4a65c_grow_d5877_7 : decode cJx4a65c_grow_d5877 7 = .ok (.invokevirtual 69, 3) := by decide +kernel
theorem dJx4a65c_grow_d5877_10 : decode cJx4a65c_grow_d5877 10 = .ok (.areturn, 1) := by decide +kernel
theorem dJx4a65c_size_8abf5_0 : decode cJx4a65c_size_8abf5 0 = .ok (.aload_n 0, 1) := by decide +kernel
theorem dJx4a65c_size_8abf5_1 : decode cJx4a65c_size_8abf5 1 = .ok (.getfield 48, 3) := by decide +kernel
theorem dJx4a65c_size_8abf5_4 : decode cJx4a65c_size_8abf5 4 = .ok (.ireturn, 1) := by decide +kernel
theorem dJx4a65c_isEmpty_aae02_0 : decode cJx4a65c_isEmpty_aae02 0 = .ok (.aload_n 0, 1) := by decide +kernel
theorem dJx4a65c_isEmpty_aae02_1 : decode cJx4a65c_isEmpty_aae02 1 = .ok (.getfield 48, 3) := by decide +kernel
theorem dJx4a65c_isEmpty_aae02_4 : decode cJx4a65c_isEmpty_aae02 4 = .ok (.ifCond .ne 7, 3) := by decide +kernel
theorem dJx4a65c_isEmpty_aae02_7 : decode cJx4a65c_isEmpty_aae02 7 = .ok (.iconst 1, 1) := by decide +kernel
theorem dJx4a65c_isEmpty_aae02_8 : decode cJx4a65c_isEmpty_aae02 8 = .ok (.goto 4, 3) := by decide +kernel
theorem dJx4a65c_isEmpty_aae02_11 : decode cJx4a65c_isEmpty_aae02 11 = .ok (.iconst 0, 1) := by decide +kernel
theorem dJx4a65c_isEmpty_aae02_12 : decode cJx4a65c_isEmpty_aae02 12 = .ok (.ireturn, 1) := by decide +kernel
theorem dJx4a65c_elementData_915e3_0 : decode cJx4a65c_elementData_915e3 0 = .ok (.aload_n 0, 1) := by decide +kernel
theorem dJx4a65c_elementData_915e3_1 : decode cJx4a65c_elementData_915e3 1 = .ok (.getfield 9, 3) := by decide +kernel
theorem dJx4a65c_elementData_915e3_4 : decode cJx4a65c_elementData_915e3 4 = .ok (.iload_n 1, 1) := by decide +kernel
theorem dJx4a65c_elementData_915e3_5 : decode cJx4a65c_elementData_915e3 5 = .ok (.aaload, 1) := by decide +kernel
theorem dJx4a65c_elementData_915e3_6 : decode cJx4a65c_elementData_915e3 6 = .ok (.areturn, 1) := by decide +kernel
theorem dJx4a65c_get_915e3_0 : decode cJx4a65c_get_915e3 0 = .ok (.iload_n 1, 1) := by decide +kernel
theorem dJx4a65c_get_915e3_1 : decode cJx4a65c_get_915e3 1 = .ok (.aload_n 0, 1) := by decide +kernel
theorem dJx4a65c_get_915e3_2 : decode cJx4a65c_get_915e3 2 = .ok (.getfield 48, 3) := by decide +kernel
theorem dJx4a65c_get_915e3_5 : decode cJx4a65c_get_915e3 5 = .ok (.invokestatic 118, 3) := by decide +kernel
theorem dJx4a65c_get_915e3_8 : decode cJx4a65c_get_915e3 8 = .ok (.pop, 1) := by decide +kernel
theorem dJx4a65c_get_915e3_9 : decode cJx4a65c_get_915e3 9 = .ok (.aload_n 0, 1) := by decide +kernel
theorem dJx4a65c_get_915e3_10 : decode cJx4a65c_get_915e3 10 = .ok (.iload_n 1, 1) := by decide +kernel
theorem dJx4a65c_get_915e3_11 : decode cJx4a65c_get_915e3 11 = .ok (.invokevirtual 123, 3) := by decide +kernel
theorem dJx4a65c_get_915e3_14 : decode cJx4a65c_get_915e3 14 = .ok (.areturn, 1) := by decide +kernel
theorem dJx4a65c_set_bcc79_0 : decode cJx4a65c_set_bcc79 0 = .ok (.iload_n 1, 1) := by decide +kernel
theorem dJx4a65c_set_bcc79_1 : decode cJx4a65c_set_bcc79 1 = .ok (.aload_n 0, 1) := by decide +kernel
theorem dJx4a65c_set_bcc79_2 : decode cJx4a65c_set_bcc79 2 = .ok (.getfield 48, 3) := by decide +kernel
theorem dJx4a65c_set_bcc79_5 : decode cJx4a65c_set_bcc79 5 = .ok (.invokestatic 118, 3) := by decide +kernel
theorem dJx4a65c_set_bcc79_8 : decode cJx4a65c_set_bcc79 8 = .ok (.pop, 1) := by decide +kernel
theorem dJx4a65c_set_bcc79_9 : decode cJx4a65c_set_bcc79 9 = .ok (.aload_n 0, 1) := by decide +kernel
theorem dJx4a65c_set_bcc79_10 : decode cJx4a65c_set_bcc79 10 = .ok (.iload_n 1, 1) := by decide +kernel
theorem dJx4a65c_set_bcc79_11 : decode cJx4a65c_set_bcc79 11 = .ok (.invokevirtual 123, 3) := by decide +kernel
theorem dJx4a65c_set_bcc79_14 : decode cJx4a65c_set_bcc79 14 = .ok (.astore_n 3, 1) := by decide +kernel
theorem dJx4a65c_set_bcc79_15 : decode cJx4a65c_set_bcc79 15 = .ok (.aload_n 0, 1) := by decide +kernel
theorem dJx4a65c_set_bcc79_16 : decode cJx4a65c_set_bcc79 16 = .ok (.getfield 9, 3) := by decide +kernel
theorem dJx4a65c_set_bcc79_19 : decode cJx4a65c_set_bcc79 19 = .ok (.iload_n 1, 1) := by decide +kernel
theorem dJx4a65c_set_bcc79_20 : decode cJx4a65c_set_bcc79 20 = .ok (.aload_n 2, 1) := by decide +kernel
theorem dJx4a65c_set_bcc79_21 : decode cJx4a65c_set_bcc79 21 = .ok (.aastore, 1) := by decide +kernel
theorem dJx4a65c_set_bcc79_22 : decode cJx4a65c_set_bcc79 22 = .ok (.aload_n 3, 1) := by decide +kernel
theorem dJx4a65c_set_bcc79_23 : decode cJx4a65c_set_bcc79 23 = .ok (.areturn, 1) := by decide +kernel
theorem dJx4a65c_add_72be8_0 : decode cJx4a65c_add_72be8 0 = .ok (.iload_n 3, 1) := by decide +kernel
theorem dJx4a65c_add_72be8_1 : decode cJx4a65c_add_72be8 1 = .ok (.aload_n 2, 1) := by decide +kernel
theorem dJx4a65c_add_72be8_2 : decode cJx4a65c_add_72be8 2 = .ok (.arraylength, 1) := by decide +kernel
theorem dJx4a65c_add_72be8_3 : decode cJx4a65c_add_72be8 3 = .ok (.if_icmp .ne 8, 3) := by decide +kernel
theorem dJx4a65c_add_72be8_6 : decode cJx4a65c_add_72be8 6 = .ok (.aload_n 0, 1) := by decide +kernel
theorem dJx4a65c_add_72be8_7 : decode cJx4a65c_add_72be8 7 = .ok (.invokevirtual 129, 3) := by decide +kernel
theorem dJx4a65c_add_72be8_10 : decode cJx4a65c_add_72be8 10 = .ok (.astore_n 2, 1) := by decide +kernel
theorem dJx4a65c_add_72be8_11 : decode cJx4a65c_add_72be8 11 = .ok (.aload_n 2, 1) := by decide +kernel
theorem dJx4a65c_add_72be8_12 : decode cJx4a65c_add_72be8 12 = .ok (.iload_n 3, 1) := by decide +kernel
theorem dJx4a65c_add_72be8_13 : decode cJx4a65c_add_72be8 13 = .ok (.aload_n 1, 1) := by decide +kernel
theorem dJx4a65c_add_72be8_14 : decode cJx4a65c_add_72be8 14 = .ok (.aastore, 1) := by decide +kernel
theorem dJx4a65c_add_72be8_15 : decode cJx4a65c_add_72be8 15 = .ok (.aload_n 0, 1) := by decide +kernel
theorem dJx4a65c_add_72be8_16 : decode cJx4a65c_add_72be8 16 = .ok (.iload_n 3, 1) := by decide +kernel
theorem dJx4a65c_add_72be8_17 : decode cJx4a65c_add_72be8 17 = .ok (.iconst 1, 1) := by decide +kernel
theorem dJx4a65c_add_72be8_18 : decode cJx4a65c_add_72be8 18 = .ok (.iadd, 1) := by decide +kernel
theorem dJx4a65c_add_72be8_19 : decode cJx4a65c_add_72be8 19 = .ok (.putfield 48, 3) := by decide +kernel
theorem dJx4a65c_add_72be8_22 : decode cJx4a65c_add_72be8 22 = .ok (.return_, 1) := by decide +kernel
theorem dJx4a65c_add_9ea2d_0 : decode cJx4a65c_add_9ea2d 0 = .ok (.aload_n 0, 1) := by decide +kernel
theorem dJx4a65c_add_9ea2d_1 : decode cJx4a65c_add_9ea2d 1 = .ok (.dup, 1) := by decide +kernel
theorem dJx4a65c_add_9ea2d_2 : decode cJx4a65c_add_9ea2d 2 = .ok (.getfield 63, 3) := by decide +kernel
theorem dJx4a65c_add_9ea2d_5 : decode cJx4a65c_add_9ea2d 5 = .ok (.iconst 1, 1) := by decide +kernel
theorem dJx4a65c_add_9ea2d_6 : decode cJx4a65c_add_9ea2d 6 = .ok (.iadd, 1) := by decide +kernel
theorem dJx4a65c_add_9ea2d_7 : decode cJx4a65c_add_9ea2d 7 = .ok (.putfield 63, 3) := by decide +kernel
theorem dJx4a65c_add_9ea2d_10 : decode cJx4a65c_add_9ea2d 10 = .ok (.aload_n 0, 1) := by decide +kernel
theorem dJx4a65c_add_9ea2d_11 : decode cJx4a65c_add_9ea2d 11 = .ok (.aload_n 1, 1) := by decide +kernel
theorem dJx4a65c_add_9ea2d_12 : decode cJx4a65c_add_9ea2d 12 = .ok (.aload_n 0, 1) := by decide +kernel
theorem dJx4a65c_add_9ea2d_13 : decode cJx4a65c_add_9ea2d 13 = .ok (.getfield 9, 3) := by decide +kernel
theorem dJx4a65c_add_9ea2d_16 : decode cJx4a65c_add_9ea2d 16 = .ok (.aload_n 0, 1) := by decide +kernel
theorem dJx4a65c_add_9ea2d_17 : decode cJx4a65c_add_9ea2d 17 = .ok (.getfield 48, 3) := by decide +kernel
theorem dJx4a65c_add_9ea2d_20 : decode cJx4a65c_add_9ea2d 20 = .ok (.invokevirtual 131, 3) := by decide +kernel
theorem dJx4a65c_add_9ea2d_23 : decode cJx4a65c_add_9ea2d 23 = .ok (.iconst 1, 1) := by decide +kernel
theorem dJx4a65c_add_9ea2d_24 : decode cJx4a65c_add_9ea2d 24 = .ok (.ireturn, 1) := by decide +kernel
theorem dJx4a65c_remove_915e3_0 : decode cJx4a65c_remove_915e3 0 = .ok (.iload_n 1, 1) := by decide +kernel
theorem dJx4a65c_remove_915e3_1 : decode cJx4a65c_remove_915e3 1 = .ok (.aload_n 0, 1) := by decide +kernel
theorem dJx4a65c_remove_915e3_2 : decode cJx4a65c_remove_915e3 2 = .ok (.getfield 48, 3) := by decide +kernel
theorem dJx4a65c_remove_915e3_5 : decode cJx4a65c_remove_915e3 5 = .ok (.invokestatic 118, 3) := by decide +kernel
theorem dJx4a65c_remove_915e3_8 : decode cJx4a65c_remove_915e3 8 = .ok (.pop, 1) := by decide +kernel
theorem dJx4a65c_remove_915e3_9 : decode cJx4a65c_remove_915e3 9 = .ok (.aload_n 0, 1) := by decide +kernel
theorem dJx4a65c_remove_915e3_10 : decode cJx4a65c_remove_915e3 10 = .ok (.getfield 9, 3) := by decide +kernel
theorem dJx4a65c_remove_915e3_13 : decode cJx4a65c_remove_915e3 13 = .ok (.astore_n 2, 1) := by decide +kernel
theorem dJx4a65c_remove_915e3_14 : decode cJx4a65c_remove_915e3 14 = .ok (.aload_n 2, 1) := by decide +kernel
theorem dJx4a65c_remove_915e3_15 : decode cJx4a65c_remove_915e3 15 = .ok (.iload_n 1, 1) := by decide +kernel
theorem dJx4a65c_remove_915e3_16 : decode cJx4a65c_remove_915e3 16 = .ok (.aaload, 1) := by decide +kernel
theorem dJx4a65c_remove_915e3_17 : decode cJx4a65c_remove_915e3 17 = .ok (.astore_n 3, 1) := by decide +kernel
theorem dJx4a65c_remove_915e3_18 : decode cJx4a65c_remove_915e3 18 = .ok (.aload_n 0, 1) := by decide +kernel
theorem dJx4a65c_remove_915e3_19 : decode cJx4a65c_remove_915e3 19 = .ok (.aload_n 2, 1) := by decide +kernel
theorem dJx4a65c_remove_915e3_20 : decode cJx4a65c_remove_915e3 20 = .ok (.iload_n 1, 1) := by decide +kernel
theorem dJx4a65c_remove_915e3_21 : decode cJx4a65c_remove_915e3 21 = .ok (.invokevirtual 144, 3) := by decide +kernel
theorem dJx4a65c_remove_915e3_24 : decode cJx4a65c_remove_915e3 24 = .ok (.aload_n 3, 1) := by decide +kernel
theorem dJx4a65c_remove_915e3_25 : decode cJx4a65c_remove_915e3 25 = .ok (.areturn, 1) := by decide +kernel
theorem dJx4a65c_fastRemove_b59b0_0 : decode cJx4a65c_fastRemove_b59b0 0 = .ok (.aload_n 0, 1) := by decide +kernel
theorem dJx4a65c_fastRemove_b59b0_1 : decode cJx4a65c_fastRemove_b59b0 1 = .ok (.dup, 1) := by decide +kernel
theorem dJx4a65c_fastRemove_b59b0_2 : decode cJx4a65c_fastRemove_b59b0 2 = .ok (.getfield 63, 3) := by decide +kernel
theorem dJx4a65c_fastRemove_b59b0_5 : decode cJx4a65c_fastRemove_b59b0 5 = .ok (.iconst 1, 1) := by decide +kernel
theorem dJx4a65c_fastRemove_b59b0_6 : decode cJx4a65c_fastRemove_b59b0 6 = .ok (.iadd, 1) := by decide +kernel
theorem dJx4a65c_fastRemove_b59b0_7 : decode cJx4a65c_fastRemove_b59b0 7 = .ok (.putfield 63, 3) := by decide +kernel
theorem dJx4a65c_fastRemove_b59b0_10 : decode cJx4a65c_fastRemove_b59b0 10 = .ok (.aload_n 0, 1) := by decide +kernel
theorem dJx4a65c_fastRemove_b59b0_11 : decode cJx4a65c_fastRemove_b59b0 11 = .ok (.getfield 48, 3) := by decide +kernel
theorem dJx4a65c_fastRemove_b59b0_14 : decode cJx4a65c_fastRemove_b59b0 14 = .ok (.iconst 1, 1) := by decide +kernel
theorem dJx4a65c_fastRemove_b59b0_15 : decode cJx4a65c_fastRemove_b59b0 15 = .ok (.isub, 1) := by decide +kernel
theorem dJx4a65c_fastRemove_b59b0_16 : decode cJx4a65c_fastRemove_b59b0 16 = .ok (.dup, 1) := by decide +kernel
theorem dJx4a65c_fastRemove_b59b0_17 : decode cJx4a65c_fastRemove_b59b0 17 = .ok (.istore_n 3, 1) := by decide +kernel
theorem dJx4a65c_fastRemove_b59b0_18 : decode cJx4a65c_fastRemove_b59b0 18 = .ok (.iload_n 2, 1) := by decide +kernel
theorem dJx4a65c_fastRemove_b59b0_19 : decode cJx4a65c_fastRemove_b59b0 19 = .ok (.if_icmp .le 15, 3) := by decide +kernel
theorem dJx4a65c_fastRemove_b59b0_22 : decode cJx4a65c_fastRemove_b59b0 22 = .ok (.aload_n 1, 1) := by decide +kernel
theorem dJx4a65c_fastRemove_b59b0_23 : decode cJx4a65c_fastRemove_b59b0 23 = .ok (.iload_n 2, 1) := by decide +kernel
theorem dJx4a65c_fastRemove_b59b0_24 : decode cJx4a65c_fastRemove_b59b0 24 = .ok (.iconst 1, 1) := by decide +kernel
theorem dJx4a65c_fastRemove_b59b0_25 : decode cJx4a65c_fastRemove_b59b0 25 = .ok (.iadd, 1) := by decide +kernel
theorem dJx4a65c_fastRemove_b59b0_26 : decode cJx4a65c_fastRemove_b59b0 26 = .ok (.aload_n 1, 1) := by decide +kernel
theorem dJx4a65c_fastRemove_b59b0_27 : decode cJx4a65c_fastRemove_b59b0 27 = .ok (.iload_n 2, 1) := by decide +kernel
theorem dJx4a65c_fastRemove_b59b0_28 : decode cJx4a65c_fastRemove_b59b0 28 = .ok (.iload_n 3, 1) := by decide +kernel
theorem dJx4a65c_fastRemove_b59b0_29 : decode cJx4a65c_fastRemove_b59b0 29 = .ok (.iload_n 2, 1) := by decide +kernel
theorem dJx4a65c_fastRemove_b59b0_30 : decode cJx4a65c_fastRemove_b59b0 30 = .ok (.isub, 1) := by decide +kernel
theorem dJx4a65c_fastRemove_b59b0_31 : decode cJx4a65c_fastRemove_b59b0 31 = .ok (.invokestatic 112, 3) := by decide +kernel
theorem dJx4a65c_fastRemove_b59b0_34 : decode cJx4a65c_fastRemove_b59b0 34 = .ok (.aload_n 1, 1) := by decide +kernel
theorem dJx4a65c_fastRemove_b59b0_35 : decode cJx4a65c_fastRemove_b59b0 35 = .ok (.aload_n 0, 1) := by decide +kernel
theorem dJx4a65c_fastRemove_b59b0_36 : decode cJx4a65c_fastRemove_b59b0 36 = .ok (.iload_n 3, 1) := by decide +kernel
theorem dJx4a65c_fastRemove_b59b0_37 : decode cJx4a65c_fastRemove_b59b0 37 = .ok (.dup_x1, 1) := by decide +kernel
theorem dJx4a65c_fastRemove_b59b0_38 : decode cJx4a65c_fastRemove_b59b0 38 = .ok (.putfield 48, 3) := by decide +kernel
theorem dJx4a65c_fastRemove_b59b0_41 : decode cJx4a65c_fastRemove_b59b0 41 = .ok (.aconst_null, 1) := by decide +kernel
theorem dJx4a65c_fastRemove_b59b0_42 : decode cJx4a65c_fastRemove_b59b0 42 = .ok (.aastore, 1) := by decide +kernel
theorem dJx4a65c_fastRemove_b59b0_43 : decode cJx4a65c_fastRemove_b59b0 43 = .ok (.return_, 1) := by decide +kernel
theorem dJx4a65c_clear_da8c8_0 : decode cJx4a65c_clear_da8c8 0 = .ok (.aload_n 0, 1) := by decide +kernel
theorem dJx4a65c_clear_da8c8_1 : decode cJx4a65c_clear_da8c8 1 = .ok (.dup, 1) := by decide +kernel
theorem dJx4a65c_clear_da8c8_2 : decode cJx4a65c_clear_da8c8 2 = .ok (.getfield 63, 3) := by decide +kernel
theorem dJx4a65c_clear_da8c8_5 : decode cJx4a65c_clear_da8c8 5 = .ok (.iconst 1, 1) := by decide +kernel
theorem dJx4a65c_clear_da8c8_6 : decode cJx4a65c_clear_da8c8 6 = .ok (.iadd, 1) := by decide +kernel
theorem dJx4a65c_clear_da8c8_7 : decode cJx4a65c_clear_da8c8 7 = .ok (.putfield 63, 3) := by decide +kernel
theorem dJx4a65c_clear_da8c8_10 : decode cJx4a65c_clear_da8c8 10 = .ok (.aload_n 0, 1) := by decide +kernel
theorem dJx4a65c_clear_da8c8_11 : decode cJx4a65c_clear_da8c8 11 = .ok (.getfield 9, 3) := by decide +kernel
theorem dJx4a65c_clear_da8c8_14 : decode cJx4a65c_clear_da8c8 14 = .ok (.astore_n 1, 1) := by decide +kernel
theorem dJx4a65c_clear_da8c8_15 : decode cJx4a65c_clear_da8c8 15 = .ok (.aload_n 0, 1) := by decide +kernel
theorem dJx4a65c_clear_da8c8_16 : decode cJx4a65c_clear_da8c8 16 = .ok (.getfield 48, 3) := by decide +kernel
theorem dJx4a65c_clear_da8c8_19 : decode cJx4a65c_clear_da8c8 19 = .ok (.istore_n 2, 1) := by decide +kernel
theorem dJx4a65c_clear_da8c8_20 : decode cJx4a65c_clear_da8c8 20 = .ok (.aload_n 0, 1) := by decide +kernel
theorem dJx4a65c_clear_da8c8_21 : decode cJx4a65c_clear_da8c8 21 = .ok (.iconst 0, 1) := by decide +kernel
theorem dJx4a65c_clear_da8c8_22 : decode cJx4a65c_clear_da8c8 22 = .ok (.dup_x1, 1) := by decide +kernel
theorem dJx4a65c_clear_da8c8_23 : decode cJx4a65c_clear_da8c8 23 = .ok (.putfield 48, 3) := by decide +kernel
theorem dJx4a65c_clear_da8c8_26 : decode cJx4a65c_clear_da8c8 26 = .ok (.istore_n 3, 1) := by decide +kernel
theorem dJx4a65c_clear_da8c8_27 : decode cJx4a65c_clear_da8c8 27 = .ok (.iload_n 3, 1) := by decide +kernel
theorem dJx4a65c_clear_da8c8_28 : decode cJx4a65c_clear_da8c8 28 = .ok (.iload_n 2, 1) := by decide +kernel
theorem dJx4a65c_clear_da8c8_29 : decode cJx4a65c_clear_da8c8 29 = .ok (.if_icmp .ge 13, 3) := by decide +kernel
theorem dJx4a65c_clear_da8c8_32 : decode cJx4a65c_clear_da8c8 32 = .ok (.aload_n 1, 1) := by decide +kernel
theorem dJx4a65c_clear_da8c8_33 : decode cJx4a65c_clear_da8c8 33 = .ok (.iload_n 3, 1) := by decide +kernel
theorem dJx4a65c_clear_da8c8_34 : decode cJx4a65c_clear_da8c8 34 = .ok (.aconst_null, 1) := by decide +kernel
theorem dJx4a65c_clear_da8c8_35 : decode cJx4a65c_clear_da8c8 35 = .ok (.aastore, 1) := by decide +kernel
theorem dJx4a65c_clear_da8c8_36 : decode cJx4a65c_clear_da8c8 36 = .ok (.iinc 3 1, 3) := by decide +kernel
theorem dJx4a65c_clear_da8c8_39 : decode cJx4a65c_clear_da8c8 39 = .ok (.goto (-12), 3) := by decide +kernel
theorem dJx4a65c_clear_da8c8_42 : decode cJx4a65c_clear_da8c8 42 = .ok (.return_, 1) := by decide +kernel
theorem dJ7_copyOf_1904c_0 : decode cJ7_copyOf_1904c 0 = .ok (.aload_n 0, 1) := by decide +kernel
theorem dJ7_copyOf_1904c_1 : decode cJ7_copyOf_1904c 1 = .ok (.iload_n 1, 1) := by decide +kernel
theorem dJ7_copyOf_1904c_2 : decode cJ7_copyOf_1904c 2 = .ok (.aload_n 0, 1) := by decide +kernel
theorem dJ7_copyOf_1904c_3 : decode cJ7_copyOf_1904c 3 = .ok (.invokevirtual 86, 3) := by decide +kernel
theorem dJ7_copyOf_1904c_6 : decode cJ7_copyOf_1904c 6 = .ok (.invokestatic 300, 3) := by decide +kernel
theorem dJ7_copyOf_1904c_9 : decode cJ7_copyOf_1904c 9 = .ok (.areturn, 1) := by decide +kernel
theorem dJ7_copyOf_6403c_0 : decode cJ7_copyOf_6403c 0 = .ok (.aload_n 2, 1) := by decide +kernel
theorem dJ7_copyOf_6403c_1 : decode cJ7_copyOf_6403c 1 = .ok (.ldc 110, 2) := by decide +kernel
theorem dJ7_copyOf_6403c_3 : decode cJ7_copyOf_6403c 3 = .ok (.if_acmp .ne 10, 3) := by decide +kernel
theorem dJ7_copyOf_6403c_6 : decode cJ7_copyOf_6403c 6 = .ok (.iload_n 1, 1) := by decide +kernel
theorem dJ7_copyOf_6403c_7 : decode cJ7_copyOf_6403c 7 = .ok (.anewarray 2, 3) := by decide +kernel
theorem dJ7_copyOf_6403c_10 : decode cJ7_copyOf_6403c 10 = .ok (.goto 14, 3) := by decide +kernel
theorem dJ7_copyOf_6403c_13 : decode cJ7_copyOf_6403c 13 = .ok (.aload_n 2, 1) := by decide +kernel
theorem dJ7_copyOf_6403c_14 : decode cJ7_copyOf_6403c 14 = .ok (.invokevirtual 90, 3) := by decide +kernel
theorem dJ7_copyOf_6403c_17 : decode cJ7_copyOf_6403c 17 = .ok (.iload_n 1, 1) := by decide +kernel
theorem dJ7_copyOf_6403c_18 : decode cJ7_copyOf_6403c 18 = .ok (.invokestatic 95, 3) := by decide +kernel
theorem dJ7_copyOf_6403c_21 : decode cJ7_copyOf_6403c 21 = .ok (.checkcast 110, 3) := by decide +kernel
theorem dJ7_copyOf_6403c_24 : decode cJ7_copyOf_6403c 24 = .ok (.astore_n 3, 1) := by decide +kernel
theorem dJ7_copyOf_6403c_25 : decode cJ7_copyOf_6403c 25 = .ok (.aload_n 0, 1) := by decide +kernel
theorem dJ7_copyOf_6403c_26 : decode cJ7_copyOf_6403c 26 = .ok (.iconst 0, 1) := by decide +kernel
theorem dJ7_copyOf_6403c_27 : decode cJ7_copyOf_6403c 27 = .ok (.aload_n 3, 1) := by decide +kernel
theorem dJ7_copyOf_6403c_28 : decode cJ7_copyOf_6403c 28 = .ok (.iconst 0, 1) := by decide +kernel
theorem dJ7_copyOf_6403c_29 : decode cJ7_copyOf_6403c 29 = .ok (.aload_n 0, 1) := by decide +kernel
theorem dJ7_copyOf_6403c_30 : decode cJ7_copyOf_6403c 30 = .ok (.arraylength, 1) := by decide +kernel
theorem dJ7_copyOf_6403c_31 : decode cJ7_copyOf_6403c 31 = .ok (.iload_n 1, 1) := by decide +kernel
theorem dJ7_copyOf_6403c_32 : decode cJ7_copyOf_6403c 32 = .ok (.invokestatic 304, 3) := by decide +kernel
theorem dJ7_copyOf_6403c_35 : decode cJ7_copyOf_6403c 35 = .ok (.invokestatic 150, 3) := by decide +kernel
theorem dJ7_copyOf_6403c_38 : decode cJ7_copyOf_6403c 38 = .ok (.aload_n 3, 1) := by decide +kernel
theorem dJ7_copyOf_6403c_39 : decode cJ7_copyOf_6403c 39 = .ok (.areturn, 1) := by decide +kernel
theorem dJ15_checkIndex_7cf53_0 : decode cJ15_checkIndex_7cf53 0 = .ok (.iload_n 0, 1) := by decide +kernel
theorem dJ15_checkIndex_7cf53_1 : decode cJ15_checkIndex_7cf53 1 = .ok (.iload_n 1, 1) := by decide +kernel
theorem dJ15_checkIndex_7cf53_2 : decode cJ15_checkIndex_7cf53 2 = .ok (.aconst_null, 1) := by decide +kernel
theorem dJ15_checkIndex_7cf53_3 : decode cJ15_checkIndex_7cf53 3 = .ok (.invokestatic 105, 3) := by decide +kernel
theorem dJ15_checkIndex_7cf53_6 : decode cJ15_checkIndex_7cf53 6 = .ok (.ireturn, 1) := by decide +kernel
theorem dJ8_newLength_cabcc_0 : decode cJ8_newLength_cabcc 0 = .ok (.iload_n 0, 1) := by decide +kernel
theorem dJ8_newLength_cabcc_1 : decode cJ8_newLength_cabcc 1 = .ok (.iload_n 1, 1) := by decide +kernel
theorem dJ8_newLength_cabcc_2 : decode cJ8_newLength_cabcc 2 = .ok (.iload_n 2, 1) := by decide +kernel
theorem dJ8_newLength_cabcc_3 : decode cJ8_newLength_cabcc 3 = .ok (.invokestatic 194, 3) := by decide +kernel
theorem dJ8_newLength_cabcc_6 : decode cJ8_newLength_cabcc 6 = .ok (.iadd, 1) := by decide +kernel
theorem dJ8_newLength_cabcc_7 : decode cJ8_newLength_cabcc 7 = .ok (.istore_n 3, 1) := by decide +kernel
theorem dJ8_newLength_cabcc_8 : decode cJ8_newLength_cabcc 8 = .ok (.iconst 0, 1) := by decide +kernel
theorem dJ8_newLength_cabcc_9 : decode cJ8_newLength_cabcc 9 = .ok (.iload_n 3, 1) := by decide +kernel
theorem dJ8_newLength_cabcc_10 : decode cJ8_newLength_cabcc 10 = .ok (.if_icmp .ge 11, 3) := by decide +kernel
theorem dJ8_newLength_cabcc_13 : decode cJ8_newLength_cabcc 13 = .ok (.iload_n 3, 1) := by decide +kernel
theorem dJ8_newLength_cabcc_14 : decode cJ8_newLength_cabcc 14 = .ok (.ldc 200, 2) := by decide +kernel
theorem dJ8_newLength_cabcc_16 : decode cJ8_newLength_cabcc 16 = .ok (.if_icmp .gt 5, 3) := by decide +kernel
theorem dJ8_newLength_cabcc_19 : decode cJ8_newLength_cabcc 19 = .ok (.iload_n 3, 1) := by decide +kernel
theorem dJ8_newLength_cabcc_20 : decode cJ8_newLength_cabcc 20 = .ok (.ireturn, 1) := by decide +kernel
theorem dJ8_newLength_cabcc_21 : decode cJ8_newLength_cabcc 21 = .ok (.iload_n 0, 1) := by decide +kernel
theorem dJ8_newLength_cabcc_22 : decode cJ8_newLength_cabcc 22 = .ok (.iload_n 1, 1) := by decide +kernel
theorem dJ8_newLength_cabcc_23 : decode cJ8_newLength_cabcc 23 = .ok (.invokestatic 201, 3) := by decide +kernel
theorem dJ8_newLength_cabcc_26 : decode cJ8_newLength_cabcc 26 = .ok (.ireturn, 1) := by decide +kernel
theorem dJ8_hugeLength_7cf53_0 : decode cJ8_hugeLength_7cf53 0 = .ok (.iload_n 0, 1) := by decide +kernel
theorem dJ8_hugeLength_7cf53_1 : decode cJ8_hugeLength_7cf53 1 = .ok (.iload_n 1, 1) := by decide +kernel
theorem dJ8_hugeLength_7cf53_2 : decode cJ8_hugeLength_7cf53 2 = .ok (.iadd, 1) := by decide +kernel
theorem dJ8_hugeLength_7cf53_3 : decode cJ8_hugeLength_7cf53 3 = .ok (.istore_n 2, 1) := by decide +kernel
theorem dJ8_hugeLength_7cf53_4 : decode cJ8_hugeLength_7cf53 4 = .ok (.iload_n 2, 1) := by decide +kernel
theorem dJ8_hugeLength_7cf53_5 : decode cJ8_hugeLength_7cf53 5 = .ok (.ifCond .ge 44, 3) := by decide +kernel
theorem dJ8_hugeLength_7cf53_8 : decode cJ8_hugeLength_7cf53 8 = .ok (.new 204, 3) := by decide +kernel
theorem dJ8_hugeLength_7cf53_11 : decode cJ8_hugeLength_7cf53 11 = .ok (.dup, 1) := by decide +kernel
theorem dJ8_hugeLength_7cf53_12 : decode cJ8_hugeLength_7cf53 12 = .ok (.new 89, 3) := by decide +kernel
theorem dJ8_hugeLength_7cf53_15 : decode cJ8_hugeLength_7cf53 15 = .ok (.dup, 1) := by decide +kernel
theorem dJ8_hugeLength_7cf53_16 : decode cJ8_hugeLength_7cf53 16 = .ok (.invokespecial 91, 3) := by decide +kernel
theorem dJ8_hugeLength_7cf53_19 : decode cJ8_hugeLength_7cf53 19 = .ok (.ldc 206, 2) := by decide +kernel
theorem dJ8_hugeLength_7cf53_21 : decode cJ8_hugeLength_7cf53 21 = .ok (.invokevirtual 94, 3) := by decide +kernel
theorem dJ8_hugeLength_7cf53_24 : decode cJ8_hugeLength_7cf53 24 = .ok (.iload_n 0, 1) := by decide +kernel
theorem dJ8_hugeLength_7cf53_25 : decode cJ8_hugeLength_7cf53 25 = .ok (.invokevirtual 98, 3) := by decide +kernel
theorem dJ8_hugeLength_7cf53_28 : decode cJ8_hugeLength_7cf53 28 = .ok (.ldc 208, 2) := by decide +kernel
theorem dJ8_hugeLength_7cf53_30 : decode cJ8_hugeLength_7cf53 30 = .ok (.invokevirtual 94, 3) := by decide +kernel
theorem dJ8_hugeLength_7cf53_33 : decode cJ8_hugeLength_7cf53 33 = .ok (.iload_n 1, 1) := by decide +kernel
theorem dJ8_hugeLength_7cf53_34 : decode cJ8_hugeLength_7cf53 34 = .ok (.invokevirtual 98, 3) := by decide +kernel
theorem dJ8_hugeLength_7cf53_37 : decode cJ8_hugeLength_7cf53 37 = .ok (.ldc 210, 2) := by decide +kernel
theorem dJ8_hugeLength_7cf53_39 : decode cJ8_hugeLength_7cf53 39 = .ok (.invokevirtual 94, 3) := by decide +kernel
theorem dJ8_hugeLength_7cf53_42 : decode cJ8_hugeLength_7cf53 42 = .ok (.invokevirtual 101, 3) := by decide +kernel
theorem dJ8_hugeLength_7cf53_45 : decode cJ8_hugeLength_7cf53 45 = .ok (.invokespecial 212, 3) := by decide +kernel
theorem dJ8_hugeLength_7cf53_48 : decode cJ8_hugeLength_7cf53 48 = .ok (.athrow, 1) := by decide +kernel
theorem dJ8_hugeLength_7cf53_49 : decode cJ8_hugeLength_7cf53 49 = .ok (.iload_n 2, 1) := by decide +kernel
theorem dJ8_hugeLength_7cf53_50 : decode cJ8_hugeLength_7cf53 50 = .ok (.ldc 200, 2) := by decide +kernel
theorem dJ8_hugeLength_7cf53_52 : decode cJ8_hugeLength_7cf53 52 = .ok (.if_icmp .gt 6, 3) := by decide +kernel
theorem dJ8_hugeLength_7cf53_55 : decode cJ8_hugeLength_7cf53 55 = .ok (.ldc 200, 2) := by decide +kernel
theorem dJ8_hugeLength_7cf53_57 : decode cJ8_hugeLength_7cf53 57 = .ok (.ireturn, 1) := by decide +kernel
theorem dJ8_hugeLength_7cf53_58 : decode cJ8_hugeLength_7cf53 58 = .ok (.iload_n 2, 1) := by decide +kernel
theorem dJ8_hugeLength_7cf53_59 : decode cJ8_hugeLength_7cf53 59 = .ok (.ireturn, 1) := by decide +kernel
theorem dJ3_checkIndex_8e157_0 : decode cJ3_checkIndex_8e157 0 = .ok (.iload_n 0, 1) := by decide +kernel
theorem dJ3_checkIndex_8e157_1 : decode cJ3_checkIndex_8e157 1 = .ok (.ifCond .lt 8, 3) := by decide +kernel
theorem dJ3_checkIndex_8e157_4 : decode cJ3_checkIndex_8e157 4 = .ok (.iload_n 0, 1) := by decide +kernel
theorem dJ3_checkIndex_8e157_5 : decode cJ3_checkIndex_8e157 5 = .ok (.iload_n 1, 1) := by decide +kernel
theorem dJ3_checkIndex_8e157_6 : decode cJ3_checkIndex_8e157 6 = .ok (.if_icmp .lt 10, 3) := by decide +kernel
theorem dJ3_checkIndex_8e157_9 : decode cJ3_checkIndex_8e157 9 = .ok (.aload_n 2, 1) := by decide +kernel
theorem dJ3_checkIndex_8e157_10 : decode cJ3_checkIndex_8e157 10 = .ok (.iload_n 0, 1) := by decide +kernel
theorem dJ3_checkIndex_8e157_11 : decode cJ3_checkIndex_8e157 11 = .ok (.iload_n 1, 1) := by decide +kernel
theorem dJ3_checkIndex_8e157_12 : decode cJ3_checkIndex_8e157 12 = .ok (.invokestatic 95, 3) := by decide +kernel
theorem dJ3_checkIndex_8e157_15 : decode cJ3_checkIndex_8e157 15 = .ok (.athrow, 1) := by decide +kernel
theorem dJ3_checkIndex_8e157_16 : decode cJ3_checkIndex_8e157 16 = .ok (.iload_n 0, 1) := by decide +kernel
theorem dJ3_checkIndex_8e157_17 : decode cJ3_checkIndex_8e157 17 = .ok (.ireturn, 1) := by decide +kernel
theorem dL_law_0 : decode cL_law 0 = .ok (.new 7, 3) := by decide +kernel
theorem dL_law_3 : decode cL_law 3 = .ok (.dup, 1) := by decide +kernel
theorem dL_law_4 : decode cL_law 4 = .ok (.invokespecial 9, 3) := by decide +kernel
theorem dL_law_7 : decode cL_law 7 = .ok (.astore_n 1, 1) := by decide +kernel
theorem dL_law_8 : decode cL_law 8 = .ok (.new 10, 3) := by decide +kernel
theorem dL_law_11 : decode cL_law 11 = .ok (.dup, 1) := by decide +kernel
theorem dL_law_12 : decode cL_law 12 = .ok (.invokespecial 12, 3) := by decide +kernel
theorem dL_law_15 : decode cL_law 15 = .ok (.astore_n 2, 1) := by decide +kernel
theorem dL_law_16 : decode cL_law 16 = .ok (.iconst 0, 1) := by decide +kernel
theorem dL_law_17 : decode cL_law 17 = .ok (.istore_n 3, 1) := by decide +kernel
theorem dL_law_18 : decode cL_law 18 = .ok (.iload_n 3, 1) := by decide +kernel
theorem dL_law_19 : decode cL_law 19 = .ok (.aload_n 0, 1) := by decide +kernel
theorem dL_law_20 : decode cL_law 20 = .ok (.arraylength, 1) := by decide +kernel
theorem dL_law_21 : decode cL_law 21 = .ok (.bipush 10, 2) := by decide +kernel
theorem dL_law_23 : decode cL_law 23 = .ok (.isub, 1) := by decide +kernel
theorem dL_law_24 : decode cL_law 24 = .ok (.if_icmp .gt 1367, 3) := by decide +kernel
theorem dL_law_27 : decode cL_law 27 = .ok (.aload_n 0, 1) := by decide +kernel
theorem dL_law_28 : decode cL_law 28 = .ok (.iload_n 3, 1) := by decide +kernel
theorem dL_law_29 : decode cL_law 29 = .ok (.iaload, 1) := by decide +kernel
theorem dL_law_30 : decode cL_law 30 = .ok (.bipush 31, 2) := by decide +kernel
theorem dL_law_32 : decode cL_law 32 = .ok (.iand, 1) := by decide +kernel
theorem dL_law_33 : decode cL_law 33 = .ok (.tableswitch 1352 0 28 #[131, 154, 197, 260, 283, 306, 329, 352, 415, 448, 462, 535, 598, 673, 732, 765, 798, 945, 988, 1021, 1064, 1077, 1120, 1153, 1186, 1230, 1263, 1296, 1329], 131) := by decide +kernel
theorem dL_law_164 : decode cL_law 164 = .ok (.aload_n 1, 1) := by decide +kernel
theorem dL_law_165 : decode cL_law 165 = .ok (.aload_n 0, 1) := by decide +kernel
theorem dL_law_166 : decode cL_law 166 = .ok (.iload_n 3, 1) := by decide +kernel
theorem dL_law_167 : decode cL_law 167 = .ok (.iconst 1, 1) := by decide +kernel
theorem dL_law_168 : decode cL_law 168 = .ok (.iadd, 1) := by decide +kernel
theorem dL_law_169 : decode cL_law 169 = .ok (.iaload, 1) := by decide +kernel
theorem dL_law_170 : decode cL_law 170 = .ok (.invokevirtual 13, 3) := by decide +kernel
theorem dL_law_173 : decode cL_law 173 = .ok (.aload_n 2, 1) := by decide +kernel
theorem dL_law_174 : decode cL_law 174 = .ok (.aload_n 0, 1) := by decide +kernel
theorem dL_law_175 : decode cL_law 175 = .ok (.iload_n 3, 1) := by decide +kernel
theorem dL_law_176 : decode cL_law 176 = .ok (.iconst 1, 1) := by decide +kernel
theorem dL_law_177 : decode cL_law 177 = .ok (.iadd, 1) := by decide +kernel
theorem dL_law_178 : decode cL_law 178 = .ok (.iaload, 1) := by decide +kernel
theorem dL_law_179 : decode cL_law 179 = .ok (.invokevirtual 17, 3) := by decide +kernel
theorem dL_law_182 : decode cL_law 182 = .ok (.if_icmp .eq 1203, 3) := by decide +kernel
theorem dL_law_185 : decode cL_law 185 = .ok (.iconst 0, 1) := by decide +kernel
theorem dL_law_186 : decode cL_law 186 = .ok (.ireturn, 1) := by decide +kernel
theorem dL_law_187 : decode cL_law 187 = .ok (.aload_n 1, 1) := by decide +kernel
theorem dL_law_188 : decode cL_law 188 = .ok (.aload_n 0, 1) := by decide +kernel
theorem dL_law_189 : decode cL_law 189 = .ok (.iload_n 3, 1) := by decide +kernel
theorem dL_law_190 : decode cL_law 190 = .ok (.iconst 1, 1) := by decide +kernel
theorem dL_law_191 : decode cL_law 191 = .ok (.iadd, 1) := by decide +kernel
theorem dL_law_192 : decode cL_law 192 = .ok (.iaload, 1) := by decide +kernel
theorem dL_law_193 : decode cL_law 193 = .ok (.aload_n 0, 1) := by decide +kernel
theorem dL_law_194 : decode cL_law 194 = .ok (.iload_n 3, 1) := by decide +kernel
theorem dL_law_195 : decode cL_law 195 = .ok (.iconst 2, 1) := by decide +kernel
theorem dL_law_196 : decode cL_law 196 = .ok (.iadd, 1) := by decide +kernel
theorem dL_law_197 : decode cL_law 197 = .ok (.iaload, 1) := by decide +kernel
theorem dL_law_198 : decode cL_law 198 = .ok (.aload_n 0, 1) := by decide +kernel
theorem dL_law_199 : decode cL_law 199 = .ok (.iload_n 3, 1) := by decide +kernel
theorem dL_law_200 : decode cL_law 200 = .ok (.iconst 3, 1) := by decide +kernel
theorem dL_law_201 : decode cL_law 201 = .ok (.iadd, 1) := by decide +kernel
theorem dL_law_202 : decode cL_law 202 = .ok (.iaload, 1) := by decide +kernel
theorem dL_law_203 : decode cL_law 203 = .ok (.invokevirtual 18, 3) := by decide +kernel
theorem dL_law_206 : decode cL_law 206 = .ok (.aload_n 2, 1) := by decide +kernel
theorem dL_law_207 : decode cL_law 207 = .ok (.aload_n 0, 1) := by decide +kernel
theorem dL_law_208 : decode cL_law 208 = .ok (.iload_n 3, 1) := by decide +kernel
theorem dL_law_209 : decode cL_law 209 = .ok (.iconst 1, 1) := by decide +kernel
theorem dL_law_210 : decode cL_law 210 = .ok (.iadd, 1) := by decide +kernel
theorem dL_law_211 : decode cL_law 211 = .ok (.iaload, 1) := by decide +kernel
theorem dL_law_212 : decode cL_law 212 = .ok (.aload_n 0, 1) := by decide +kernel
theorem dL_law_213 : decode cL_law 213 = .ok (.iload_n 3, 1) := by decide +kernel
theorem dL_law_214 : decode cL_law 214 = .ok (.iconst 2, 1) := by decide +kernel
theorem dL_law_215 : decode cL_law 215 = .ok (.iadd, 1) := by decide +kernel
theorem dL_law_216 : decode cL_law 216 = .ok (.iaload, 1) := by decide +kernel
theorem dL_law_217 : decode cL_law 217 = .ok (.aload_n 0, 1) := by decide +kernel
theorem dL_law_218 : decode cL_law 218 = .ok (.iload_n 3, 1) := by decide +kernel
theorem dL_law_219 : decode cL_law 219 = .ok (.iconst 3, 1) := by decide +kernel
theorem dL_law_220 : decode cL_law 220 = .ok (.iadd, 1) := by decide +kernel
theorem dL_law_221 : decode cL_law 221 = .ok (.iaload, 1) := by decide +kernel
theorem dL_law_222 : decode cL_law 222 = .ok (.invokevirtual 22, 3) := by decide +kernel
theorem dL_law_225 : decode cL_law 225 = .ok (.if_icmp .eq 1160, 3) := by decide +kernel
theorem dL_law_228 : decode cL_law 228 = .ok (.iconst 0, 1) := by decide +kernel
theorem dL_law_229 : decode cL_law 229 = .ok (.ireturn, 1) := by decide +kernel
theorem dL_law_230 : decode cL_law 230 = .ok (.aload_n 1, 1) := by decide +kernel
theorem dL_law_231 : decode cL_law 231 = .ok (.aload_n 0, 1) := by decide +kernel
theorem dL_law_232 : decode cL_law 232 = .ok (.iload_n 3, 1) := by decide +kernel
theorem dL_law_233 : decode cL_law 233 = .ok (.iconst 1, 1) := by decide +kernel
theorem dL_law_234 : decode cL_law 234 = .ok (.iadd, 1) := by decide +kernel
theorem dL_law_235 : decode cL_law 235 = .ok (.iaload, 1) := by decide +kernel
theorem dL_law_236 : decode cL_law 236 = .ok (.aload_n 0, 1) := by decide +kernel
theorem dL_law_237 : decode cL_law 237 = .ok (.iload_n 3, 1) := by decide +kernel
theorem dL_law_238 : decode cL_law 238 = .ok (.iconst 2, 1) := by decide +kernel
theorem dL_law_239 : decode cL_law 239 = .ok (.iadd, 1) := by decide +kernel
theorem dL_law_240 : decode cL_law 240 = .ok (.iaload, 1) := by decide +kernel
theorem dL_law_241 : decode cL_law 241 = .ok (.i2l, 1) := by decide +kernel
theorem dL_law_242 : decode cL_law 242 = .ok (.bipush 32, 2) := by decide +kernel
theorem dL_law_244 : decode cL_law 244 = .ok (.lshl, 1) := by decide +kernel
theorem dL_law_245 : decode cL_law 245 = .ok (.aload_n 0, 1) := by decide +kernel
theorem dL_law_246 : decode cL_law 246 = .ok (.iload_n 3, 1) := by decide +kernel
theorem dL_law_247 : decode cL_law 247 = .ok (.iconst 3, 1) := by decide +kernel
theorem dL_law_248 : decode cL_law 248 = .ok (.iadd, 1) := by decide +kernel
theorem dL_law_249 : decode cL_law 249 = .ok (.iaload, 1) := by decide +kernel
theorem dL_law_250 : decode cL_law 250 = .ok (.i2l, 1) := by decide +kernel
theorem dL_law_251 : decode cL_law 251 = .ok (.ldc2_w 23, 3) := by decide +kernel
theorem dL_law_254 : decode cL_law 254 = .ok (.land, 1) := by decide +kernel
theorem dL_law_255 : decode cL_law 255 = .ok (.lor, 1) := by decide +kernel
theorem dL_law_256 : decode cL_law 256 = .ok (.invokevirtual 25, 3) := by decide +kernel
theorem dL_law_259 : decode cL_law 259 = .ok (.aload_n 2, 1) := by decide +kernel
theorem dL_law_260 : decode cL_law 260 = .ok (.aload_n 0, 1) := by decide +kernel
theorem dL_law_261 : decode cL_law 261 = .ok (.iload_n 3, 1) := by decide +kernel
theorem dL_law_262 : decode cL_law 262 = .ok (.iconst 1, 1) := by decide +kernel
theorem dL_law_263 : decode cL_law 263 = .ok (.iadd, 1) := by decide +kernel
theorem dL_law_264 : decode cL_law 264 = .ok (.iaload, 1) := by decide +kernel
theorem dL_law_265 : decode cL_law 265 = .ok (.aload_n 0, 1) := by decide +kernel
theorem dL_law_266 : decode cL_law 266 = .ok (.iload_n 3, 1) := by decide +kernel
theorem dL_law_267 : decode cL_law 267 = .ok (.iconst 2, 1) := by decide +kernel
theorem dL_law_268 : decode cL_law 268 = .ok (.iadd, 1) := by decide +kernel
theorem dL_law_269 : decode cL_law 269 = .ok (.iaload, 1) := by decide +kernel
theorem dL_law_270 : decode cL_law 270 = .ok (.i2l, 1) := by decide +kernel
theorem dL_law_271 : decode cL_law 271 = .ok (.bipush 32, 2) := by decide +kernel
theorem dL_law_273 : decode cL_law 273 = .ok (.lshl, 1) := by decide +kernel
theorem dL_law_274 : decode cL_law 274 = .ok (.aload_n 0, 1) := by decide +kernel
theorem dL_law_275 : decode cL_law 275 = .ok (.iload_n 3, 1) := by decide +kernel
theorem dL_law_276 : decode cL_law 276 = .ok (.iconst 3, 1) := by decide +kernel
theorem dL_law_277 : decode cL_law 277 = .ok (.iadd, 1) := by decide +kernel
theorem dL_law_278 : decode cL_law 278 = .ok (.iaload, 1) := by decide +kernel
theorem dL_law_279 : decode cL_law 279 = .ok (.i2l, 1) := by decide +kernel
theorem dL_law_280 : decode cL_law 280 = .ok (.ldc2_w 23, 3) := by decide +kernel
theorem dL_law_283 : decode cL_law 283 = .ok (.land, 1) := by decide +kernel
theorem dL_law_284 : decode cL_law 284 = .ok (.lor, 1) := by decide +kernel
theorem dL_law_285 : decode cL_law 285 = .ok (.invokevirtual 29, 3) := by decide +kernel
theorem dL_law_288 : decode cL_law 288 = .ok (.if_icmp .eq 1097, 3) := by decide +kernel
theorem dL_law_291 : decode cL_law 291 = .ok (.iconst 0, 1) := by decide +kernel
theorem dL_law_292 : decode cL_law 292 = .ok (.ireturn, 1) := by decide +kernel
theorem dL_law_293 : decode cL_law 293 = .ok (.aload_n 1, 1) := by decide +kernel
theorem dL_law_294 : decode cL_law 294 = .ok (.aload_n 0, 1) := by decide +kernel
theorem dL_law_295 : decode cL_law 295 = .ok (.iload_n 3, 1) := by decide +kernel
theorem dL_law_296 : decode cL_law 296 = .ok (.iconst 1, 1) := by decide +kernel
theorem dL_law_297 : decode cL_law 297 = .ok (.iadd, 1) := by decide +kernel
theorem dL_law_298 : decode cL_law 298 = .ok (.iaload, 1) := by decide +kernel
theorem dL_law_299 : decode cL_law 299 = .ok (.invokevirtual 30, 3) := by decide +kernel
theorem dL_law_302 : decode cL_law 302 = .ok (.aload_n 2, 1) := by decide +kernel
theorem dL_law_303 : decode cL_law 303 = .ok (.aload_n 0, 1) := by decide +kernel
theorem dL_law_304 : decode cL_law 304 = .ok (.iload_n 3, 1) := by decide +kernel
theorem dL_law_305 : decode cL_law 305 = .ok (.iconst 1, 1) := by decide +kernel
theorem dL_law_306 : decode cL_law 306 = .ok (.iadd, 1) := by decide +kernel
theorem dL_law_307 : decode cL_law 307 = .ok (.iaload, 1) := by decide +kernel
theorem dL_law_308 : decode cL_law 308 = .ok (.invokevirtual 33, 3) := by decide +kernel
theorem dL_law_311 : decode cL_law 311 = .ok (.if_icmp .eq 1074, 3) := by decide +kernel
theorem dL_law_314 : decode cL_law 314 = .ok (.iconst 0, 1) := by decide +kernel
theorem dL_law_315 : decode cL_law 315 = .ok (.ireturn, 1) := by decide +kernel
theorem dL_law_316 : decode cL_law 316 = .ok (.aload_n 1, 1) := by decide +kernel
theorem dL_law_317 : decode cL_law 317 = .ok (.aload_n 0, 1) := by decide +kernel
theorem dL_law_318 : decode cL_law 318 = .ok (.iload_n 3, 1) := by decide +kernel
theorem dL_law_319 : decode cL_law 319 = .ok (.iconst 1, 1) := by decide +kernel
theorem dL_law_320 : decode cL_law 320 = .ok (.iadd, 1) := by decide +kernel
theorem dL_law_321 : decode cL_law 321 = .ok (.iaload, 1) := by decide +kernel
theorem dL_law_322 : decode cL_law 322 = .ok (.invokevirtual 34, 3) := by decide +kernel
theorem dL_law_325 : decode cL_law 325 = .ok (.aload_n 2, 1) := by decide +kernel
theorem dL_law_326 : decode cL_law 326 = .ok (.aload_n 0, 1) := by decide +kernel
theorem dL_law_327 : decode cL_law 327 = .ok (.iload_n 3, 1) := by decide +kernel
theorem dL_law_328 : decode cL_law 328 = .ok (.iconst 1, 1) := by decide +kernel
theorem dL_law_329 : decode cL_law 329 = .ok (.iadd, 1) := by decide +kernel
theorem dL_law_330 : decode cL_law 330 = .ok (.iaload, 1) := by decide +kernel
theorem dL_law_331 : decode cL_law 331 = .ok (.invokevirtual 37, 3) := by decide +kernel
theorem dL_law_334 : decode cL_law 334 = .ok (.if_icmp .eq 1051, 3) := by decide +kernel
theorem dL_law_337 : decode cL_law 337 = .ok (.iconst 0, 1) := by decide +kernel
theorem dL_law_338 : decode cL_law 338 = .ok (.ireturn, 1) := by decide +kernel
theorem dL_law_339 : decode cL_law 339 = .ok (.aload_n 1, 1) := by decide +kernel
theorem dL_law_340 : decode cL_law 340 = .ok (.aload_n 0, 1) := by decide +kernel
theorem dL_law_341 : decode cL_law 341 = .ok (.iload_n 3, 1) := by decide +kernel
theorem dL_law_342 : decode cL_law 342 = .ok (.iconst 1, 1) := by decide +kernel
theorem dL_law_343 : decode cL_law 343 = .ok (.iadd, 1) := by decide +kernel
theorem dL_law_344 : decode cL_law 344 = .ok (.iaload, 1) := by decide +kernel
theorem dL_law_345 : decode cL_law 345 = .ok (.invokevirtual 38, 3) := by decide +kernel
theorem dL_law_348 : decode cL_law 348 = .ok (.aload_n 2, 1) := by decide +kernel
theorem dL_law_349 : decode cL_law 349 = .ok (.aload_n 0, 1) := by decide +kernel
theorem dL_law_350 : decode cL_law 350 = .ok (.iload_n 3, 1) := by decide +kernel
theorem dL_law_351 : decode cL_law 351 = .ok (.iconst 1, 1) := by decide +kernel
theorem dL_law_352 : decode cL_law 352 = .ok (.iadd, 1) := by decide +kernel
theorem dL_law_353 : decode cL_law 353 = .ok (.iaload, 1) := by decide +kernel
theorem dL_law_354 : decode cL_law 354 = .ok (.invokevirtual 41, 3) := by decide +kernel
theorem dL_law_357 : decode cL_law 357 = .ok (.if_icmp .eq 1028, 3) := by decide +kernel
theorem dL_law_360 : decode cL_law 360 = .ok (.iconst 0, 1) := by decide +kernel
theorem dL_law_361 : decode cL_law 361 = .ok (.ireturn, 1) := by decide +kernel
theorem dL_law_362 : decode cL_law 362 = .ok (.aload_n 1, 1) := by decide +kernel
theorem dL_law_363 : decode cL_law 363 = .ok (.aload_n 0, 1) := by decide +kernel
theorem dL_law_364 : decode cL_law 364 = .ok (.iload_n 3, 1) := by decide +kernel
theorem dL_law_365 : decode cL_law 365 = .ok (.iconst 1, 1) := by decide +kernel
theorem dL_law_366 : decode cL_law 366 = .ok (.iadd, 1) := by decide +kernel
theorem dL_law_367 : decode cL_law 367 = .ok (.iaload, 1) := by decide +kernel
theorem dL_law_368 : decode cL_law 368 = .ok (.invokevirtual 42, 3) := by decide +kernel
theorem dL_law_371 : decode cL_law 371 = .ok (.aload_n 2, 1) := by decide +kernel
theorem dL_law_372 : decode cL_law 372 = .ok (.aload_n 0, 1) := by decide +kernel
theorem dL_law_373 : decode cL_law 373 = .ok (.iload_n 3, 1) := by decide +kernel
theorem dL_law_374 : decode cL_law 374 = .ok (.iconst 1, 1) := by decide +kernel
theorem dL_law_375 : decode cL_law 375 = .ok (.iadd, 1) := by decide +kernel
theorem dL_law_376 : decode cL_law 376 = .ok (.iaload, 1) := by decide +kernel
theorem dL_law_377 : decode cL_law 377 = .ok (.invokevirtual 45, 3) := by decide +kernel
theorem dL_law_380 : decode cL_law 380 = .ok (.if_icmp .eq 1005, 3) := by decide +kernel
theorem dL_law_383 : decode cL_law 383 = .ok (.iconst 0, 1) := by decide +kernel
theorem dL_law_384 : decode cL_law 384 = .ok (.ireturn, 1) := by decide +kernel
theorem dL_law_385 : decode cL_law 385 = .ok (.aload_n 1, 1) := by decide +kernel
theorem dL_law_386 : decode cL_law 386 = .ok (.aload_n 0, 1) := by decide +kernel
theorem dL_law_387 : decode cL_law 387 = .ok (.iload_n 3, 1) := by decide +kernel
theorem dL_law_388 : decode cL_law 388 = .ok (.iconst 1, 1) := by decide +kernel
theorem dL_law_389 : decode cL_law 389 = .ok (.iadd, 1) := by decide +kernel
theorem dL_law_390 : decode cL_law 390 = .ok (.iaload, 1) := by decide +kernel
theorem dL_law_391 : decode cL_law 391 = .ok (.aload_n 0, 1) := by decide +kernel
theorem dL_law_392 : decode cL_law 392 = .ok (.iload_n 3, 1) := by decide +kernel
theorem dL_law_393 : decode cL_law 393 = .ok (.iconst 2, 1) := by decide +kernel
theorem dL_law_394 : decode cL_law 394 = .ok (.iadd, 1) := by decide +kernel
theorem dL_law_395 : decode cL_law 395 = .ok (.iaload, 1) := by decide +kernel
theorem dL_law_396 : decode cL_law 396 = .ok (.aload_n 0, 1) := by decide +kernel
theorem dL_law_397 : decode cL_law 397 = .ok (.iload_n 3, 1) := by decide +kernel
theorem dL_law_398 : decode cL_law 398 = .ok (.iconst 3, 1) := by decide +kernel
theorem dL_law_399 : decode cL_law 399 = .ok (.iadd, 1) := by decide +kernel
theorem dL_law_400 : decode cL_law 400 = .ok (.iaload, 1) := by decide +kernel
theorem dL_law_401 : decode cL_law 401 = .ok (.aload_n 0, 1) := by decide +kernel
theorem dL_law_402 : decode cL_law 402 = .ok (.iload_n 3, 1) := by decide +kernel
theorem dL_law_403 : decode cL_law 403 = .ok (.iconst 4, 1) := by decide +kernel
theorem dL_law_404 : decode cL_law 404 = .ok (.iadd, 1) := by decide +kernel
theorem dL_law_405 : decode cL_law 405 = .ok (.iaload, 1) := by decide +kernel
theorem dL_law_406 : decode cL_law 406 = .ok (.aload_n 0, 1) := by decide +kernel
theorem dL_law_407 : decode cL_law 407 = .ok (.iload_n 3, 1) := by decide +kernel
theorem dL_law_408 : decode cL_law 408 = .ok (.iconst 5, 1) := by decide +kernel
theorem dL_law_409 : decode cL_law 409 = .ok (.iadd, 1) := by decide +kernel
theorem dL_law_410 : decode cL_law 410 = .ok (.iaload, 1) := by decide +kernel
theorem dL_law_411 : decode cL_law 411 = .ok (.invokevirtual 46, 3) := by decide +kernel
theorem dL_law_414 : decode cL_law 414 = .ok (.aload_n 2, 1) := by decide +kernel
theorem dL_law_415 : decode cL_law 415 = .ok (.aload_n 0, 1) := by decide +kernel
theorem dL_law_416 : decode cL_law 416 = .ok (.iload_n 3, 1) := by decide +kernel
theorem dL_law_417 : decode cL_law 417 = .ok (.iconst 1, 1) := by decide +kernel
theorem dL_law_418 : decode cL_law 418 = .ok (.iadd, 1) := by decide +kernel
theorem dL_law_419 : decode cL_law 419 = .ok (.iaload, 1) := by decide +kernel
theorem dL_law_420 : decode cL_law 420 = .ok (.aload_n 0, 1) := by decide +kernel
theorem dL_law_421 : decode cL_law 421 = .ok (.iload_n 3, 1) := by decide +kernel
theorem dL_law_422 : decode cL_law 422 = .ok (.iconst 2, 1) := by decide +kernel
theorem dL_law_423 : decode cL_law 423 = .ok (.iadd, 1) := by decide +kernel
theorem dL_law_424 : decode cL_law 424 = .ok (.iaload, 1) := by decide +kernel
theorem dL_law_425 : decode cL_law 425 = .ok (.aload_n 0, 1) := by decide +kernel
theorem dL_law_426 : decode cL_law 426 = .ok (.iload_n 3, 1) := by decide +kernel
theorem dL_law_427 : decode cL_law 427 = .ok (.iconst 3, 1) := by decide +kernel
theorem dL_law_428 : decode cL_law 428 = .ok (.iadd, 1) := by decide +kernel
theorem dL_law_429 : decode cL_law 429 = .ok (.iaload, 1) := by decide +kernel
theorem dL_law_430 : decode cL_law 430 = .ok (.aload_n 0, 1) := by decide +kernel
theorem dL_law_431 : decode cL_law 431 = .ok (.iload_n 3, 1) := by decide +kernel
theorem dL_law_432 : decode cL_law 432 = .ok (.iconst 4, 1) := by decide +kernel
theorem dL_law_433 : decode cL_law 433 = .ok (.iadd, 1) := by decide +kernel
theorem dL_law_434 : decode cL_law 434 = .ok (.iaload, 1) := by decide +kernel
theorem dL_law_435 : decode cL_law 435 = .ok (.aload_n 0, 1) := by decide +kernel
theorem dL_law_436 : decode cL_law 436 = .ok (.iload_n 3, 1) := by decide +kernel
theorem dL_law_437 : decode cL_law 437 = .ok (.iconst 5, 1) := by decide +kernel
theorem dL_law_438 : decode cL_law 438 = .ok (.iadd, 1) := by decide +kernel
theorem dL_law_439 : decode cL_law 439 = .ok (.iaload, 1) := by decide +kernel
theorem dL_law_440 : decode cL_law 440 = .ok (.invokevirtual 50, 3) := by decide +kernel
theorem dL_law_443 : decode cL_law 443 = .ok (.if_icmp .eq 942, 3) := by decide +kernel
theorem dL_law_446 : decode cL_law 446 = .ok (.iconst 0, 1) := by decide +kernel
theorem dL_law_447 : decode cL_law 447 = .ok (.ireturn, 1) := by decide +kernel
theorem dL_law_448 : decode cL_law 448 = .ok (.aload_n 1, 1) := by decide +kernel
theorem dL_law_449 : decode cL_law 449 = .ok (.aload_n 0, 1) := by decide +kernel
theorem dL_law_450 : decode cL_law 450 = .ok (.iload_n 3, 1) := by decide +kernel
theorem dL_law_451 : decode cL_law 451 = .ok (.iconst 1, 1) := by decide +kernel
theorem dL_law_452 : decode cL_law 452 = .ok (.iadd, 1) := by decide +kernel
theorem dL_law_453 : decode cL_law 453 = .ok (.iaload, 1) := by decide +kernel
theorem dL_law_454 : decode cL_law 454 = .ok (.aload_n 0, 1) := by decide +kernel
theorem dL_law_455 : decode cL_law 455 = .ok (.iload_n 3, 1) := by decide +kernel
theorem dL_law_456 : decode cL_law 456 = .ok (.iconst 2, 1) := by decide +kernel
theorem dL_law_457 : decode cL_law 457 = .ok (.iadd, 1) := by decide +kernel
theorem dL_law_458 : decode cL_law 458 = .ok (.iaload, 1) := by decide +kernel
theorem dL_law_459 : decode cL_law 459 = .ok (.invokevirtual 51, 3) := by decide +kernel
theorem dL_law_462 : decode cL_law 462 = .ok (.aload_n 2, 1) := by decide +kernel
theorem dL_law_463 : decode cL_law 463 = .ok (.aload_n 0, 1) := by decide +kernel
theorem dL_law_464 : decode cL_law 464 = .ok (.iload_n 3, 1) := by decide +kernel
theorem dL_law_465 : decode cL_law 465 = .ok (.iconst 1, 1) := by decide +kernel
theorem dL_law_466 : decode cL_law 466 = .ok (.iadd, 1) := by decide +kernel
theorem dL_law_467 : decode cL_law 467 = .ok (.iaload, 1) := by decide +kernel
theorem dL_law_468 : decode cL_law 468 = .ok (.aload_n 0, 1) := by decide +kernel
theorem dL_law_469 : decode cL_law 469 = .ok (.iload_n 3, 1) := by decide +kernel
theorem dL_law_470 : decode cL_law 470 = .ok (.iconst 2, 1) := by decide +kernel
theorem dL_law_471 : decode cL_law 471 = .ok (.iadd, 1) := by decide +kernel
theorem dL_law_472 : decode cL_law 472 = .ok (.iaload, 1) := by decide +kernel
theorem dL_law_473 : decode cL_law 473 = .ok (.invokevirtual 55, 3) := by decide +kernel
theorem dL_law_476 : decode cL_law 476 = .ok (.if_icmp .eq 909, 3) := by decide +kernel
theorem dL_law_479 : decode cL_law 479 = .ok (.iconst 0, 1) := by decide +kernel
theorem dL_law_480 : decode cL_law 480 = .ok (.ireturn, 1) := by decide +kernel
theorem dL_law_481 : decode cL_law 481 = .ok (.aload_n 1, 1) := by decide +kernel
theorem dL_law_482 : decode cL_law 482 = .ok (.invokevirtual 56, 3) := by decide +kernel
theorem dL_law_485 : decode cL_law 485 = .ok (.aload_n 2, 1) := by decide +kernel
theorem dL_law_486 : decode cL_law 486 = .ok (.invokevirtual 60, 3) := by decide +kernel
theorem dL_law_489 : decode cL_law 489 = .ok (.lcmp, 1) := by decide +kernel
theorem dL_law_490 : decode cL_law 490 = .ok (.ifCond .eq 895, 3) := by decide +kernel
theorem dL_law_493 : decode cL_law 493 = .ok (.iconst 0, 1) := by decide +kernel
theorem dL_law_494 : decode cL_law 494 = .ok (.ireturn, 1) := by decide +kernel
theorem dL_law_495 : decode cL_law 495 = .ok (.aload_n 1, 1) := by decide +kernel
theorem dL_law_496 : decode cL_law 496 = .ok (.aload_n 0, 1) := by decide +kernel
theorem dL_law_497 : decode cL_law 497 = .ok (.iload_n 3, 1) := by decide +kernel
theorem dL_law_498 : decode cL_law 498 = .ok (.iconst 1, 1) := by decide +kernel
theorem dL_law_499 : decode cL_law 499 = .ok (.iadd, 1) := by decide +kernel
theorem dL_law_500 : decode cL_law 500 = .ok (.iaload, 1) := by decide +kernel
theorem dL_law_501 : decode cL_law 501 = .ok (.aload_n 0, 1) := by decide +kernel
theorem dL_law_502 : decode cL_law 502 = .ok (.iload_n 3, 1) := by decide +kernel
theorem dL_law_503 : decode cL_law 503 = .ok (.iconst 2, 1) := by decide +kernel
theorem dL_law_504 : decode cL_law 504 = .ok (.iadd, 1) := by decide +kernel
theorem dL_law_505 : decode cL_law 505 = .ok (.iaload, 1) := by decide +kernel
theorem dL_law_506 : decode cL_law 506 = .ok (.aload_n 0, 1) := by decide +kernel
theorem dL_law_507 : decode cL_law 507 = .ok (.iload_n 3, 1) := by decide +kernel
theorem dL_law_508 : decode cL_law 508 = .ok (.iconst 3, 1) := by decide +kernel
theorem dL_law_509 : decode cL_law 509 = .ok (.iadd, 1) := by decide +kernel
theorem dL_law_510 : decode cL_law 510 = .ok (.iaload, 1) := by decide +kernel
theorem dL_law_511 : decode cL_law 511 = .ok (.i2l, 1) := by decide +kernel
theorem dL_law_512 : decode cL_law 512 = .ok (.bipush 32, 2) := by decide +kernel
theorem dL_law_514 : decode cL_law 514 = .ok (.lshl, 1) := by decide +kernel
theorem dL_law_515 : decode cL_law 515 = .ok (.aload_n 0, 1) := by decide +kernel
theorem dL_law_516 : decode cL_law 516 = .ok (.iload_n 3, 1) := by decide +kernel
theorem dL_law_517 : decode cL_law 517 = .ok (.iconst 4, 1) := by decide +kernel
theorem dL_law_518 : decode cL_law 518 = .ok (.iadd, 1) := by decide +kernel
theorem dL_law_519 : decode cL_law 519 = .ok (.iaload, 1) := by decide +kernel
theorem dL_law_520 : decode cL_law 520 = .ok (.i2l, 1) := by decide +kernel
theorem dL_law_521 : decode cL_law 521 = .ok (.ldc2_w 23, 3) := by decide +kernel
theorem dL_law_524 : decode cL_law 524 = .ok (.land, 1) := by decide +kernel
theorem dL_law_525 : decode cL_law 525 = .ok (.lor, 1) := by decide +kernel
theorem dL_law_526 : decode cL_law 526 = .ok (.invokevirtual 61, 3) := by decide +kernel
theorem dL_law_529 : decode cL_law 529 = .ok (.aload_n 2, 1) := by decide +kernel
theorem dL_law_530 : decode cL_law 530 = .ok (.aload_n 0, 1) := by decide +kernel
theorem dL_law_531 : decode cL_law 531 = .ok (.iload_n 3, 1) := by decide +kernel
theorem dL_law_532 : decode cL_law 532 = .ok (.iconst 1, 1) := by decide +kernel
theorem dL_law_533 : decode cL_law 533 = .ok (.iadd, 1) := by decide +kernel
theorem dL_law_534 : decode cL_law 534 = .ok (.iaload, 1) := by decide +kernel
theorem dL_law_535 : decode cL_law 535 = .ok (.aload_n 0, 1) := by decide +kernel
theorem dL_law_536 : decode cL_law 536 = .ok (.iload_n 3, 1) := by decide +kernel
theorem dL_law_537 : decode cL_law 537 = .ok (.iconst 2, 1) := by decide +kernel
theorem dL_law_538 : decode cL_law 538 = .ok (.iadd, 1) := by decide +kernel
theorem dL_law_539 : decode cL_law 539 = .ok (.iaload, 1) := by decide +kernel
theorem dL_law_540 : decode cL_law 540 = .ok (.aload_n 0, 1) := by decide +kernel
theorem dL_law_541 : decode cL_law 541 = .ok (.iload_n 3, 1) := by decide +kernel
theorem dL_law_542 : decode cL_law 542 = .ok (.iconst 3, 1) := by decide +kernel
theorem dL_law_543 : decode cL_law 543 = .ok (.iadd, 1) := by decide +kernel
theorem dL_law_544 : decode cL_law 544 = .ok (.iaload, 1) := by decide +kernel
theorem dL_law_545 : decode cL_law 545 = .ok (.i2l, 1) := by decide +kernel
theorem dL_law_546 : decode cL_law 546 = .ok (.bipush 32, 2) := by decide +kernel
theorem dL_law_548 : decode cL_law 548 = .ok (.lshl, 1) := by decide +kernel
theorem dL_law_549 : decode cL_law 549 = .ok (.aload_n 0, 1) := by decide +kernel
theorem dL_law_550 : decode cL_law 550 = .ok (.iload_n 3, 1) := by decide +kernel
theorem dL_law_551 : decode cL_law 551 = .ok (.iconst 4, 1) := by decide +kernel
theorem dL_law_552 : decode cL_law 552 = .ok (.iadd, 1) := by decide +kernel
theorem dL_law_553 : decode cL_law 553 = .ok (.iaload, 1) := by decide +kernel
theorem dL_law_554 : decode cL_law 554 = .ok (.i2l, 1) := by decide +kernel
theorem dL_law_555 : decode cL_law 555 = .ok (.ldc2_w 23, 3) := by decide +kernel
theorem dL_law_558 : decode cL_law 558 = .ok (.land, 1) := by decide +kernel
theorem dL_law_559 : decode cL_law 559 = .ok (.lor, 1) := by decide +kernel
theorem dL_law_560 : decode cL_law 560 = .ok (.invokevirtual 65, 3) := by decide +kernel
theorem dL_law_563 : decode cL_law 563 = .ok (.if_icmp .eq 822, 3) := by decide +kernel
theorem dL_law_566 : decode cL_law 566 = .ok (.iconst 0, 1) := by decide +kernel
theorem dL_law_567 : decode cL_law 567 = .ok (.ireturn, 1) := by decide +kernel
theorem dL_law_568 : decode cL_law 568 = .ok (.aload_n 1, 1) := by decide +kernel
theorem dL_law_569 : decode cL_law 569 = .ok (.aload_n 0, 1) := by decide +kernel
theorem dL_law_570 : decode cL_law 570 = .ok (.iload_n 3, 1) := by decide +kernel
theorem dL_law_571 : decode cL_law 571 = .ok (.iconst 1, 1) := by decide +kernel
theorem dL_law_572 : decode cL_law 572 = .ok (.iadd, 1) := by decide +kernel
theorem dL_law_573 : decode cL_law 573 = .ok (.iaload, 1) := by decide +kernel
theorem dL_law_574 : decode cL_law 574 = .ok (.aload_n 0, 1) := by decide +kernel
theorem dL_law_575 : decode cL_law 575 = .ok (.iload_n 3, 1) := by decide +kernel
theorem dL_law_576 : decode cL_law 576 = .ok (.iconst 2, 1) := by decide +kernel
theorem dL_law_577 : decode cL_law 577 = .ok (.iadd, 1) := by decide +kernel
theorem dL_law_578 : decode cL_law 578 = .ok (.iaload, 1) := by decide +kernel
theorem dL_law_579 : decode cL_law 579 = .ok (.aload_n 0, 1) := by decide +kernel
theorem dL_law_580 : decode cL_law 580 = .ok (.iload_n 3, 1) := by decide +kernel
theorem dL_law_581 : decode cL_law 581 = .ok (.iconst 3, 1) := by decide +kernel
theorem dL_law_582 : decode cL_law 582 = .ok (.iadd, 1) := by decide +kernel
theorem dL_law_583 : decode cL_law 583 = .ok (.iaload, 1) := by decide +kernel
theorem dL_law_584 : decode cL_law 584 = .ok (.aload_n 0, 1) := by decide +kernel
theorem dL_law_585 : decode cL_law 585 = .ok (.iload_n 3, 1) := by decide +kernel
theorem dL_law_586 : decode cL_law 586 = .ok (.iconst 4, 1) := by decide +kernel
theorem dL_law_587 : decode cL_law 587 = .ok (.iadd, 1) := by decide +kernel
theorem dL_law_588 : decode cL_law 588 = .ok (.iaload, 1) := by decide +kernel
theorem dL_law_589 : decode cL_law 589 = .ok (.aload_n 0, 1) := by decide +kernel
theorem dL_law_590 : decode cL_law 590 = .ok (.iload_n 3, 1) := by decide +kernel
theorem dL_law_591 : decode cL_law 591 = .ok (.iconst 5, 1) := by decide +kernel
theorem dL_law_592 : decode cL_law 592 = .ok (.iadd, 1) := by decide +kernel
theorem dL_law_593 : decode cL_law 593 = .ok (.iaload, 1) := by decide +kernel
theorem dL_law_594 : decode cL_law 594 = .ok (.invokevirtual 66, 3) := by decide +kernel
theorem dL_law_597 : decode cL_law 597 = .ok (.aload_n 2, 1) := by decide +kernel
theorem dL_law_598 : decode cL_law 598 = .ok (.aload_n 0, 1) := by decide +kernel
theorem dL_law_599 : decode cL_law 599 = .ok (.iload_n 3, 1) := by decide +kernel
theorem dL_law_600 : decode cL_law 600 = .ok (.iconst 1, 1) := by decide +kernel
theorem dL_law_601 : decode cL_law 601 = .ok (.iadd, 1) := by decide +kernel
theorem dL_law_602 : decode cL_law 602 = .ok (.iaload, 1) := by decide +kernel
theorem dL_law_603 : decode cL_law 603 = .ok (.aload_n 0, 1) := by decide +kernel
theorem dL_law_604 : decode cL_law 604 = .ok (.iload_n 3, 1) := by decide +kernel
theorem dL_law_605 : decode cL_law 605 = .ok (.iconst 2, 1) := by decide +kernel
theorem dL_law_606 : decode cL_law 606 = .ok (.iadd, 1) := by decide +kernel
theorem dL_law_607 : decode cL_law 607 = .ok (.iaload, 1) := by decide +kernel
theorem dL_law_608 : decode cL_law 608 = .ok (.aload_n 0, 1) := by decide +kernel
theorem dL_law_609 : decode cL_law 609 = .ok (.iload_n 3, 1) := by decide +kernel
theorem dL_law_610 : decode cL_law 610 = .ok (.iconst 3, 1) := by decide +kernel
theorem dL_law_611 : decode cL_law 611 = .ok (.iadd, 1) := by decide +kernel
theorem dL_law_612 : decode cL_law 612 = .ok (.iaload, 1) := by decide +kernel
theorem dL_law_613 : decode cL_law 613 = .ok (.aload_n 0, 1) := by decide +kernel
theorem dL_law_614 : decode cL_law 614 = .ok (.iload_n 3, 1) := by decide +kernel
theorem dL_law_615 : decode cL_law 615 = .ok (.iconst 4, 1) := by decide +kernel
theorem dL_law_616 : decode cL_law 616 = .ok (.iadd, 1) := by decide +kernel
theorem dL_law_617 : decode cL_law 617 = .ok (.iaload, 1) := by decide +kernel
theorem dL_law_618 : decode cL_law 618 = .ok (.aload_n 0, 1) := by decide +kernel
theorem dL_law_619 : decode cL_law 619 = .ok (.iload_n 3, 1) := by decide +kernel
theorem dL_law_620 : decode cL_law 620 = .ok (.iconst 5, 1) := by decide +kernel
theorem dL_law_621 : decode cL_law 621 = .ok (.iadd, 1) := by decide +kernel
theorem dL_law_622 : decode cL_law 622 = .ok (.iaload, 1) := by decide +kernel
theorem dL_law_623 : decode cL_law 623 = .ok (.invokevirtual 69, 3) := by decide +kernel
theorem dL_law_626 : decode cL_law 626 = .ok (.if_icmp .eq 759, 3) := by decide +kernel
theorem dL_law_629 : decode cL_law 629 = .ok (.iconst 0, 1) := by decide +kernel
theorem dL_law_630 : decode cL_law 630 = .ok (.ireturn, 1) := by decide +kernel
theorem dL_law_631 : decode cL_law 631 = .ok (.aload_n 1, 1) := by decide +kernel
theorem dL_law_632 : decode cL_law 632 = .ok (.aload_n 0, 1) := by decide +kernel
theorem dL_law_633 : decode cL_law 633 = .ok (.iload_n 3, 1) := by decide +kernel
theorem dL_law_634 : decode cL_law 634 = .ok (.iconst 1, 1) := by decide +kernel
theorem dL_law_635 : decode cL_law 635 = .ok (.iadd, 1) := by decide +kernel
theorem dL_law_636 : decode cL_law 636 = .ok (.iaload, 1) := by decide +kernel
theorem dL_law_637 : decode cL_law 637 = .ok (.aload_n 0, 1) := by decide +kernel
theorem dL_law_638 : decode cL_law 638 = .ok (.iload_n 3, 1) := by decide +kernel
theorem dL_law_639 : decode cL_law 639 = .ok (.iconst 2, 1) := by decide +kernel
theorem dL_law_640 : decode cL_law 640 = .ok (.iadd, 1) := by decide +kernel
theorem dL_law_641 : decode cL_law 641 = .ok (.iaload, 1) := by decide +kernel
theorem dL_law_642 : decode cL_law 642 = .ok (.aload_n 0, 1) := by decide +kernel
theorem dL_law_643 : decode cL_law 643 = .ok (.iload_n 3, 1) := by decide +kernel
theorem dL_law_644 : decode cL_law 644 = .ok (.iconst 3, 1) := by decide +kernel
theorem dL_law_645 : decode cL_law 645 = .ok (.iadd, 1) := by decide +kernel
theorem dL_law_646 : decode cL_law 646 = .ok (.iaload, 1) := by decide +kernel
theorem dL_law_647 : decode cL_law 647 = .ok (.aload_n 0, 1) := by decide +kernel
theorem dL_law_648 : decode cL_law 648 = .ok (.iload_n 3, 1) := by decide +kernel
theorem dL_law_649 : decode cL_law 649 = .ok (.iconst 4, 1) := by decide +kernel
theorem dL_law_650 : decode cL_law 650 = .ok (.iadd, 1) := by decide +kernel
theorem dL_law_651 : decode cL_law 651 = .ok (.iaload, 1) := by decide +kernel
theorem dL_law_652 : decode cL_law 652 = .ok (.aload_n 0, 1) := by decide +kernel
theorem dL_law_653 : decode cL_law 653 = .ok (.iload_n 3, 1) := by decide +kernel
theorem dL_law_654 : decode cL_law 654 = .ok (.iconst 5, 1) := by decide +kernel
theorem dL_law_655 : decode cL_law 655 = .ok (.iadd, 1) := by decide +kernel
theorem dL_law_656 : decode cL_law 656 = .ok (.iaload, 1) := by decide +kernel
theorem dL_law_657 : decode cL_law 657 = .ok (.aload_n 0, 1) := by decide +kernel
theorem dL_law_658 : decode cL_law 658 = .ok (.iload_n 3, 1) := by decide +kernel
theorem dL_law_659 : decode cL_law 659 = .ok (.bipush 6, 2) := by decide +kernel
theorem dL_law_661 : decode cL_law 661 = .ok (.iadd, 1) := by decide +kernel
theorem dL_law_662 : decode cL_law 662 = .ok (.iaload, 1) := by decide +kernel
theorem dL_law_663 : decode cL_law 663 = .ok (.invokevirtual 70, 3) := by decide +kernel
theorem dL_law_666 : decode cL_law 666 = .ok (.aload_n 2, 1) := by decide +kernel
theorem dL_law_667 : decode cL_law 667 = .ok (.aload_n 0, 1) := by decide +kernel
theorem dL_law_668 : decode cL_law 668 = .ok (.iload_n 3, 1) := by decide +kernel
theorem dL_law_669 : decode cL_law 669 = .ok (.iconst 1, 1) := by decide +kernel
theorem dL_law_670 : decode cL_law 670 = .ok (.iadd, 1) := by decide +kernel
theorem dL_law_671 : decode cL_law 671 = .ok (.iaload, 1) := by decide +kernel
theorem dL_law_672 : decode cL_law 672 = .ok (.aload_n 0, 1) := by decide +kernel
theorem dL_law_673 : decode cL_law 673 = .ok (.iload_n 3, 1) := by decide +kernel
theorem dL_law_674 : decode cL_law 674 = .ok (.iconst 2, 1) := by decide +kernel
theorem dL_law_675 : decode cL_law 675 = .ok (.iadd, 1) := by decide +kernel
theorem dL_law_676 : decode cL_law 676 = .ok (.iaload, 1) := by decide +kernel
theorem dL_law_677 : decode cL_law 677 = .ok (.aload_n 0, 1) := by decide +kernel
theorem dL_law_678 : decode cL_law 678 = .ok (.iload_n 3, 1) := by decide +kernel
theorem dL_law_679 : decode cL_law 679 = .ok (.iconst 3, 1) := by decide +kernel
theorem dL_law_680 : decode cL_law 680 = .ok (.iadd, 1) := by decide +kernel
theorem dL_law_681 : decode cL_law 681 = .ok (.iaload, 1) := by decide +kernel
theorem dL_law_682 : decode cL_law 682 = .ok (.aload_n 0, 1) := by decide +kernel
theorem dL_law_683 : decode cL_law 683 = .ok (.iload_n 3, 1) := by decide +kernel
theorem dL_law_684 : decode cL_law 684 = .ok (.iconst 4, 1) := by decide +kernel
theorem dL_law_685 : decode cL_law 685 = .ok (.iadd, 1) := by decide +kernel
theorem dL_law_686 : decode cL_law 686 = .ok (.iaload, 1) := by decide +kernel
theorem dL_law_687 : decode cL_law 687 = .ok (.aload_n 0, 1) := by decide +kernel
theorem dL_law_688 : decode cL_law 688 = .ok (.iload_n 3, 1) := by decide +kernel
theorem dL_law_689 : decode cL_law 689 = .ok (.iconst 5, 1) := by decide +kernel
theorem dL_law_690 : decode cL_law 690 = .ok (.iadd, 1) := by decide +kernel
theorem dL_law_691 : decode cL_law 691 = .ok (.iaload, 1) := by decide +kernel
theorem dL_law_692 : decode cL_law 692 = .ok (.aload_n 0, 1) := by decide +kernel
theorem dL_law_693 : decode cL_law 693 = .ok (.iload_n 3, 1) := by decide +kernel
theorem dL_law_694 : decode cL_law 694 = .ok (.bipush 6, 2) := by decide +kernel
theorem dL_law_696 : decode cL_law 696 = .ok (.iadd, 1) := by decide +kernel
theorem dL_law_697 : decode cL_law 697 = .ok (.iaload, 1) := by decide +kernel
theorem dL_law_698 : decode cL_law 698 = .ok (.invokevirtual 74, 3) := by decide +kernel
theorem dL_law_701 : decode cL_law 701 = .ok (.if_icmp .eq 684, 3) := by decide +kernel
theorem dL_law_704 : decode cL_law 704 = .ok (.iconst 0, 1) := by decide +kernel
theorem dL_law_705 : decode cL_law 705 = .ok (.ireturn, 1) := by decide +kernel
theorem dL_law_706 : decode cL_law 706 = .ok (.aload_n 1, 1) := by decide +kernel
theorem dL_law_707 : decode cL_law 707 = .ok (.aload_n 0, 1) := by decide +kernel
theorem dL_law_708 : decode cL_law 708 = .ok (.iload_n 3, 1) := by decide +kernel
theorem dL_law_709 : decode cL_law 709 = .ok (.iconst 1, 1) := by decide +kernel
theorem dL_law_710 : decode cL_law 710 = .ok (.iadd, 1) := by decide +kernel
theorem dL_law_711 : decode cL_law 711 = .ok (.iaload, 1) := by decide +kernel
theorem dL_law_712 : decode cL_law 712 = .ok (.aload_n 0, 1) := by decide +kernel
theorem dL_law_713 : decode cL_law 713 = .ok (.iload_n 3, 1) := by decide +kernel
theorem dL_law_714 : decode cL_law 714 = .ok (.iconst 2, 1) := by decide +kernel
theorem dL_law_715 : decode cL_law 715 = .ok (.iadd, 1) := by decide +kernel
theorem dL_law_716 : decode cL_law 716 = .ok (.iaload, 1) := by decide +kernel
theorem dL_law_717 : decode cL_law 717 = .ok (.aload_n 0, 1) := by decide +kernel
theorem dL_law_718 : decode cL_law 718 = .ok (.iload_n 3, 1) := by decide +kernel
theorem dL_law_719 : decode cL_law 719 = .ok (.iconst 3, 1) := by decide +kernel
theorem dL_law_720 : decode cL_law 720 = .ok (.iadd, 1) := by decide +kernel
theorem dL_law_721 : decode cL_law 721 = .ok (.iaload, 1) := by decide +kernel
theorem dL_law_722 : decode cL_law 722 = .ok (.ifCond .eq 7, 3) := by decide +kernel
theorem dL_law_725 : decode cL_law 725 = .ok (.iconst 1, 1) := by decide +kernel
theorem dL_law_726 : decode cL_law 726 = .ok (.goto 4, 3) := by decide +kernel
theorem dL_law_729 : decode cL_law 729 = .ok (.iconst 0, 1) := by decide +kernel
theorem dL_law_730 : decode cL_law 730 = .ok (.invokevirtual 75, 3) := by decide +kernel
theorem dL_law_733 : decode cL_law 733 = .ok (.aload_n 2, 1) := by decide +kernel
theorem dL_law_734 : decode cL_law 734 = .ok (.aload_n 0, 1) := by decide +kernel
theorem dL_law_735 : decode cL_law 735 = .ok (.iload_n 3, 1) := by decide +kernel
theorem dL_law_736 : decode cL_law 736 = .ok (.iconst 1, 1) := by decide +kernel
theorem dL_law_737 : decode cL_law 737 = .ok (.iadd, 1) := by decide +kernel
theorem dL_law_738 : decode cL_law 738 = .ok (.iaload, 1) := by decide +kernel
theorem dL_law_739 : decode cL_law 739 = .ok (.aload_n 0, 1) := by decide +kernel
theorem dL_law_740 : decode cL_law 740 = .ok (.iload_n 3, 1) := by decide +kernel
theorem dL_law_741 : decode cL_law 741 = .ok (.iconst 2, 1) := by decide +kernel
theorem dL_law_742 : decode cL_law 742 = .ok (.iadd, 1) := by decide +kernel
theorem dL_law_743 : decode cL_law 743 = .ok (.iaload, 1) := by decide +kernel
theorem dL_law_744 : decode cL_law 744 = .ok (.aload_n 0, 1) := by decide +kernel
theorem dL_law_745 : decode cL_law 745 = .ok (.iload_n 3, 1) := by decide +kernel
theorem dL_law_746 : decode cL_law 746 = .ok (.iconst 3, 1) := by decide +kernel
theorem dL_law_747 : decode cL_law 747 = .ok (.iadd, 1) := by decide +kernel
theorem dL_law_748 : decode cL_law 748 = .ok (.iaload, 1) := by decide +kernel
theorem dL_law_749 : decode cL_law 749 = .ok (.ifCond .eq 7, 3) := by decide +kernel
theorem dL_law_752 : decode cL_law 752 = .ok (.iconst 1, 1) := by decide +kernel
theorem dL_law_753 : decode cL_law 753 = .ok (.goto 4, 3) := by decide +kernel
theorem dL_law_756 : decode cL_law 756 = .ok (.iconst 0, 1) := by decide +kernel
theorem dL_law_757 : decode cL_law 757 = .ok (.invokevirtual 79, 3) := by decide +kernel
theorem dL_law_760 : decode cL_law 760 = .ok (.if_icmp .eq 625, 3) := by decide +kernel
theorem dL_law_763 : decode cL_law 763 = .ok (.iconst 0, 1) := by decide +kernel
theorem dL_law_764 : decode cL_law 764 = .ok (.ireturn, 1) := by decide +kernel
theorem dL_law_765 : decode cL_law 765 = .ok (.aload_n 1, 1) := by decide +kernel
theorem dL_law_766 : decode cL_law 766 = .ok (.aload_n 0, 1) := by decide +kernel
theorem dL_law_767 : decode cL_law 767 = .ok (.iload_n 3, 1) := by decide +kernel
theorem dL_law_768 : decode cL_law 768 = .ok (.iconst 1, 1) := by decide +kernel
theorem dL_law_769 : decode cL_law 769 = .ok (.iadd, 1) := by decide +kernel
theorem dL_law_770 : decode cL_law 770 = .ok (.iaload, 1) := by decide +kernel
theorem dL_law_771 : decode cL_law 771 = .ok (.aload_n 0, 1) := by decide +kernel
theorem dL_law_772 : decode cL_law 772 = .ok (.iload_n 3, 1) := by decide +kernel
theorem dL_law_773 : decode cL_law 773 = .ok (.iconst 2, 1) := by decide +kernel
theorem dL_law_774 : decode cL_law 774 = .ok (.iadd, 1) := by decide +kernel
theorem dL_law_775 : decode cL_law 775 = .ok (.iaload, 1) := by decide +kernel
theorem dL_law_776 : decode cL_law 776 = .ok (.invokevirtual 80, 3) := by decide +kernel
theorem dL_law_779 : decode cL_law 779 = .ok (.aload_n 2, 1) := by decide +kernel
theorem dL_law_780 : decode cL_law 780 = .ok (.aload_n 0, 1) := by decide +kernel
theorem dL_law_781 : decode cL_law 781 = .ok (.iload_n 3, 1) := by decide +kernel
theorem dL_law_782 : decode cL_law 782 = .ok (.iconst 1, 1) := by decide +kernel
theorem dL_law_783 : decode cL_law 783 = .ok (.iadd, 1) := by decide +kernel
theorem dL_law_784 : decode cL_law 784 = .ok (.iaload, 1) := by decide +kernel
theorem dL_law_785 : decode cL_law 785 = .ok (.aload_n 0, 1) := by decide +kernel
theorem dL_law_786 : decode cL_law 786 = .ok (.iload_n 3, 1) := by decide +kernel
theorem dL_law_787 : decode cL_law 787 = .ok (.iconst 2, 1) := by decide +kernel
theorem dL_law_788 : decode cL_law 788 = .ok (.iadd, 1) := by decide +kernel
theorem dL_law_789 : decode cL_law 789 = .ok (.iaload, 1) := by decide +kernel
theorem dL_law_790 : decode cL_law 790 = .ok (.invokevirtual 83, 3) := by decide +kernel
theorem dL_law_793 : decode cL_law 793 = .ok (.if_icmp .eq 592, 3) := by decide +kernel
theorem dL_law_796 : decode cL_law 796 = .ok (.iconst 0, 1) := by decide +kernel
theorem dL_law_797 : decode cL_law 797 = .ok (.ireturn, 1) := by decide +kernel
theorem dL_law_798 : decode cL_law 798 = .ok (.aload_n 1, 1) := by decide +kernel
theorem dL_law_799 : decode cL_law 799 = .ok (.aload_n 0, 1) := by decide +kernel
theorem dL_law_800 : decode cL_law 800 = .ok (.iload_n 3, 1) := by decide +kernel
theorem dL_law_801 : decode cL_law 801 = .ok (.iconst 1, 1) := by decide +kernel
theorem dL_law_802 : decode cL_law 802 = .ok (.iadd, 1) := by decide +kernel
theorem dL_law_803 : decode cL_law 803 = .ok (.iaload, 1) := by decide +kernel
theorem dL_law_804 : decode cL_law 804 = .ok (.aload_n 0, 1) := by decide +kernel
theorem dL_law_805 : decode cL_law 805 = .ok (.iload_n 3, 1) := by decide +kernel
theorem dL_law_806 : decode cL_law 806 = .ok (.iconst 2, 1) := by decide +kernel
theorem dL_law_807 : decode cL_law 807 = .ok (.iadd, 1) := by decide +kernel
theorem dL_law_808 : decode cL_law 808 = .ok (.iaload, 1) := by decide +kernel
theorem dL_law_809 : decode cL_law 809 = .ok (.invokevirtual 84, 3) := by decide +kernel
theorem dL_law_812 : decode cL_law 812 = .ok (.aload_n 2, 1) := by decide +kernel
theorem dL_law_813 : decode cL_law 813 = .ok (.aload_n 0, 1) := by decide +kernel
theorem dL_law_814 : decode cL_law 814 = .ok (.iload_n 3, 1) := by decide +kernel
theorem dL_law_815 : decode cL_law 815 = .ok (.iconst 1, 1) := by decide +kernel
theorem dL_law_816 : decode cL_law 816 = .ok (.iadd, 1) := by decide +kernel
theorem dL_law_817 : decode cL_law 817 = .ok (.iaload, 1) := by decide +kernel
theorem dL_law_818 : decode cL_law 818 = .ok (.aload_n 0, 1) := by decide +kernel
theorem dL_law_819 : decode cL_law 819 = .ok (.iload_n 3, 1) := by decide +kernel
theorem dL_law_820 : decode cL_law 820 = .ok (.iconst 2, 1) := by decide +kernel
theorem dL_law_821 : decode cL_law 821 = .ok (.iadd, 1) := by decide +kernel
theorem dL_law_822 : decode cL_law 822 = .ok (.iaload, 1) := by decide +kernel
theorem dL_law_823 : decode cL_law 823 = .ok (.invokevirtual 87, 3) := by decide +kernel
theorem dL_law_826 : decode cL_law 826 = .ok (.if_icmp .eq 559, 3) := by decide +kernel
theorem dL_law_829 : decode cL_law 829 = .ok (.iconst 0, 1) := by decide +kernel
theorem dL_law_830 : decode cL_law 830 = .ok (.ireturn, 1) := by decide +kernel
theorem dL_law_831 : decode cL_law 831 = .ok (.aload_n 1, 1) := by decide +kernel
theorem dL_law_832 : decode cL_law 832 = .ok (.aload_n 0, 1) := by decide +kernel
theorem dL_law_833 : decode cL_law 833 = .ok (.iload_n 3, 1) := by decide +kernel
theorem dL_law_834 : decode cL_law 834 = .ok (.iconst 1, 1) := by decide +kernel
theorem dL_law_835 : decode cL_law 835 = .ok (.iadd, 1) := by decide +kernel
theorem dL_law_836 : decode cL_law 836 = .ok (.iaload, 1) := by decide +kernel
theorem dL_law_837 : decode cL_law 837 = .ok (.aload_n 0, 1) := by decide +kernel
theorem dL_law_838 : decode cL_law 838 = .ok (.iload_n 3, 1) := by decide +kernel
theorem dL_law_839 : decode cL_law 839 = .ok (.iconst 2, 1) := by decide +kernel
theorem dL_law_840 : decode cL_law 840 = .ok (.iadd, 1) := by decide +kernel
theorem dL_law_841 : decode cL_law 841 = .ok (.iaload, 1) := by decide +kernel
theorem dL_law_842 : decode cL_law 842 = .ok (.aload_n 0, 1) := by decide +kernel
theorem dL_law_843 : decode cL_law 843 = .ok (.iload_n 3, 1) := by decide +kernel
theorem dL_law_844 : decode cL_law 844 = .ok (.iconst 3, 1) := by decide +kernel
theorem dL_law_845 : decode cL_law 845 = .ok (.iadd, 1) := by decide +kernel
theorem dL_law_846 : decode cL_law 846 = .ok (.iaload, 1) := by decide +kernel
theorem dL_law_847 : decode cL_law 847 = .ok (.aload_n 0, 1) := by decide +kernel
theorem dL_law_848 : decode cL_law 848 = .ok (.iload_n 3, 1) := by decide +kernel
theorem dL_law_849 : decode cL_law 849 = .ok (.iconst 4, 1) := by decide +kernel
theorem dL_law_850 : decode cL_law 850 = .ok (.iadd, 1) := by decide +kernel
theorem dL_law_851 : decode cL_law 851 = .ok (.iaload, 1) := by decide +kernel
theorem dL_law_852 : decode cL_law 852 = .ok (.aload_n 0, 1) := by decide +kernel
theorem dL_law_853 : decode cL_law 853 = .ok (.iload_n 3, 1) := by decide +kernel
theorem dL_law_854 : decode cL_law 854 = .ok (.iconst 5, 1) := by decide +kernel
theorem dL_law_855 : decode cL_law 855 = .ok (.iadd, 1) := by decide +kernel
theorem dL_law_856 : decode cL_law 856 = .ok (.iaload, 1) := by decide +kernel
theorem dL_law_857 : decode cL_law 857 = .ok (.aload_n 0, 1) := by decide +kernel
theorem dL_law_858 : decode cL_law 858 = .ok (.iload_n 3, 1) := by decide +kernel
theorem dL_law_859 : decode cL_law 859 = .ok (.bipush 6, 2) := by decide +kernel
theorem dL_law_861 : decode cL_law 861 = .ok (.iadd, 1) := by decide +kernel
theorem dL_law_862 : decode cL_law 862 = .ok (.iaload, 1) := by decide +kernel
theorem dL_law_863 : decode cL_law 863 = .ok (.ifCond .eq 7, 3) := by decide +kernel
theorem dL_law_866 : decode cL_law 866 = .ok (.iconst 1, 1) := by decide +kernel
theorem dL_law_867 : decode cL_law 867 = .ok (.goto 4, 3) := by decide +kernel
theorem dL_law_870 : decode cL_law 870 = .ok (.iconst 0, 1) := by decide +kernel
theorem dL_law_871 : decode cL_law 871 = .ok (.aload_n 0, 1) := by decide +kernel
theorem dL_law_872 : decode cL_law 872 = .ok (.iload_n 3, 1) := by decide +kernel
theorem dL_law_873 : decode cL_law 873 = .ok (.bipush 7, 2) := by decide +kernel
theorem dL_law_875 : decode cL_law 875 = .ok (.iadd, 1) := by decide +kernel
theorem dL_law_876 : decode cL_law 876 = .ok (.iaload, 1) := by decide +kernel
theorem dL_law_877 : decode cL_law 877 = .ok (.aload_n 0, 1) := by decide +kernel
theorem dL_law_878 : decode cL_law 878 = .ok (.iload_n 3, 1) := by decide +kernel
theorem dL_law_879 : decode cL_law 879 = .ok (.bipush 8, 2) := by decide +kernel
theorem dL_law_881 : decode cL_law 881 = .ok (.iadd, 1) := by decide +kernel
theorem dL_law_882 : decode cL_law 882 = .ok (.iaload, 1) := by decide +kernel
theorem dL_law_883 : decode cL_law 883 = .ok (.i2l, 1) := by decide +kernel
theorem dL_law_884 : decode cL_law 884 = .ok (.bipush 32, 2) := by decide +kernel
theorem dL_law_886 : decode cL_law 886 = .ok (.lshl, 1) := by decide +kernel
theorem dL_law_887 : decode cL_law 887 = .ok (.aload_n 0, 1) := by decide +kernel
theorem dL_law_888 : decode cL_law 888 = .ok (.iload_n 3, 1) := by decide +kernel
theorem dL_law_889 : decode cL_law 889 = .ok (.bipush 9, 2) := by decide +kernel
theorem dL_law_891 : decode cL_law 891 = .ok (.iadd, 1) := by decide +kernel
theorem dL_law_892 : decode cL_law 892 = .ok (.iaload, 1) := by decide +kernel
theorem dL_law_893 : decode cL_law 893 = .ok (.i2l, 1) := by decide +kernel
theorem dL_law_894 : decode cL_law 894 = .ok (.ldc2_w 23, 3) := by decide +kernel
theorem dL_law_897 : decode cL_law 897 = .ok (.land, 1) := by decide +kernel
theorem dL_law_898 : decode cL_law 898 = .ok (.lor, 1) := by decide +kernel
theorem dL_law_899 : decode cL_law 899 = .ok (.invokevirtual 88, 3) := by decide +kernel
theorem dL_law_902 : decode cL_law 902 = .ok (.aload_n 2, 1) := by decide +kernel
theorem dL_law_903 : decode cL_law 903 = .ok (.aload_n 0, 1) := by decide +kernel
theorem dL_law_904 : decode cL_law 904 = .ok (.iload_n 3, 1) := by decide +kernel
theorem dL_law_905 : decode cL_law 905 = .ok (.iconst 1, 1) := by decide +kernel
theorem dL_law_906 : decode cL_law 906 = .ok (.iadd, 1) := by decide +kernel
theorem dL_law_907 : decode cL_law 907 = .ok (.iaload, 1) := by decide +kernel
theorem dL_law_908 : decode cL_law 908 = .ok (.aload_n 0, 1) := by decide +kernel
theorem dL_law_909 : decode cL_law 909 = .ok (.iload_n 3, 1) := by decide +kernel
theorem dL_law_910 : decode cL_law 910 = .ok (.iconst 2, 1) := by decide +kernel
theorem dL_law_911 : decode cL_law 911 = .ok (.iadd, 1) := by decide +kernel
theorem dL_law_912 : decode cL_law 912 = .ok (.iaload, 1) := by decide +kernel
theorem dL_law_913 : decode cL_law 913 = .ok (.aload_n 0, 1) := by decide +kernel
theorem dL_law_914 : decode cL_law 914 = .ok (.iload_n 3, 1) := by decide +kernel
theorem dL_law_915 : decode cL_law 915 = .ok (.iconst 3, 1) := by decide +kernel
theorem dL_law_916 : decode cL_law 916 = .ok (.iadd, 1) := by decide +kernel
theorem dL_law_917 : decode cL_law 917 = .ok (.iaload, 1) := by decide +kernel
theorem dL_law_918 : decode cL_law 918 = .ok (.aload_n 0, 1) := by decide +kernel
theorem dL_law_919 : decode cL_law 919 = .ok (.iload_n 3, 1) := by decide +kernel
theorem dL_law_920 : decode cL_law 920 = .ok (.iconst 4, 1) := by decide +kernel
theorem dL_law_921 : decode cL_law 921 = .ok (.iadd, 1) := by decide +kernel
theorem dL_law_922 : decode cL_law 922 = .ok (.iaload, 1) := by decide +kernel
theorem dL_law_923 : decode cL_law 923 = .ok (.aload_n 0, 1) := by decide +kernel
theorem dL_law_924 : decode cL_law 924 = .ok (.iload_n 3, 1) := by decide +kernel
theorem dL_law_925 : decode cL_law 925 = .ok (.iconst 5, 1) := by decide +kernel
theorem dL_law_926 : decode cL_law 926 = .ok (.iadd, 1) := by decide +kernel
theorem dL_law_927 : decode cL_law 927 = .ok (.iaload, 1) := by decide +kernel
theorem dL_law_928 : decode cL_law 928 = .ok (.aload_n 0, 1) := by decide +kernel
theorem dL_law_929 : decode cL_law 929 = .ok (.iload_n 3, 1) := by decide +kernel
theorem dL_law_930 : decode cL_law 930 = .ok (.bipush 6, 2) := by decide +kernel
theorem dL_law_932 : decode cL_law 932 = .ok (.iadd, 1) := by decide +kernel
theorem dL_law_933 : decode cL_law 933 = .ok (.iaload, 1) := by decide +kernel
theorem dL_law_934 : decode cL_law 934 = .ok (.ifCond .eq 7, 3) := by decide +kernel
theorem dL_law_937 : decode cL_law 937 = .ok (.iconst 1, 1) := by decide +kernel
theorem dL_law_938 : decode cL_law 938 = .ok (.goto 4, 3) := by decide +kernel
theorem dL_law_941 : decode cL_law 941 = .ok (.iconst 0, 1) := by decide +kernel
theorem dL_law_942 : decode cL_law 942 = .ok (.aload_n 0, 1) := by decide +kernel
theorem dL_law_943 : decode cL_law 943 = .ok (.iload_n 3, 1) := by decide +kernel
theorem dL_law_944 : decode cL_law 944 = .ok (.bipush 7, 2) := by decide +kernel
theorem dL_law_946 : decode cL_law 946 = .ok (.iadd, 1) := by decide +kernel
theorem dL_law_947 : decode cL_law 947 = .ok (.iaload, 1) := by decide +kernel
theorem dL_law_948 : decode cL_law 948 = .ok (.aload_n 0, 1) := by decide +kernel
theorem dL_law_949 : decode cL_law 949 = .ok (.iload_n 3, 1) := by decide +kernel
theorem dL_law_950 : decode cL_law 950 = .ok (.bipush 8, 2) := by decide +kernel
theorem dL_law_952 : decode cL_law 952 = .ok (.iadd, 1) := by decide +kernel
theorem dL_law_953 : decode cL_law 953 = .ok (.iaload, 1) := by decide +kernel
theorem dL_law_954 : decode cL_law 954 = .ok (.i2l, 1) := by decide +kernel
theorem dL_law_955 : decode cL_law 955 = .ok (.bipush 32, 2) := by decide +kernel
theorem dL_law_957 : decode cL_law 957 = .ok (.lshl, 1) := by decide +kernel
theorem dL_law_958 : decode cL_law 958 = .ok (.aload_n 0, 1) := by decide +kernel
theorem dL_law_959 : decode cL_law 959 = .ok (.iload_n 3, 1) := by decide +kernel
theorem dL_law_960 : decode cL_law 960 = .ok (.bipush 9, 2) := by decide +kernel
theorem dL_law_962 : decode cL_law 962 = .ok (.iadd, 1) := by decide +kernel
theorem dL_law_963 : decode cL_law 963 = .ok (.iaload, 1) := by decide +kernel
theorem dL_law_964 : decode cL_law 964 = .ok (.i2l, 1) := by decide +kernel
theorem dL_law_965 : decode cL_law 965 = .ok (.ldc2_w 23, 3) := by decide +kernel
theorem dL_law_968 : decode cL_law 968 = .ok (.land, 1) := by decide +kernel
theorem dL_law_969 : decode cL_law 969 = .ok (.lor, 1) := by decide +kernel
theorem dL_law_970 : decode cL_law 970 = .ok (.invokevirtual 92, 3) := by decide +kernel
theorem dL_law_973 : decode cL_law 973 = .ok (.if_icmp .eq 412, 3) := by decide +kernel
theorem dL_law_976 : decode cL_law 976 = .ok (.iconst 0, 1) := by decide +kernel
theorem dL_law_977 : decode cL_law 977 = .ok (.ireturn, 1) := by decide +kernel
theorem dL_law_978 : decode cL_law 978 = .ok (.aload_n 1, 1) := by decide +kernel
theorem dL_law_979 : decode cL_law 979 = .ok (.aload_n 0, 1) := by decide +kernel
theorem dL_law_980 : decode cL_law 980 = .ok (.iload_n 3, 1) := by decide +kernel
theorem dL_law_981 : decode cL_law 981 = .ok (.iconst 1, 1) := by decide +kernel
theorem dL_law_982 : decode cL_law 982 = .ok (.iadd, 1) := by decide +kernel
theorem dL_law_983 : decode cL_law 983 = .ok (.iaload, 1) := by decide +kernel
theorem dL_law_984 : decode cL_law 984 = .ok (.aload_n 0, 1) := by decide +kernel
theorem dL_law_985 : decode cL_law 985 = .ok (.iload_n 3, 1) := by decide +kernel
theorem dL_law_986 : decode cL_law 986 = .ok (.iconst 2, 1) := by decide +kernel
theorem dL_law_987 : decode cL_law 987 = .ok (.iadd, 1) := by decide +kernel
theorem dL_law_988 : decode cL_law 988 = .ok (.iaload, 1) := by decide +kernel
theorem dL_law_989 : decode cL_law 989 = .ok (.aload_n 0, 1) := by decide +kernel
theorem dL_law_990 : decode cL_law 990 = .ok (.iload_n 3, 1) := by decide +kernel
theorem dL_law_991 : decode cL_law 991 = .ok (.iconst 3, 1) := by decide +kernel
theorem dL_law_992 : decode cL_law 992 = .ok (.iadd, 1) := by decide +kernel
theorem dL_law_993 : decode cL_law 993 = .ok (.iaload, 1) := by decide +kernel
theorem dL_law_994 : decode cL_law 994 = .ok (.invokevirtual 93, 3) := by decide +kernel
theorem dL_law_997 : decode cL_law 997 = .ok (.aload_n 2, 1) := by decide +kernel
theorem dL_law_998 : decode cL_law 998 = .ok (.aload_n 0, 1) := by decide +kernel
theorem dL_law_999 : decode cL_law 999 = .ok (.iload_n 3, 1) := by decide +kernel
theorem dL_law_1000 : decode cL_law 1000 = .ok (.iconst 1, 1) := by decide +kernel
theorem dL_law_1001 : decode cL_law 1001 = .ok (.iadd, 1) := by decide +kernel
theorem dL_law_1002 : decode cL_law 1002 = .ok (.iaload, 1) := by decide +kernel
theorem dL_law_1003 : decode cL_law 1003 = .ok (.aload_n 0, 1) := by decide +kernel
theorem dL_law_1004 : decode cL_law 1004 = .ok (.iload_n 3, 1) := by decide +kernel
theorem dL_law_1005 : decode cL_law 1005 = .ok (.iconst 2, 1) := by decide +kernel
theorem dL_law_1006 : decode cL_law 1006 = .ok (.iadd, 1) := by decide +kernel
theorem dL_law_1007 : decode cL_law 1007 = .ok (.iaload, 1) := by decide +kernel
theorem dL_law_1008 : decode cL_law 1008 = .ok (.aload_n 0, 1) := by decide +kernel
theorem dL_law_1009 : decode cL_law 1009 = .ok (.iload_n 3, 1) := by decide +kernel
theorem dL_law_1010 : decode cL_law 1010 = .ok (.iconst 3, 1) := by decide +kernel
theorem dL_law_1011 : decode cL_law 1011 = .ok (.iadd, 1) := by decide +kernel
theorem dL_law_1012 : decode cL_law 1012 = .ok (.iaload, 1) := by decide +kernel
theorem dL_law_1013 : decode cL_law 1013 = .ok (.invokevirtual 96, 3) := by decide +kernel
theorem dL_law_1016 : decode cL_law 1016 = .ok (.if_icmp .eq 369, 3) := by decide +kernel
theorem dL_law_1019 : decode cL_law 1019 = .ok (.iconst 0, 1) := by decide +kernel
theorem dL_law_1020 : decode cL_law 1020 = .ok (.ireturn, 1) := by decide +kernel
theorem dL_law_1021 : decode cL_law 1021 = .ok (.aload_n 1, 1) := by decide +kernel
theorem dL_law_1022 : decode cL_law 1022 = .ok (.aload_n 0, 1) := by decide +kernel
theorem dL_law_1023 : decode cL_law 1023 = .ok (.iload_n 3, 1) := by decide +kernel
theorem dL_law_1024 : decode cL_law 1024 = .ok (.iconst 1, 1) := by decide +kernel
theorem dL_law_1025 : decode cL_law 1025 = .ok (.iadd, 1) := by decide +kernel
theorem dL_law_1026 : decode cL_law 1026 = .ok (.iaload, 1) := by decide +kernel
theorem dL_law_1027 : decode cL_law 1027 = .ok (.aload_n 0, 1) := by decide +kernel
theorem dL_law_1028 : decode cL_law 1028 = .ok (.iload_n 3, 1) := by decide +kernel
theorem dL_law_1029 : decode cL_law 1029 = .ok (.iconst 2, 1) := by decide +kernel
theorem dL_law_1030 : decode cL_law 1030 = .ok (.iadd, 1) := by decide +kernel
theorem dL_law_1031 : decode cL_law 1031 = .ok (.iaload, 1) := by decide +kernel
theorem dL_law_1032 : decode cL_law 1032 = .ok (.invokevirtual 97, 3) := by decide +kernel
theorem dL_law_1035 : decode cL_law 1035 = .ok (.aload_n 2, 1) := by decide +kernel
theorem dL_law_1036 : decode cL_law 1036 = .ok (.aload_n 0, 1) := by decide +kernel
theorem dL_law_1037 : decode cL_law 1037 = .ok (.iload_n 3, 1) := by decide +kernel
theorem dL_law_1038 : decode cL_law 1038 = .ok (.iconst 1, 1) := by decide +kernel
theorem dL_law_1039 : decode cL_law 1039 = .ok (.iadd, 1) := by decide +kernel
theorem dL_law_1040 : decode cL_law 1040 = .ok (.iaload, 1) := by decide +kernel
theorem dL_law_1041 : decode cL_law 1041 = .ok (.aload_n 0, 1) := by decide +kernel
theorem dL_law_1042 : decode cL_law 1042 = .ok (.iload_n 3, 1) := by decide +kernel
theorem dL_law_1043 : decode cL_law 1043 = .ok (.iconst 2, 1) := by decide +kernel
theorem dL_law_1044 : decode cL_law 1044 = .ok (.iadd, 1) := by decide +kernel
theorem dL_law_1045 : decode cL_law 1045 = .ok (.iaload, 1) := by decide +kernel
theorem dL_law_1046 : decode cL_law 1046 = .ok (.invokevirtual 100, 3) := by decide +kernel
theorem dL_law_1049 : decode cL_law 1049 = .ok (.if_icmp .eq 336, 3) := by decide +kernel
theorem dL_law_1052 : decode cL_law 1052 = .ok (.iconst 0, 1) := by decide +kernel
theorem dL_law_1053 : decode cL_law 1053 = .ok (.ireturn, 1) := by decide +kernel
theorem dL_law_1054 : decode cL_law 1054 = .ok (.aload_n 1, 1) := by decide +kernel
theorem dL_law_1055 : decode cL_law 1055 = .ok (.aload_n 0, 1) := by decide +kernel
theorem dL_law_1056 : decode cL_law 1056 = .ok (.iload_n 3, 1) := by decide +kernel
theorem dL_law_1057 : decode cL_law 1057 = .ok (.iconst 1, 1) := by decide +kernel
theorem dL_law_1058 : decode cL_law 1058 = .ok (.iadd, 1) := by decide +kernel
theorem dL_law_1059 : decode cL_law 1059 = .ok (.iaload, 1) := by decide +kernel
theorem dL_law_1060 : decode cL_law 1060 = .ok (.aload_n 0, 1) := by decide +kernel
theorem dL_law_1061 : decode cL_law 1061 = .ok (.iload_n 3, 1) := by decide +kernel
theorem dL_law_1062 : decode cL_law 1062 = .ok (.iconst 2, 1) := by decide +kernel
theorem dL_law_1063 : decode cL_law 1063 = .ok (.iadd, 1) := by decide +kernel
theorem dL_law_1064 : decode cL_law 1064 = .ok (.iaload, 1) := by decide +kernel
theorem dL_law_1065 : decode cL_law 1065 = .ok (.aload_n 0, 1) := by decide +kernel
theorem dL_law_1066 : decode cL_law 1066 = .ok (.iload_n 3, 1) := by decide +kernel
theorem dL_law_1067 : decode cL_law 1067 = .ok (.iconst 3, 1) := by decide +kernel
theorem dL_law_1068 : decode cL_law 1068 = .ok (.iadd, 1) := by decide +kernel
theorem dL_law_1069 : decode cL_law 1069 = .ok (.iaload, 1) := by decide +kernel
theorem dL_law_1070 : decode cL_law 1070 = .ok (.invokevirtual 101, 3) := by decide +kernel
theorem dL_law_1073 : decode cL_law 1073 = .ok (.aload_n 2, 1) := by decide +kernel
theorem dL_law_1074 : decode cL_law 1074 = .ok (.aload_n 0, 1) := by decide +kernel
theorem dL_law_1075 : decode cL_law 1075 = .ok (.iload_n 3, 1) := by decide +kernel
theorem dL_law_1076 : decode cL_law 1076 = .ok (.iconst 1, 1) := by decide +kernel
theorem dL_law_1077 : decode cL_law 1077 = .ok (.iadd, 1) := by decide +kernel
theorem dL_law_1078 : decode cL_law 1078 = .ok (.iaload, 1) := by decide +kernel
theorem dL_law_1079 : decode cL_law 1079 = .ok (.aload_n 0, 1) := by decide +kernel
theorem dL_law_1080 : decode cL_law 1080 = .ok (.iload_n 3, 1) := by decide +kernel
theorem dL_law_1081 : decode cL_law 1081 = .ok (.iconst 2, 1) := by decide +kernel
theorem dL_law_1082 : decode cL_law 1082 = .ok (.iadd, 1) := by decide +kernel
theorem dL_law_1083 : decode cL_law 1083 = .ok (.iaload, 1) := by decide +kernel
theorem dL_law_1084 : decode cL_law 1084 = .ok (.aload_n 0, 1) := by decide +kernel
theorem dL_law_1085 : decode cL_law 1085 = .ok (.iload_n 3, 1) := by decide +kernel
theorem dL_law_1086 : decode cL_law 1086 = .ok (.iconst 3, 1) := by decide +kernel
theorem dL_law_1087 : decode cL_law 1087 = .ok (.iadd, 1) := by decide +kernel
theorem dL_law_1088 : decode cL_law 1088 = .ok (.iaload, 1) := by decide +kernel
theorem dL_law_1089 : decode cL_law 1089 = .ok (.invokevirtual 104, 3) := by decide +kernel
theorem dL_law_1092 : decode cL_law 1092 = .ok (.if_icmp .eq 293, 3) := by decide +kernel
theorem dL_law_1095 : decode cL_law 1095 = .ok (.iconst 0, 1) := by decide +kernel
theorem dL_law_1096 : decode cL_law 1096 = .ok (.ireturn, 1) := by decide +kernel
theorem dL_law_1097 : decode cL_law 1097 = .ok (.aload_n 1, 1) := by decide +kernel
theorem dL_law_1098 : decode cL_law 1098 = .ok (.invokevirtual 105, 3) := by decide +kernel
theorem dL_law_1101 : decode cL_law 1101 = .ok (.aload_n 2, 1) := by decide +kernel
theorem dL_law_1102 : decode cL_law 1102 = .ok (.invokevirtual 109, 3) := by decide +kernel
theorem dL_law_1105 : decode cL_law 1105 = .ok (.if_icmp .eq 280, 3) := by decide +kernel
theorem dL_law_1108 : decode cL_law 1108 = .ok (.iconst 0, 1) := by decide +kernel
theorem dL_law_1109 : decode cL_law 1109 = .ok (.ireturn, 1) := by decide +kernel
theorem dL_law_1110 : decode cL_law 1110 = .ok (.aload_n 1, 1) := by decide +kernel
theorem dL_law_1111 : decode cL_law 1111 = .ok (.aload_n 0, 1) := by decide +kernel
theorem dL_law_1112 : decode cL_law 1112 = .ok (.iload_n 3, 1) := by decide +kernel
theorem dL_law_1113 : decode cL_law 1113 = .ok (.iconst 1, 1) := by decide +kernel
theorem dL_law_1114 : decode cL_law 1114 = .ok (.iadd, 1) := by decide +kernel
theorem dL_law_1115 : decode cL_law 1115 = .ok (.iaload, 1) := by decide +kernel
theorem dL_law_1116 : decode cL_law 1116 = .ok (.aload_n 0, 1) := by decide +kernel
theorem dL_law_1117 : decode cL_law 1117 = .ok (.iload_n 3, 1) := by decide +kernel
theorem dL_law_1118 : decode cL_law 1118 = .ok (.iconst 2, 1) := by decide +kernel
theorem dL_law_1119 : decode cL_law 1119 = .ok (.iadd, 1) := by decide +kernel
theorem dL_law_1120 : decode cL_law 1120 = .ok (.iaload, 1) := by decide +kernel
theorem dL_law_1121 : decode cL_law 1121 = .ok (.aload_n 0, 1) := by decide +kernel
theorem dL_law_1122 : decode cL_law 1122 = .ok (.iload_n 3, 1) := by decide +kernel
theorem dL_law_1123 : decode cL_law 1123 = .ok (.iconst 3, 1) := by decide +kernel
theorem dL_law_1124 : decode cL_law 1124 = .ok (.iadd, 1) := by decide +kernel
theorem dL_law_1125 : decode cL_law 1125 = .ok (.iaload, 1) := by decide +kernel
theorem dL_law_1126 : decode cL_law 1126 = .ok (.invokevirtual 110, 3) := by decide +kernel
theorem dL_law_1129 : decode cL_law 1129 = .ok (.aload_n 2, 1) := by decide +kernel
theorem dL_law_1130 : decode cL_law 1130 = .ok (.aload_n 0, 1) := by decide +kernel
theorem dL_law_1131 : decode cL_law 1131 = .ok (.iload_n 3, 1) := by decide +kernel
theorem dL_law_1132 : decode cL_law 1132 = .ok (.iconst 1, 1) := by decide +kernel
theorem dL_law_1133 : decode cL_law 1133 = .ok (.iadd, 1) := by decide +kernel
theorem dL_law_1134 : decode cL_law 1134 = .ok (.iaload, 1) := by decide +kernel
theorem dL_law_1135 : decode cL_law 1135 = .ok (.aload_n 0, 1) := by decide +kernel
theorem dL_law_1136 : decode cL_law 1136 = .ok (.iload_n 3, 1) := by decide +kernel
theorem dL_law_1137 : decode cL_law 1137 = .ok (.iconst 2, 1) := by decide +kernel
theorem dL_law_1138 : decode cL_law 1138 = .ok (.iadd, 1) := by decide +kernel
theorem dL_law_1139 : decode cL_law 1139 = .ok (.iaload, 1) := by decide +kernel
theorem dL_law_1140 : decode cL_law 1140 = .ok (.aload_n 0, 1) := by decide +kernel
theorem dL_law_1141 : decode cL_law 1141 = .ok (.iload_n 3, 1) := by decide +kernel
theorem dL_law_1142 : decode cL_law 1142 = .ok (.iconst 3, 1) := by decide +kernel
theorem dL_law_1143 : decode cL_law 1143 = .ok (.iadd, 1) := by decide +kernel
theorem dL_law_1144 : decode cL_law 1144 = .ok (.iaload, 1) := by decide +kernel
theorem dL_law_1145 : decode cL_law 1145 = .ok (.invokevirtual 113, 3) := by decide +kernel
theorem dL_law_1148 : decode cL_law 1148 = .ok (.if_icmp .eq 237, 3) := by decide +kernel
theorem dL_law_1151 : decode cL_law 1151 = .ok (.iconst 0, 1) := by decide +kernel
theorem dL_law_1152 : decode cL_law 1152 = .ok (.ireturn, 1) := by decide +kernel
theorem dL_law_1153 : decode cL_law 1153 = .ok (.aload_n 1, 1) := by decide +kernel
theorem dL_law_1154 : decode cL_law 1154 = .ok (.aload_n 0, 1) := by decide +kernel
theorem dL_law_1155 : decode cL_law 1155 = .ok (.iload_n 3, 1) := by decide +kernel
theorem dL_law_1156 : decode cL_law 1156 = .ok (.iconst 1, 1) := by decide +kernel
theorem dL_law_1157 : decode cL_law 1157 = .ok (.iadd, 1) := by decide +kernel
theorem dL_law_1158 : decode cL_law 1158 = .ok (.iaload, 1) := by decide +kernel
theorem dL_law_1159 : decode cL_law 1159 = .ok (.aload_n 0, 1) := by decide +kernel
theorem dL_law_1160 : decode cL_law 1160 = .ok (.iload_n 3, 1) := by decide +kernel
theorem dL_law_1161 : decode cL_law 1161 = .ok (.iconst 2, 1) := by decide +kernel
theorem dL_law_1162 : decode cL_law 1162 = .ok (.iadd, 1) := by decide +kernel
theorem dL_law_1163 : decode cL_law 1163 = .ok (.iaload, 1) := by decide +kernel
theorem dL_law_1164 : decode cL_law 1164 = .ok (.invokevirtual 114, 3) := by decide +kernel
theorem dL_law_1167 : decode cL_law 1167 = .ok (.aload_n 2, 1) := by decide +kernel
theorem dL_law_1168 : decode cL_law 1168 = .ok (.aload_n 0, 1) := by decide +kernel
theorem dL_law_1169 : decode cL_law 1169 = .ok (.iload_n 3, 1) := by decide +kernel
theorem dL_law_1170 : decode cL_law 1170 = .ok (.iconst 1, 1) := by decide +kernel
theorem dL_law_1171 : decode cL_law 1171 = .ok (.iadd, 1) := by decide +kernel
theorem dL_law_1172 : decode cL_law 1172 = .ok (.iaload, 1) := by decide +kernel
theorem dL_law_1173 : decode cL_law 1173 = .ok (.aload_n 0, 1) := by decide +kernel
theorem dL_law_1174 : decode cL_law 1174 = .ok (.iload_n 3, 1) := by decide +kernel
theorem dL_law_1175 : decode cL_law 1175 = .ok (.iconst 2, 1) := by decide +kernel
theorem dL_law_1176 : decode cL_law 1176 = .ok (.iadd, 1) := by decide +kernel
theorem dL_law_1177 : decode cL_law 1177 = .ok (.iaload, 1) := by decide +kernel
theorem dL_law_1178 : decode cL_law 1178 = .ok (.invokevirtual 117, 3) := by decide +kernel
theorem dL_law_1181 : decode cL_law 1181 = .ok (.if_icmp .eq 204, 3) := by decide +kernel
theorem dL_law_1184 : decode cL_law 1184 = .ok (.iconst 0, 1) := by decide +kernel
theorem dL_law_1185 : decode cL_law 1185 = .ok (.ireturn, 1) := by decide +kernel
theorem dL_law_1186 : decode cL_law 1186 = .ok (.aload_n 1, 1) := by decide +kernel
theorem dL_law_1187 : decode cL_law 1187 = .ok (.aload_n 0, 1) := by decide +kernel
theorem dL_law_1188 : decode cL_law 1188 = .ok (.iload_n 3, 1) := by decide +kernel
theorem dL_law_1189 : decode cL_law 1189 = .ok (.iconst 1, 1) := by decide +kernel
theorem dL_law_1190 : decode cL_law 1190 = .ok (.iadd, 1) := by decide +kernel
theorem dL_law_1191 : decode cL_law 1191 = .ok (.iaload, 1) := by decide +kernel
theorem dL_law_1192 : decode cL_law 1192 = .ok (.aload_n 0, 1) := by decide +kernel
theorem dL_law_1193 : decode cL_law 1193 = .ok (.iload_n 3, 1) := by decide +kernel
theorem dL_law_1194 : decode cL_law 1194 = .ok (.iconst 2, 1) := by decide +kernel
theorem dL_law_1195 : decode cL_law 1195 = .ok (.iadd, 1) := by decide +kernel
theorem dL_law_1196 : decode cL_law 1196 = .ok (.iaload, 1) := by decide +kernel
theorem dL_law_1197 : decode cL_law 1197 = .ok (.invokevirtual 118, 3) := by decide +kernel
theorem dL_law_1200 : decode cL_law 1200 = .ok (.aload_n 2, 1) := by decide +kernel
theorem dL_law_1201 : decode cL_law 1201 = .ok (.aload_n 0, 1) := by decide +kernel
theorem dL_law_1202 : decode cL_law 1202 = .ok (.iload_n 3, 1) := by decide +kernel
theorem dL_law_1203 : decode cL_law 1203 = .ok (.iconst 1, 1) := by decide +kernel
theorem dL_law_1204 : decode cL_law 1204 = .ok (.iadd, 1) := by decide +kernel
theorem dL_law_1205 : decode cL_law 1205 = .ok (.iaload, 1) := by decide +kernel
theorem dL_law_1206 : decode cL_law 1206 = .ok (.aload_n 0, 1) := by decide +kernel
theorem dL_law_1207 : decode cL_law 1207 = .ok (.iload_n 3, 1) := by decide +kernel
theorem dL_law_1208 : decode cL_law 1208 = .ok (.iconst 2, 1) := by decide +kernel
theorem dL_law_1209 : decode cL_law 1209 = .ok (.iadd, 1) := by decide +kernel
theorem dL_law_1210 : decode cL_law 1210 = .ok (.iaload, 1) := by decide +kernel
theorem dL_law_1211 : decode cL_law 1211 = .ok (.invokevirtual 121, 3) := by decide +kernel
theorem dL_law_1214 : decode cL_law 1214 = .ok (.if_icmp .eq 171, 3) := by decide +kernel
theorem dL_law_1217 : decode cL_law 1217 = .ok (.iconst 0, 1) := by decide +kernel
theorem dL_law_1218 : decode cL_law 1218 = .ok (.ireturn, 1) := by decide +kernel
theorem dL_law_1219 : decode cL_law 1219 = .ok (.aload_n 1, 1) := by decide +kernel
theorem dL_law_1220 : decode cL_law 1220 = .ok (.aload_n 0, 1) := by decide +kernel
theorem dL_law_1221 : decode cL_law 1221 = .ok (.iload_n 3, 1) := by decide +kernel
theorem dL_law_1222 : decode cL_law 1222 = .ok (.iconst 1, 1) := by decide +kernel
theorem dL_law_1223 : decode cL_law 1223 = .ok (.iadd, 1) := by decide +kernel
theorem dL_law_1224 : decode cL_law 1224 = .ok (.iaload, 1) := by decide +kernel
theorem dL_law_1225 : decode cL_law 1225 = .ok (.aload_n 0, 1) := by decide +kernel
theorem dL_law_1226 : decode cL_law 1226 = .ok (.iload_n 3, 1) := by decide +kernel
theorem dL_law_1227 : decode cL_law 1227 = .ok (.iconst 2, 1) := by decide +kernel
theorem dL_law_1228 : decode cL_law 1228 = .ok (.iadd, 1) := by decide +kernel
theorem dL_law_1229 : decode cL_law 1229 = .ok (.iaload, 1) := by decide +kernel
theorem dL_law_1230 : decode cL_law 1230 = .ok (.aload_n 0, 1) := by decide +kernel
theorem dL_law_1231 : decode cL_law 1231 = .ok (.iload_n 3, 1) := by decide +kernel
theorem dL_law_1232 : decode cL_law 1232 = .ok (.iconst 3, 1) := by decide +kernel
theorem dL_law_1233 : decode cL_law 1233 = .ok (.iadd, 1) := by decide +kernel
theorem dL_law_1234 : decode cL_law 1234 = .ok (.iaload, 1) := by decide +kernel
theorem dL_law_1235 : decode cL_law 1235 = .ok (.invokevirtual 122, 3) := by decide +kernel
theorem dL_law_1238 : decode cL_law 1238 = .ok (.aload_n 2, 1) := by decide +kernel
theorem dL_law_1239 : decode cL_law 1239 = .ok (.aload_n 0, 1) := by decide +kernel
theorem dL_law_1240 : decode cL_law 1240 = .ok (.iload_n 3, 1) := by decide +kernel
theorem dL_law_1241 : decode cL_law 1241 = .ok (.iconst 1, 1) := by decide +kernel
theorem dL_law_1242 : decode cL_law 1242 = .ok (.iadd, 1) := by decide +kernel
theorem dL_law_1243 : decode cL_law 1243 = .ok (.iaload, 1) := by decide +kernel
theorem dL_law_1244 : decode cL_law 1244 = .ok (.aload_n 0, 1) := by decide +kernel
theorem dL_law_1245 : decode cL_law 1245 = .ok (.iload_n 3, 1) := by decide +kernel
theorem dL_law_1246 : decode cL_law 1246 = .ok (.iconst 2, 1) := by decide +kernel
theorem dL_law_1247 : decode cL_law 1247 = .ok (.iadd, 1) := by decide +kernel
theorem dL_law_1248 : decode cL_law 1248 = .ok (.iaload, 1) := by decide +kernel
theorem dL_law_1249 : decode cL_law 1249 = .ok (.aload_n 0, 1) := by decide +kernel
theorem dL_law_1250 : decode cL_law 1250 = .ok (.iload_n 3, 1) := by decide +kernel
theorem dL_law_1251 : decode cL_law 1251 = .ok (.iconst 3, 1) := by decide +kernel
theorem dL_law_1252 : decode cL_law 1252 = .ok (.iadd, 1) := by decide +kernel
theorem dL_law_1253 : decode cL_law 1253 = .ok (.iaload, 1) := by decide +kernel
theorem dL_law_1254 : decode cL_law 1254 = .ok (.invokevirtual 126, 3) := by decide +kernel
theorem dL_law_1257 : decode cL_law 1257 = .ok (.lcmp, 1) := by decide +kernel
theorem dL_law_1258 : decode cL_law 1258 = .ok (.ifCond .eq 127, 3) := by decide +kernel
theorem dL_law_1261 : decode cL_law 1261 = .ok (.iconst 0, 1) := by decide +kernel
theorem dL_law_1262 : decode cL_law 1262 = .ok (.ireturn, 1) := by decide +kernel
theorem dL_law_1263 : decode cL_law 1263 = .ok (.aload_n 1, 1) := by decide +kernel
theorem dL_law_1264 : decode cL_law 1264 = .ok (.aload_n 0, 1) := by decide +kernel
theorem dL_law_1265 : decode cL_law 1265 = .ok (.iload_n 3, 1) := by decide +kernel
theorem dL_law_1266 : decode cL_law 1266 = .ok (.iconst 1, 1) := by decide +kernel
theorem dL_law_1267 : decode cL_law 1267 = .ok (.iadd, 1) := by decide +kernel
theorem dL_law_1268 : decode cL_law 1268 = .ok (.iaload, 1) := by decide +kernel
theorem dL_law_1269 : decode cL_law 1269 = .ok (.aload_n 0, 1) := by decide +kernel
theorem dL_law_1270 : decode cL_law 1270 = .ok (.iload_n 3, 1) := by decide +kernel
theorem dL_law_1271 : decode cL_law 1271 = .ok (.iconst 2, 1) := by decide +kernel
theorem dL_law_1272 : decode cL_law 1272 = .ok (.iadd, 1) := by decide +kernel
theorem dL_law_1273 : decode cL_law 1273 = .ok (.iaload, 1) := by decide +kernel
theorem dL_law_1274 : decode cL_law 1274 = .ok (.invokevirtual 127, 3) := by decide +kernel
theorem dL_law_1277 : decode cL_law 1277 = .ok (.aload_n 2, 1) := by decide +kernel
theorem dL_law_1278 : decode cL_law 1278 = .ok (.aload_n 0, 1) := by decide +kernel
theorem dL_law_1279 : decode cL_law 1279 = .ok (.iload_n 3, 1) := by decide +kernel
theorem dL_law_1280 : decode cL_law 1280 = .ok (.iconst 1, 1) := by decide +kernel
theorem dL_law_1281 : decode cL_law 1281 = .ok (.iadd, 1) := by decide +kernel
theorem dL_law_1282 : decode cL_law 1282 = .ok (.iaload, 1) := by decide +kernel
theorem dL_law_1283 : decode cL_law 1283 = .ok (.aload_n 0, 1) := by decide +kernel
theorem dL_law_1284 : decode cL_law 1284 = .ok (.iload_n 3, 1) := by decide +kernel
theorem dL_law_1285 : decode cL_law 1285 = .ok (.iconst 2, 1) := by decide +kernel
theorem dL_law_1286 : decode cL_law 1286 = .ok (.iadd, 1) := by decide +kernel
theorem dL_law_1287 : decode cL_law 1287 = .ok (.iaload, 1) := by decide +kernel
theorem dL_law_1288 : decode cL_law 1288 = .ok (.invokevirtual 130, 3) := by decide +kernel
theorem dL_law_1291 : decode cL_law 1291 = .ok (.if_icmp .eq 94, 3) := by decide +kernel
theorem dL_law_1294 : decode cL_law 1294 = .ok (.iconst 0, 1) := by decide +kernel
theorem dL_law_1295 : decode cL_law 1295 = .ok (.ireturn, 1) := by decide +kernel
theorem dL_law_1296 : decode cL_law 1296 = .ok (.aload_n 1, 1) := by decide +kernel
theorem dL_law_1297 : decode cL_law 1297 = .ok (.aload_n 0, 1) := by decide +kernel
theorem dL_law_1298 : decode cL_law 1298 = .ok (.iload_n 3, 1) := by decide +kernel
theorem dL_law_1299 : decode cL_law 1299 = .ok (.iconst 1, 1) := by decide +kernel
theorem dL_law_1300 : decode cL_law 1300 = .ok (.iadd, 1) := by decide +kernel
theorem dL_law_1301 : decode cL_law 1301 = .ok (.iaload, 1) := by decide +kernel
theorem dL_law_1302 : decode cL_law 1302 = .ok (.aload_n 0, 1) := by decide +kernel
theorem dL_law_1303 : decode cL_law 1303 = .ok (.iload_n 3, 1) := by decide +kernel
theorem dL_law_1304 : decode cL_law 1304 = .ok (.iconst 2, 1) := by decide +kernel
theorem dL_law_1305 : decode cL_law 1305 = .ok (.iadd, 1) := by decide +kernel
theorem dL_law_1306 : decode cL_law 1306 = .ok (.iaload, 1) := by decide +kernel
theorem dL_law_1307 : decode cL_law 1307 = .ok (.invokevirtual 131, 3) := by decide +kernel
theorem dL_law_1310 : decode cL_law 1310 = .ok (.aload_n 2, 1) := by decide +kernel
theorem dL_law_1311 : decode cL_law 1311 = .ok (.aload_n 0, 1) := by decide +kernel
theorem dL_law_1312 : decode cL_law 1312 = .ok (.iload_n 3, 1) := by decide +kernel
theorem dL_law_1313 : decode cL_law 1313 = .ok (.iconst 1, 1) := by decide +kernel
theorem dL_law_1314 : decode cL_law 1314 = .ok (.iadd, 1) := by decide +kernel
theorem dL_law_1315 : decode cL_law 1315 = .ok (.iaload, 1) := by decide +kernel
theorem dL_law_1316 : decode cL_law 1316 = .ok (.aload_n 0, 1) := by decide +kernel
theorem dL_law_1317 : decode cL_law 1317 = .ok (.iload_n 3, 1) := by decide +kernel
theorem dL_law_1318 : decode cL_law 1318 = .ok (.iconst 2, 1) := by decide +kernel
theorem dL_law_1319 : decode cL_law 1319 = .ok (.iadd, 1) := by decide +kernel
theorem dL_law_1320 : decode cL_law 1320 = .ok (.iaload, 1) := by decide +kernel
theorem dL_law_1321 : decode cL_law 1321 = .ok (.invokevirtual 134, 3) := by decide +kernel
theorem dL_law_1324 : decode cL_law 1324 = .ok (.if_icmp .eq 61, 3) := by decide +kernel
theorem dL_law_1327 : decode cL_law 1327 = .ok (.iconst 0, 1) := by decide +kernel
theorem dL_law_1328 : decode cL_law 1328 = .ok (.ireturn, 1) := by decide +kernel
theorem dL_law_1329 : decode cL_law 1329 = .ok (.aload_n 1, 1) := by decide +kernel
theorem dL_law_1330 : decode cL_law 1330 = .ok (.aload_n 0, 1) := by decide +kernel
theorem dL_law_1331 : decode cL_law 1331 = .ok (.iload_n 3, 1) := by decide +kernel
theorem dL_law_1332 : decode cL_law 1332 = .ok (.iconst 1, 1) := by decide +kernel
theorem dL_law_1333 : decode cL_law 1333 = .ok (.iadd, 1) := by decide +kernel
theorem dL_law_1334 : decode cL_law 1334 = .ok (.iaload, 1) := by decide +kernel
theorem dL_law_1335 : decode cL_law 1335 = .ok (.aload_n 0, 1) := by decide +kernel
theorem dL_law_1336 : decode cL_law 1336 = .ok (.iload_n 3, 1) := by decide +kernel
theorem dL_law_1337 : decode cL_law 1337 = .ok (.iconst 2, 1) := by decide +kernel
theorem dL_law_1338 : decode cL_law 1338 = .ok (.iadd, 1) := by decide +kernel
theorem dL_law_1339 : decode cL_law 1339 = .ok (.iaload, 1) := by decide +kernel
theorem dL_law_1340 : decode cL_law 1340 = .ok (.invokevirtual 135, 3) := by decide +kernel
theorem dL_law_1343 : decode cL_law 1343 = .ok (.aload_n 2, 1) := by decide +kernel
theorem dL_law_1344 : decode cL_law 1344 = .ok (.aload_n 0, 1) := by decide +kernel
theorem dL_law_1345 : decode cL_law 1345 = .ok (.iload_n 3, 1) := by decide +kernel
theorem dL_law_1346 : decode cL_law 1346 = .ok (.iconst 1, 1) := by decide +kernel
theorem dL_law_1347 : decode cL_law 1347 = .ok (.iadd, 1) := by decide +kernel
theorem dL_law_1348 : decode cL_law 1348 = .ok (.iaload, 1) := by decide +kernel
theorem dL_law_1349 : decode cL_law 1349 = .ok (.aload_n 0, 1) := by decide +kernel
theorem dL_law_1350 : decode cL_law 1350 = .ok (.iload_n 3, 1) := by decide +kernel
theorem dL_law_1351 : decode cL_law 1351 = .ok (.iconst 2, 1) := by decide +kernel
theorem dL_law_1352 : decode cL_law 1352 = .ok (.iadd, 1) := by decide +kernel
theorem dL_law_1353 : decode cL_law 1353 = .ok (.iaload, 1) := by decide +kernel
theorem dL_law_1354 : decode cL_law 1354 = .ok (.invokevirtual 138, 3) := by decide +kernel
theorem dL_law_1357 : decode cL_law 1357 = .ok (.if_icmp .eq 28, 3) := by decide +kernel
theorem dL_law_1360 : decode cL_law 1360 = .ok (.iconst 0, 1) := by decide +kernel
theorem dL_law_1361 : decode cL_law 1361 = .ok (.ireturn, 1) := by decide +kernel
theorem dL_law_1362 : decode cL_law 1362 = .ok (.aload_n 1, 1) := by decide +kernel
theorem dL_law_1363 : decode cL_law 1363 = .ok (.aload_n 0, 1) := by decide +kernel
theorem dL_law_1364 : decode cL_law 1364 = .ok (.iload_n 3, 1) := by decide +kernel
theorem dL_law_1365 : decode cL_law 1365 = .ok (.iconst 1, 1) := by decide +kernel
theorem dL_law_1366 : decode cL_law 1366 = .ok (.iadd, 1) := by decide +kernel
theorem dL_law_1367 : decode cL_law 1367 = .ok (.iaload, 1) := by decide +kernel
theorem dL_law_1368 : decode cL_law 1368 = .ok (.invokevirtual 139, 3) := by decide +kernel
theorem dL_law_1371 : decode cL_law 1371 = .ok (.aload_n 2, 1) := by decide +kernel
theorem dL_law_1372 : decode cL_law 1372 = .ok (.aload_n 0, 1) := by decide +kernel
theorem dL_law_1373 : decode cL_law 1373 = .ok (.iload_n 3, 1) := by decide +kernel
theorem dL_law_1374 : decode cL_law 1374 = .ok (.iconst 1, 1) := by decide +kernel
theorem dL_law_1375 : decode cL_law 1375 = .ok (.iadd, 1) := by decide +kernel
theorem dL_law_1376 : decode cL_law 1376 = .ok (.iaload, 1) := by decide +kernel
theorem dL_law_1377 : decode cL_law 1377 = .ok (.invokevirtual 142, 3) := by decide +kernel
theorem dL_law_1380 : decode cL_law 1380 = .ok (.if_icmp .eq 5, 3) := by decide +kernel
theorem dL_law_1383 : decode cL_law 1383 = .ok (.iconst 0, 1) := by decide +kernel
theorem dL_law_1384 : decode cL_law 1384 = .ok (.ireturn, 1) := by decide +kernel
theorem dL_law_1385 : decode cL_law 1385 = .ok (.iinc 3 10, 3) := by decide +kernel
theorem dL_law_1388 : decode cL_law 1388 = .ok (.goto (-1370), 3) := by decide +kernel
theorem dL_law_1391 : decode cL_law 1391 = .ok (.iconst 1, 1) := by decide +kernel
theorem dL_law_1392 : decode cL_law 1392 = .ok (.ireturn, 1) := by decide +kernel
end
section
def nrf : Value → Bool
  | .ref _ => false
  | _ => true
theorem nrf_of {fs : List Value} (h : fs.all nrf = true) : ∀ v ∈ fs, ∀ a, v ≠ .ref a := by
  intro v hv a e
  have := List.all_eq_true.mp h v hv
  rw [e] at this
  cases this
/-! the class tables -/
theorem ly_Jx4a65c_0 : u_lay RJx4a65c TJx4a65c 0 ∈ wsA := (inA1 51 rfl rfl)
theorem ly_Jx4a65c_1 : u_lay RJx4a65c TJx4a65c 1 ∈ wsA := (inA1 47 rfl rfl)
theorem ly_Jx4a65c_2 : u_lay RJx4a65c TJx4a65c 2 ∈ wsA := (inA1 49 rfl rfl)
theorem ci_Jx4a65c : CI 0 RJx4a65c TJx4a65c 3 tyJx4a65c := ⟨rfl, ws_of (fun k hk => match k, hk with | 0, _ => ly_Jx4a65c_0 | 1, _ => ly_Jx4a65c_1 | 2, _ => ly_Jx4a65c_2 | k + 3, h => absurd h (Nat.not_lt.mpr (Nat.le_add_left _ _))), tyJx4a65c_ok, nmJx4a65c⟩
theorem ly_X0_0 : u_lay RX0 TX0 0 ∈ wsA := (inA2 30 rfl rfl)
theorem ly_X0_1 : u_lay RX0 TX0 1 ∈ wsA := (inA2 32 rfl rfl)
theorem ly_X0_2 : u_lay RX0 TX0 2 ∈ wsA := (inA2 34 rfl rfl)
theorem ly_X0_3 : u_lay RX0 TX0 3 ∈ wsA := (inA2 36 rfl rfl)
theorem ci_X0 : CI 1 RX0 TX0 4 tyX0 := ⟨rfl, ws_of (fun k hk => match k, hk with | 0, _ => ly_X0_0 | 1, _ => ly_X0_1 | 2, _ => ly_X0_2 | 3, _ => ly_X0_3 | k + 4, h => absurd h (Nat.not_lt.mpr (Nat.le_add_left _ _))), tyX0_ok, nmX0⟩
theorem ly_X1_0 : u_lay RX1 TX1 0 ∈ wsA := (inA3 182 rfl rfl)
theorem ly_X1_1 : u_lay RX1 TX1 1 ∈ wsA := (inA3 184 rfl rfl)
theorem ly_X1_2 : u_lay RX1 TX1 2 ∈ wsA := (inA3 186 rfl rfl)
theorem ly_X1_3 : u_lay RX1 TX1 3 ∈ wsA := (inA3 188 rfl rfl)
theorem ly_X1_4 : u_lay RX1 TX1 4 ∈ wsA := (inA3 190 rfl rfl)
theorem ly_X1_5 : u_lay RX1 TX1 5 ∈ wsA := (inA3 192 rfl rfl)
theorem ly_X1_6 : u_lay RX1 TX1 6 ∈ wsA := (inA3 194 rfl rfl)
theorem ly_X1_7 : u_lay RX1 TX1 7 ∈ wsA := (inA3 196 rfl rfl)
theorem ly_X1_8 : u_lay RX1 TX1 8 ∈ wsA := (inA3 198 rfl rfl)
theorem ly_X1_9 : u_lay RX1 TX1 9 ∈ wsA := (inA3 200 rfl rfl)
theorem ly_X1_10 : u_lay RX1 TX1 10 ∈ wsA := (inA3 202 rfl rfl)
theorem ci_X1 : CI 2 RX1 TX1 11 tyX1 := ⟨rfl, ws_of (fun k hk => match k, hk with | 0, _ => ly_X1_0 | 1, _ => ly_X1_1 | 2, _ => ly_X1_2 | 3, _ => ly_X1_3 | 4, _ => ly_X1_4 | 5, _ => ly_X1_5 | 6, _ => ly_X1_6 | 7, _ => ly_X1_7 | 8, _ => ly_X1_8 | 9, _ => ly_X1_9 | 10, _ => ly_X1_10 | k + 11, h => absurd h (Nat.not_lt.mpr (Nat.le_add_left _ _))), tyX1_ok, nmX1⟩
theorem ly_X2_0 : u_lay RX2 TX2 0 ∈ wsA := (inA2 132 rfl rfl)
theorem ly_X2_1 : u_lay RX2 TX2 1 ∈ wsA := (inA2 134 rfl rfl)
theorem ly_X2_2 : u_lay RX2 TX2 2 ∈ wsA := (inA2 136 rfl rfl)
theorem ly_X2_3 : u_lay RX2 TX2 3 ∈ wsA := (inA2 138 rfl rfl)
theorem ly_X2_4 : u_lay RX2 TX2 4 ∈ wsA := (inA2 140 rfl rfl)
theorem ly_X2_5 : u_lay RX2 TX2 5 ∈ wsA := (inA2 142 rfl rfl)
theorem ly_X2_6 : u_lay RX2 TX2 6 ∈ wsA := (inA2 144 rfl rfl)
theorem ci_X2 : CI 3 RX2 TX2 7 tyX2 := ⟨rfl, ws_of (fun k hk => match k, hk with | 0, _ => ly_X2_0 | 1, _ => ly_X2_1 | 2, _ => ly_X2_2 | 3, _ => ly_X2_3 | 4, _ => ly_X2_4 | 5, _ => ly_X2_5 | 6, _ => ly_X2_6 | k + 7, h => absurd h (Nat.not_lt.mpr (Nat.le_add_left _ _))), tyX2_ok, nmX2⟩
theorem ly_X3_0 : u_lay RX3 TX3 0 ∈ wsA := (inA1 117 rfl rfl)
theorem ly_X3_1 : u_lay RX3 TX3 1 ∈ wsA := (inA1 119 rfl rfl)
theorem ly_X3_2 : u_lay RX3 TX3 2 ∈ wsA := (inA1 121 rfl rfl)
theorem ci_X3 : CI 4 RX3 TX3 3 tyX3 := ⟨rfl, ws_of (fun k hk => match k, hk with | 0, _ => ly_X3_0 | 1, _ => ly_X3_1 | 2, _ => ly_X3_2 | k + 3, h => absurd h (Nat.not_lt.mpr (Nat.le_add_left _ _))), tyX3_ok, nmX3⟩
theorem ly_X4_0 : u_lay RX4 TX4 0 ∈ wsA := (inA3 149 rfl rfl)
theorem ly_X4_1 : u_lay RX4 TX4 1 ∈ wsA := (inA3 151 rfl rfl)
theorem ly_X4_2 : u_lay RX4 TX4 2 ∈ wsA := (inA3 153 rfl rfl)
theorem ci_X4 : CI 5 RX4 TX4 3 tyX4 := ⟨rfl, ws_of (fun k hk => match k, hk with | 0, _ => ly_X4_0 | 1, _ => ly_X4_1 | 2, _ => ly_X4_2 | k + 3, h => absurd h (Nat.not_lt.mpr (Nat.le_add_left _ _))), tyX4_ok, nmX4⟩
theorem ly_X5_0 : u_lay RX5 TX5 0 ∈ wsA := (inA1 213 rfl rfl)
theorem ly_X5_1 : u_lay RX5 TX5 1 ∈ wsA := (inA1 215 rfl rfl)
theorem ly_X5_2 : u_lay RX5 TX5 2 ∈ wsA := (inA1 217 rfl rfl)
theorem ci_X5 : CI 6 RX5 TX5 3 tyX5 := ⟨rfl, ws_of (fun k hk => match k, hk with | 0, _ => ly_X5_0 | 1, _ => ly_X5_1 | 2, _ => ly_X5_2 | k + 3, h => absurd h (Nat.not_lt.mpr (Nat.le_add_left _ _))), tyX5_ok, nmX5⟩
theorem ly_X6_0 : u_lay RX6 TX6 0 ∈ wsA := (inA2 183 rfl rfl)
theorem ly_X6_1 : u_lay RX6 TX6 1 ∈ wsA := (inA2 185 rfl rfl)
theorem ly_X6_2 : u_lay RX6 TX6 2 ∈ wsA := (inA2 187 rfl rfl)
theorem ly_X6_3 : u_lay RX6 TX6 3 ∈ wsA := (inA2 189 rfl rfl)
theorem ly_X6_4 : u_lay RX6 TX6 4 ∈ wsA := (inA2 191 rfl rfl)
theorem ly_X6_5 : u_lay RX6 TX6 5 ∈ wsA := (inA2 193 rfl rfl)
theorem ci_X6 : CI 7 RX6 TX6 6 tyX6 := ⟨rfl, ws_of (fun k hk => match k, hk with | 0, _ => ly_X6_0 | 1, _ => ly_X6_1 | 2, _ => ly_X6_2 | 3, _ => ly_X6_3 | 4, _ => ly_X6_4 | 5, _ => ly_X6_5 | k + 6, h => absurd h (Nat.not_lt.mpr (Nat.le_add_left _ _))), tyX6_ok, nmX6⟩
theorem ly_X7_0 : u_lay RX7 TX7 0 ∈ wsA := (inA3 58 rfl rfl)
theorem ly_X7_1 : u_lay RX7 TX7 1 ∈ wsA := (inA3 60 rfl rfl)
theorem ly_X7_2 : u_lay RX7 TX7 2 ∈ wsA := (inA3 62 rfl rfl)
theorem ly_X7_3 : u_lay RX7 TX7 3 ∈ wsA := (inA3 64 rfl rfl)
theorem ly_X7_4 : u_lay RX7 TX7 4 ∈ wsA := (inA3 66 rfl rfl)
theorem ly_X7_5 : u_lay RX7 TX7 5 ∈ wsA := (inA3 68 rfl rfl)
theorem ly_X7_6 : u_lay RX7 TX7 6 ∈ wsA := (inA3 70 rfl rfl)
theorem ly_X7_7 : u_lay RX7 TX7 7 ∈ wsA := (inA3 72 rfl rfl)
theorem ly_X7_8 : u_lay RX7 TX7 8 ∈ wsA := (inA3 74 rfl rfl)
theorem ly_X7_9 : u_lay RX7 TX7 9 ∈ wsA := (inA3 76 rfl rfl)
theorem ly_X7_10 : u_lay RX7 TX7 10 ∈ wsA := (inA3 78 rfl rfl)
theorem ly_X7_11 : u_lay RX7 TX7 11 ∈ wsA := (inA3 80 rfl rfl)
theorem ly_X7_12 : u_lay RX7 TX7 12 ∈ wsA := (inA3 82 rfl rfl)
theorem ly_X7_13 : u_lay RX7 TX7 13 ∈ wsA := (inA3 84 rfl rfl)
theorem ly_X7_14 : u_lay RX7 TX7 14 ∈ wsA := (inA3 86 rfl rfl)
theorem ly_X7_15 : u_lay RX7 TX7 15 ∈ wsA := (inA3 88 rfl rfl)
theorem ly_X7_16 : u_lay RX7 TX7 16 ∈ wsA := (inA3 90 rfl rfl)
theorem ly_X7_17 : u_lay RX7 TX7 17 ∈ wsA := (inA3 92 rfl rfl)
theorem ci_X7 : CI 8 RX7 TX7 18 tyX7 := ⟨rfl, ws_of (fun k hk => match k, hk with | 0, _ => ly_X7_0 | 1, _ => ly_X7_1 | 2, _ => ly_X7_2 | 3, _ => ly_X7_3 | 4, _ => ly_X7_4 | 5, _ => ly_X7_5 | 6, _ => ly_X7_6 | 7, _ => ly_X7_7 | 8, _ => ly_X7_8 | 9, _ => ly_X7_9 | 10, _ => ly_X7_10 | 11, _ => ly_X7_11 | 12, _ => ly_X7_12 | 13, _ => ly_X7_13 | 14, _ => ly_X7_14 | 15, _ => ly_X7_15 | 16, _ => ly_X7_16 | 17, _ => ly_X7_17 | k + 18, h => absurd h (Nat.not_lt.mpr (Nat.le_add_left _ _))), tyX7_ok, nmX7⟩
theorem ly_X8_0 : u_lay RX8 TX8 0 ∈ wsA := (inA1 65 rfl rfl)
theorem ly_X8_1 : u_lay RX8 TX8 1 ∈ wsA := (inA1 67 rfl rfl)
theorem ly_X8_2 : u_lay RX8 TX8 2 ∈ wsA := (inA1 69 rfl rfl)
theorem ly_X8_3 : u_lay RX8 TX8 3 ∈ wsA := (inA1 71 rfl rfl)
theorem ly_X8_4 : u_lay RX8 TX8 4 ∈ wsA := (inA1 73 rfl rfl)
theorem ly_X8_5 : u_lay RX8 TX8 5 ∈ wsA := (inA1 75 rfl rfl)
theorem ly_X8_6 : u_lay RX8 TX8 6 ∈ wsA := (inA1 77 rfl rfl)
theorem ly_X8_7 : u_lay RX8 TX8 7 ∈ wsA := (inA1 79 rfl rfl)
theorem ly_X8_8 : u_lay RX8 TX8 8 ∈ wsA := (inA1 81 rfl rfl)
theorem ly_X8_9 : u_lay RX8 TX8 9 ∈ wsA := (inA1 83 rfl rfl)
theorem ly_X8_10 : u_lay RX8 TX8 10 ∈ wsA := (inA1 85 rfl rfl)
theorem ci_X8 : CI 9 RX8 TX8 11 tyX8 := ⟨rfl, ws_of (fun k hk => match k, hk with | 0, _ => ly_X8_0 | 1, _ => ly_X8_1 | 2, _ => ly_X8_2 | 3, _ => ly_X8_3 | 4, _ => ly_X8_4 | 5, _ => ly_X8_5 | 6, _ => ly_X8_6 | 7, _ => ly_X8_7 | 8, _ => ly_X8_8 | 9, _ => ly_X8_9 | 10, _ => ly_X8_10 | k + 11, h => absurd h (Nat.not_lt.mpr (Nat.le_add_left _ _))), tyX8_ok, nmX8⟩
theorem ly_X9_0 : u_lay RX9 TX9 0 ∈ wsA := (inA4 145 rfl rfl)
theorem ly_X9_1 : u_lay RX9 TX9 1 ∈ wsA := (inA4 147 rfl rfl)
theorem ly_X9_2 : u_lay RX9 TX9 2 ∈ wsA := (inA4 149 rfl rfl)
theorem ly_X9_3 : u_lay RX9 TX9 3 ∈ wsA := (inA4 151 rfl rfl)
theorem ly_X9_4 : u_lay RX9 TX9 4 ∈ wsA := (inA4 153 rfl rfl)
theorem ly_X9_5 : u_lay RX9 TX9 5 ∈ wsA := (inA4 155 rfl rfl)
theorem ly_X9_6 : u_lay RX9 TX9 6 ∈ wsA := (inA4 157 rfl rfl)
theorem ly_X9_7 : u_lay RX9 TX9 7 ∈ wsA := (inA4 159 rfl rfl)
theorem ly_X9_8 : u_lay RX9 TX9 8 ∈ wsA := (inA4 161 rfl rfl)
theorem ly_X9_9 : u_lay RX9 TX9 9 ∈ wsA := (inA4 163 rfl rfl)
theorem ly_X9_10 : u_lay RX9 TX9 10 ∈ wsA := (inA4 165 rfl rfl)
theorem ly_X9_11 : u_lay RX9 TX9 11 ∈ wsA := (inA4 167 rfl rfl)
theorem ly_X9_12 : u_lay RX9 TX9 12 ∈ wsA := (inA4 169 rfl rfl)
theorem ly_X9_13 : u_lay RX9 TX9 13 ∈ wsA := (inA4 171 rfl rfl)
theorem ly_X9_14 : u_lay RX9 TX9 14 ∈ wsA := (inA4 173 rfl rfl)
theorem ly_X9_15 : u_lay RX9 TX9 15 ∈ wsA := (inA4 175 rfl rfl)
theorem ly_X9_16 : u_lay RX9 TX9 16 ∈ wsA := (inA4 177 rfl rfl)
theorem ly_X9_17 : u_lay RX9 TX9 17 ∈ wsA := (inA4 179 rfl rfl)
theorem ly_X9_18 : u_lay RX9 TX9 18 ∈ wsA := (inA4 181 rfl rfl)
theorem ly_X9_19 : u_lay RX9 TX9 19 ∈ wsA := (inA4 183 rfl rfl)
theorem ly_X9_20 : u_lay RX9 TX9 20 ∈ wsA := (inA4 185 rfl rfl)
theorem ly_X9_21 : u_lay RX9 TX9 21 ∈ wsA := (inA4 187 rfl rfl)
theorem ly_X9_22 : u_lay RX9 TX9 22 ∈ wsA := (inA4 189 rfl rfl)
theorem ly_X9_23 : u_lay RX9 TX9 23 ∈ wsA := (inA4 191 rfl rfl)
theorem ly_X9_24 : u_lay RX9 TX9 24 ∈ wsA := (inA4 193 rfl rfl)
theorem ly_X9_25 : u_lay RX9 TX9 25 ∈ wsA := (inA4 195 rfl rfl)
theorem ly_X9_26 : u_lay RX9 TX9 26 ∈ wsA := (inA4 197 rfl rfl)
theorem ly_X9_27 : u_lay RX9 TX9 27 ∈ wsA := (inA4 199 rfl rfl)
theorem ly_X9_28 : u_lay RX9 TX9 28 ∈ wsA := (inA4 201 rfl rfl)
theorem ly_X9_29 : u_lay RX9 TX9 29 ∈ wsA := (inA4 203 rfl rfl)
theorem ly_X9_30 : u_lay RX9 TX9 30 ∈ wsA := (inA4 205 rfl rfl)
theorem ly_X9_31 : u_lay RX9 TX9 31 ∈ wsA := (inA4 207 rfl rfl)
theorem ly_X9_32 : u_lay RX9 TX9 32 ∈ wsA := (inA4 209 rfl rfl)
theorem ly_X9_33 : u_lay RX9 TX9 33 ∈ wsA := (inA4 211 rfl rfl)
theorem ly_X9_34 : u_lay RX9 TX9 34 ∈ wsA := (inA4 213 rfl rfl)
theorem ly_X9_35 : u_lay RX9 TX9 35 ∈ wsA := (inA4 215 rfl rfl)
theorem ly_X9_36 : u_lay RX9 TX9 36 ∈ wsA := (inA4 217 rfl rfl)
theorem ly_X9_37 : u_lay RX9 TX9 37 ∈ wsA := (inA4 219 rfl rfl)
theorem ly_X9_38 : u_lay RX9 TX9 38 ∈ wsA := (inA4 221 rfl rfl)
theorem ly_X9_39 : u_lay RX9 TX9 39 ∈ wsA := (inA4 223 rfl rfl)
theorem ly_X9_40 : u_lay RX9 TX9 40 ∈ wsA := (inA4 225 rfl rfl)
theorem ly_X9_41 : u_lay RX9 TX9 41 ∈ wsA := (inA4 227 rfl rfl)
theorem ly_X9_42 : u_lay RX9 TX9 42 ∈ wsA := (inA4 229 rfl rfl)
theorem ly_X9_43 : u_lay RX9 TX9 43 ∈ wsA := (inA4 231 rfl rfl)
theorem ly_X9_44 : u_lay RX9 TX9 44 ∈ wsA := (inA4 233 rfl rfl)
theorem ly_X9_45 : u_lay RX9 TX9 45 ∈ wsA := (inA4 235 rfl rfl)
theorem ly_X9_46 : u_lay RX9 TX9 46 ∈ wsA := (inA4 237 rfl rfl)
theorem ly_X9_47 : u_lay RX9 TX9 47 ∈ wsA := (inA4 239 rfl rfl)
theorem ly_X9_48 : u_lay RX9 TX9 48 ∈ wsA := (inA5 1 rfl rfl)
theorem ly_X9_49 : u_lay RX9 TX9 49 ∈ wsA := (inA5 3 rfl rfl)
theorem ly_X9_50 : u_lay RX9 TX9 50 ∈ wsA := (inA5 5 rfl rfl)
theorem ly_X9_51 : u_lay RX9 TX9 51 ∈ wsA := (inA5 7 rfl rfl)
theorem ly_X9_52 : u_lay RX9 TX9 52 ∈ wsA := (inA5 9 rfl rfl)
theorem ly_X9_53 : u_lay RX9 TX9 53 ∈ wsA := (inA5 11 rfl rfl)
theorem ly_X9_54 : u_lay RX9 TX9 54 ∈ wsA := (inA5 13 rfl rfl)
theorem ly_X9_55 : u_lay RX9 TX9 55 ∈ wsA := (inA5 15 rfl rfl)
theorem ly_X9_56 : u_lay RX9 TX9 56 ∈ wsA := (inA5 17 rfl rfl)
theorem ly_X9_57 : u_lay RX9 TX9 57 ∈ wsA := (inA5 19 rfl rfl)
theorem ly_X9_58 : u_lay RX9 TX9 58 ∈ wsA := (inA5 21 rfl rfl)
theorem ly_X9_59 : u_lay RX9 TX9 59 ∈ wsA := (inA5 23 rfl rfl)
theorem ly_X9_60 : u_lay RX9 TX9 60 ∈ wsA := (inA5 25 rfl rfl)
theorem ly_X9_61 : u_lay RX9 TX9 61 ∈ wsA := (inA5 27 rfl rfl)
theorem ci_X9 : CI 10 RX9 TX9 62 tyX9 := ⟨rfl, ws_of (fun k hk => match k, hk with | 0, _ => ly_X9_0 | 1, _ => ly_X9_1 | 2, _ => ly_X9_2 | 3, _ => ly_X9_3 | 4, _ => ly_X9_4 | 5, _ => ly_X9_5 | 6, _ => ly_X9_6 | 7, _ => ly_X9_7 | 8, _ => ly_X9_8 | 9, _ => ly_X9_9 | 10, _ => ly_X9_10 | 11, _ => ly_X9_11 | 12, _ => ly_X9_12 | 13, _ => ly_X9_13 | 14, _ => ly_X9_14 | 15, _ => ly_X9_15 | 16, _ => ly_X9_16 | 17, _ => ly_X9_17 | 18, _ => ly_X9_18 | 19, _ => ly_X9_19 | 20, _ => ly_X9_20 | 21, _ => ly_X9_21 | 22, _ => ly_X9_22 | 23, _ => ly_X9_23 | 24, _ => ly_X9_24 | 25, _ => ly_X9_25 | 26, _ => ly_X9_26 | 27, _ => ly_X9_27 | 28, _ => ly_X9_28 | 29, _ => ly_X9_29 | 30, _ => ly_X9_30 | 31, _ => ly_X9_31 | 32, _ => ly_X9_32 | 33, _ => ly_X9_33 | 34, _ => ly_X9_34 | 35, _ => ly_X9_35 | 36, _ => ly_X9_36 | 37, _ => ly_X9_37 | 38, _ => ly_X9_38 | 39, _ => ly_X9_39 | 40, _ => ly_X9_40 | 41, _ => ly_X9_41 | 42, _ => ly_X9_42 | 43, _ => ly_X9_43 | 44, _ => ly_X9_44 | 45, _ => ly_X9_45 | 46, _ => ly_X9_46 | 47, _ => ly_X9_47 | 48, _ => ly_X9_48 | 49, _ => ly_X9_49 | 50, _ => ly_X9_50 | 51, _ => ly_X9_51 | 52, _ => ly_X9_52 | 53, _ => ly_X9_53 | 54, _ => ly_X9_54 | 55, _ => ly_X9_55 | 56, _ => ly_X9_56 | 57, _ => ly_X9_57 | 58, _ => ly_X9_58 | 59, _ => ly_X9_59 | 60, _ => ly_X9_60 | 61, _ => ly_X9_61 | k + 62, h => absurd h (Nat.not_lt.mpr (Nat.le_add_left _ _))), tyX9_ok, nmX9⟩
/-! pool entries: fields -/
theorem pn_J3_checkIndex_8e157 : yJ3_checkIndex_8e157.cls ≠ "java/lang/invoke/MethodHandle" ∧ yJ3_checkIndex_8e157.cls ≠ "java/lang/invoke/VarHandle" ∧ (parseMethodDescriptor yJ3_checkIndex_8e157.desc).map (fun d => d.parameters.length) = some 3 := by decide +kernel
theorem cd_J3_checkIndex_8e157 : Cond.code yJ3_checkIndex_8e157 cJ3_checkIndex_8e157 3 (some .int) ∈ wsA := (inA1 199 rfl rfl)
theorem in_J3_checkIndex_8e157 : Cond.initialized yJ3_checkIndex_8e157.cls ∈ wsA := (inA1 12 rfl rfl)
theorem st_J3_checkIndex_8e157 : Cond.static yJ3_checkIndex_8e157 ∈ wsA := (inA1 198 rfl rfl)
theorem mk_J15_105 : MK RJ15 105 yJ3_checkIndex_8e157 cJ3_checkIndex_8e157 3 (some .int) 3 := ⟨(inA1 197 rfl rfl), in_J3_checkIndex_8e157, cd_J3_checkIndex_8e157, pn_J3_checkIndex_8e157⟩
theorem cl_J7_2 : Cond.classLink RJ7 2 "java/lang/Object" ∈ wsA := (inA1 173 rfl rfl)
theorem cl_J7_110 : Cond.classLink RJ7 110 "[Ljava/lang/Object;" ∈ wsA := (inA1 171 rfl rfl)
theorem pn_J7_copyOf_6403c : yJ7_copyOf_6403c.cls ≠ "java/lang/invoke/MethodHandle" ∧ yJ7_copyOf_6403c.cls ≠ "java/lang/invoke/VarHandle" ∧ (parseMethodDescriptor yJ7_copyOf_6403c.desc).map (fun d => d.parameters.length) = some 3 := by decide +kernel
theorem cd_J7_copyOf_6403c : Cond.code yJ7_copyOf_6403c cJ7_copyOf_6403c 4 (some (.array (.object "java/lang/Object"))) ∈ wsA := (inA1 170 rfl rfl)
theorem in_J7_copyOf_6403c : Cond.initialized yJ7_copyOf_6403c.cls ∈ wsA := (inA1 9 rfl rfl)
theorem st_J7_copyOf_6403c : Cond.static yJ7_copyOf_6403c ∈ wsA := (inA1 169 rfl rfl)
theorem mk_J7_300 : MK RJ7 300 yJ7_copyOf_6403c cJ7_copyOf_6403c 4 (some (.array (.object "java/lang/Object"))) 3 := ⟨(inA1 168 rfl rfl), in_J7_copyOf_6403c, cd_J7_copyOf_6403c, pn_J7_copyOf_6403c⟩
theorem pn_J9_min_7cf53 : yJ9_min_7cf53.cls ≠ "java/lang/invoke/MethodHandle" ∧ yJ9_min_7cf53.cls ≠ "java/lang/invoke/VarHandle" ∧ (parseMethodDescriptor yJ9_min_7cf53.desc).map (fun d => d.parameters.length) = some 2 := by decide +kernel
theorem cd_J9_min_7cf53 : Cond.code yJ9_min_7cf53 cJ9_min_7cf53 2 (some .int) ∈ wsA := (inA1 176 rfl rfl)
theorem in_J9_min_7cf53 : Cond.initialized yJ9_min_7cf53.cls ∈ wsA := (inA1 8 rfl rfl)
theorem st_J9_min_7cf53 : Cond.static yJ9_min_7cf53 ∈ wsA := (inA1 175 rfl rfl)
theorem mk_J7_304 : MK RJ7 304 yJ9_min_7cf53 cJ9_min_7cf53 2 (some .int) 2 := ⟨(inA1 174 rfl rfl), in_J9_min_7cf53, cd_J9_min_7cf53, pn_J9_min_7cf53⟩
theorem pn_J9_max_7cf53 : yJ9_max_7cf53.cls ≠ "java/lang/invoke/MethodHandle" ∧ yJ9_max_7cf53.cls ≠ "java/lang/invoke/VarHandle" ∧ (parseMethodDescriptor yJ9_max_7cf53.desc).map (fun d => d.parameters.length) = some 2 := by decide +kernel
theorem cd_J9_max_7cf53 : Cond.code yJ9_max_7cf53 cJ9_max_7cf53 2 (some .int) ∈ wsA := (inA1 145 rfl rfl)
theorem in_J9_max_7cf53 : Cond.initialized yJ9_max_7cf53.cls ∈ wsA := (inA1 8 rfl rfl)
theorem st_J9_max_7cf53 : Cond.static yJ9_max_7cf53 ∈ wsA := (inA1 144 rfl rfl)
theorem mk_J8_194 : MK RJ8 194 yJ9_max_7cf53 cJ9_max_7cf53 2 (some .int) 2 := ⟨(inA1 143 rfl rfl), in_J9_max_7cf53, cd_J9_max_7cf53, pn_J9_max_7cf53⟩
theorem kc_J8_200 : Cond.constant RJ8 200 (2147483639 : Int32) ∈ wsA := (inA1 146 rfl rfl)
theorem pn_J8_hugeLength_7cf53 : yJ8_hugeLength_7cf53.cls ≠ "java/lang/invoke/MethodHandle" ∧ yJ8_hugeLength_7cf53.cls ≠ "java/lang/invoke/VarHandle" ∧ (parseMethodDescriptor yJ8_hugeLength_7cf53.desc).map (fun d => d.parameters.length) = some 2 := by decide +kernel
theorem cd_J8_hugeLength_7cf53 : Cond.code yJ8_hugeLength_7cf53 cJ8_hugeLength_7cf53 3 (some .int) ∈ wsA := (inA1 149 rfl rfl)
theorem in_J8_hugeLength_7cf53 : Cond.initialized yJ8_hugeLength_7cf53.cls ∈ wsA := (inA1 7 rfl rfl)
theorem st_J8_hugeLength_7cf53 : Cond.static yJ8_hugeLength_7cf53 ∈ wsA := (inA1 148 rfl rfl)
theorem mk_J8_201 : MK RJ8 201 yJ8_hugeLength_7cf53 cJ8_hugeLength_7cf53 3 (some .int) 2 := ⟨(inA1 147 rfl rfl), in_J8_hugeLength_7cf53, cd_J8_hugeLength_7cf53, pn_J8_hugeLength_7cf53⟩
theorem pn_Jxc12de_init_da8c8 : yJxc12de_init_da8c8.cls ≠ "java/lang/invoke/MethodHandle" ∧ yJxc12de_init_da8c8.cls ≠ "java/lang/invoke/VarHandle" ∧ (parseMethodDescriptor yJxc12de_init_da8c8.desc).map (fun d => d.parameters.length) = some 0 := by decide +kernel
theorem cd_Jxc12de_init_da8c8 : Cond.code yJxc12de_init_da8c8 cJxc12de_init_da8c8 1 none ∈ wsA := (inA1 35 rfl rfl)
theorem in_Jxc12de_init_da8c8 : Cond.initialized yJxc12de_init_da8c8.cls ∈ wsA := (inA1 3 rfl rfl)
theorem ii_Jxc12de_init_da8c8 : yJxc12de_init_da8c8.name = "<init>" ∧ Cond.instanceMethod yJxc12de_init_da8c8 ∈ wsA := ⟨rfl, (inA1 34 rfl rfl)⟩
theorem mk_Jx4a65c_1 : MK RJx4a65c 1 yJxc12de_init_da8c8 cJxc12de_init_da8c8 1 none 0 := ⟨(inA1 33 rfl rfl), in_Jxc12de_init_da8c8, cd_Jxc12de_init_da8c8, pn_Jxc12de_init_da8c8⟩
theorem cl_Jx4a65c_7 : Cond.classLink RJx4a65c 7 "java/lang/Object" ∈ wsA := (inA1 181 rfl rfl)
theorem fk_Jx4a65c_9 : FK RJx4a65c 9 0 1 false (.array (.object "java/lang/Object")) := ⟨RJx4a65c, TJx4a65c, 3, tyJx4a65c, "java/util/ArrayList", ci_Jx4a65c, by decide, (inA1 42 rfl rfl), Or.inl rfl, rfl, rfl⟩
theorem gs_Jx4a65c_39 : Cond.fieldLink RJx4a65c 39 "java/util/ArrayList" "DEFAULTCAPACITY_EMPTY_ELEMENTDATA" "[Ljava/lang/Object;" ∈ wsA := (inA1 40 rfl rfl)
theorem fk_Jx4a65c_48 : FK RJx4a65c 48 0 2 false (.int) := ⟨RJx4a65c, TJx4a65c, 3, tyJx4a65c, "java/util/ArrayList", ci_Jx4a65c, by decide, (inA1 43 rfl rfl), Or.inl rfl, rfl, rfl⟩
theorem fk_Jx4a65c_63 : FK RJx4a65c 63 0 0 false (.int) := ⟨RJx4a65c, TJx4a65c, 3, tyJx4a65c, "java/util/ArrayList", ci_Jx4a65c, by decide, (inA1 45 rfl rfl), Or.inr (inA1 46 rfl rfl), rfl, rfl⟩
theorem pn_J7_copyOf_1904c : yJ7_copyOf_1904c.cls ≠ "java/lang/invoke/MethodHandle" ∧ yJ7_copyOf_1904c.cls ≠ "java/lang/invoke/VarHandle" ∧ (parseMethodDescriptor yJ7_copyOf_1904c.desc).map (fun d => d.parameters.length) = some 2 := by decide +kernel
theorem cd_J7_copyOf_1904c : Cond.code yJ7_copyOf_1904c cJ7_copyOf_1904c 2 (some (.array (.object "java/lang/Object"))) ∈ wsA := (inA1 152 rfl rfl)
theorem in_J7_copyOf_1904c : Cond.initialized yJ7_copyOf_1904c.cls ∈ wsA := (inA1 9 rfl rfl)
theorem st_J7_copyOf_1904c : Cond.static yJ7_copyOf_1904c ∈ wsA := (inA1 151 rfl rfl)
theorem mk_Jx4a65c_66 : MK RJx4a65c 66 yJ7_copyOf_1904c cJ7_copyOf_1904c 2 (some (.array (.object "java/lang/Object"))) 2 := ⟨(inA1 150 rfl rfl), in_J7_copyOf_1904c, cd_J7_copyOf_1904c, pn_J7_copyOf_1904c⟩
theorem pn_Jx4a65c_grow_92f84 : yJx4a65c_grow_92f84.cls ≠ "java/lang/invoke/MethodHandle" ∧ yJx4a65c_grow_92f84.cls ≠ "java/lang/invoke/VarHandle" ∧ (parseMethodDescriptor yJx4a65c_grow_92f84.desc).map (fun d => d.parameters.length) = some 1 := by decide +kernel
theorem cd_Jx4a65c_grow_92f84 : Cond.code yJx4a65c_grow_92f84 cJx4a65c_grow_92f84 4 (some (.array (.object "java/lang/Object"))) ∈ wsA := (inA1 139 rfl rfl)
theorem in_Jx4a65c_grow_92f84 : Cond.initialized yJx4a65c_grow_92f84.cls ∈ wsA := (inA1 4 rfl rfl)
theorem iv_Jx4a65c_grow_92f84 : Cond.instanceMethod yJx4a65c_grow_92f84 ∈ wsA ∧ Cond.selects yJx4a65c_grow_92f84.cls yJx4a65c_grow_92f84 yJx4a65c_grow_92f84 ∈ wsA := ⟨(inA1 138 rfl rfl), (inQ 3 rfl rfl)⟩
theorem mk_Jx4a65c_69 : MK RJx4a65c 69 yJx4a65c_grow_92f84 cJx4a65c_grow_92f84 4 (some (.array (.object "java/lang/Object"))) 1 := ⟨(inA1 136 rfl rfl), in_Jx4a65c_grow_92f84, cd_Jx4a65c_grow_92f84, pn_Jx4a65c_grow_92f84⟩
theorem pn_J8_newLength_cabcc : yJ8_newLength_cabcc.cls ≠ "java/lang/invoke/MethodHandle" ∧ yJ8_newLength_cabcc.cls ≠ "java/lang/invoke/VarHandle" ∧ (parseMethodDescriptor yJ8_newLength_cabcc.desc).map (fun d => d.parameters.length) = some 3 := by decide +kernel
theorem cd_J8_newLength_cabcc : Cond.code yJ8_newLength_cabcc cJ8_newLength_cabcc 4 (some .int) ∈ wsA := (inA1 142 rfl rfl)
theorem in_J8_newLength_cabcc : Cond.initialized yJ8_newLength_cabcc.cls ∈ wsA := (inA1 7 rfl rfl)
theorem st_J8_newLength_cabcc : Cond.static yJ8_newLength_cabcc ∈ wsA := (inA1 141 rfl rfl)
theorem mk_Jx4a65c_73 : MK RJx4a65c 73 yJ8_newLength_cabcc cJ8_newLength_cabcc 4 (some .int) 3 := ⟨(inA1 140 rfl rfl), in_J8_newLength_cabcc, cd_J8_newLength_cabcc, pn_J8_newLength_cabcc⟩
theorem mk_Jx4a65c_79 : MK RJx4a65c 79 yJ9_max_7cf53 cJ9_max_7cf53 2 (some .int) 2 := ⟨(inA1 180 rfl rfl), in_J9_max_7cf53, cd_J9_max_7cf53, pn_J9_max_7cf53⟩
theorem pn_J15_checkIndex_7cf53 : yJ15_checkIndex_7cf53.cls ≠ "java/lang/invoke/MethodHandle" ∧ yJ15_checkIndex_7cf53.cls ≠ "java/lang/invoke/VarHandle" ∧ (parseMethodDescriptor yJ15_checkIndex_7cf53.desc).map (fun d => d.parameters.length) = some 2 := by decide +kernel
theorem cd_J15_checkIndex_7cf53 : Cond.code yJ15_checkIndex_7cf53 cJ15_checkIndex_7cf53 2 (some .int) ∈ wsA := (inA1 196 rfl rfl)
theorem in_J15_checkIndex_7cf53 : Cond.initialized yJ15_checkIndex_7cf53.cls ∈ wsA := (inA1 11 rfl rfl)
theorem st_J15_checkIndex_7cf53 : Cond.static yJ15_checkIndex_7cf53 ∈ wsA := (inA1 195 rfl rfl)
theorem mk_Jx4a65c_118 : MK RJx4a65c 118 yJ15_checkIndex_7cf53 cJ15_checkIndex_7cf53 2 (some .int) 2 := ⟨(inA1 194 rfl rfl), in_J15_checkIndex_7cf53, cd_J15_checkIndex_7cf53, pn_J15_checkIndex_7cf53⟩
theorem pn_Jx4a65c_elementData_915e3 : yJx4a65c_elementData_915e3.cls ≠ "java/lang/invoke/MethodHandle" ∧ yJx4a65c_elementData_915e3.cls ≠ "java/lang/invoke/VarHandle" ∧ (parseMethodDescriptor yJx4a65c_elementData_915e3.desc).map (fun d => d.parameters.length) = some 1 := by decide +kernel
theorem cd_Jx4a65c_elementData_915e3 : Cond.code yJx4a65c_elementData_915e3 cJx4a65c_elementData_915e3 2 (some (.object "java/lang/Object")) ∈ wsA := (inA1 203 rfl rfl)
theorem in_Jx4a65c_elementData_915e3 : Cond.initialized yJx4a65c_elementData_915e3.cls ∈ wsA := (inA1 4 rfl rfl)
theorem iv_Jx4a65c_elementData_915e3 : Cond.instanceMethod yJx4a65c_elementData_915e3 ∈ wsA ∧ Cond.selects yJx4a65c_elementData_915e3.cls yJx4a65c_elementData_915e3 yJx4a65c_elementData_915e3 ∈ wsA := ⟨(inA1 201 rfl rfl), (inA1 202 rfl rfl)⟩
theorem mk_Jx4a65c_123 : MK RJx4a65c 123 yJx4a65c_elementData_915e3 cJx4a65c_elementData_915e3 2 (some (.object "java/lang/Object")) 1 := ⟨(inA1 200 rfl rfl), in_Jx4a65c_elementData_915e3, cd_Jx4a65c_elementData_915e3, pn_Jx4a65c_elementData_915e3⟩
theorem pn_Jx4a65c_grow_d5877 : yJx4a65c_grow_d5877.cls ≠ "java/lang/invoke/MethodHandle" ∧ yJx4a65c_grow_d5877.cls ≠ "java/lang/invoke/VarHandle" ∧ (parseMethodDescriptor yJx4a65c_grow_d5877.desc).map (fun d => d.parameters.length) = some 0 := by decide +kernel
theorem cd_Jx4a65c_grow_d5877 : Cond.code yJx4a65c_grow_d5877 cJx4a65c_grow_d5877 1 (some (.array (.object "java/lang/Object"))) ∈ wsA := (inA1 135 rfl rfl)
theorem in_Jx4a65c_grow_d5877 : Cond.initialized yJx4a65c_grow_d5877.cls ∈ wsA := (inA1 4 rfl rfl)
theorem iv_Jx4a65c_grow_d5877 : Cond.instanceMethod yJx4a65c_grow_d5877 ∈ wsA ∧ Cond.selects yJx4a65c_grow_d5877.cls yJx4a65c_grow_d5877 yJx4a65c_grow_d5877 ∈ wsA := ⟨(inA1 134 rfl rfl), (inQ 2 rfl rfl)⟩
theorem mk_Jx4a65c_129 : MK RJx4a65c 129 yJx4a65c_grow_d5877 cJx4a65c_grow_d5877 1 (some (.array (.object "java/lang/Object"))) 0 := ⟨(inA1 132 rfl rfl), in_Jx4a65c_grow_d5877, cd_Jx4a65c_grow_d5877, pn_Jx4a65c_grow_d5877⟩
theorem pn_Jx4a65c_add_72be8 : yJx4a65c_add_72be8.cls ≠ "java/lang/invoke/MethodHandle" ∧ yJx4a65c_add_72be8.cls ≠ "java/lang/invoke/VarHandle" ∧ (parseMethodDescriptor yJx4a65c_add_72be8.desc).map (fun d => d.parameters.length) = some 3 := by decide +kernel
theorem cd_Jx4a65c_add_72be8 : Cond.code yJx4a65c_add_72be8 cJx4a65c_add_72be8 4 none ∈ wsA := (inA1 131 rfl rfl)
theorem in_Jx4a65c_add_72be8 : Cond.initialized yJx4a65c_add_72be8.cls ∈ wsA := (inA1 4 rfl rfl)
theorem iv_Jx4a65c_add_72be8 : Cond.instanceMethod yJx4a65c_add_72be8 ∈ wsA ∧ Cond.selects yJx4a65c_add_72be8.cls yJx4a65c_add_72be8 yJx4a65c_add_72be8 ∈ wsA := ⟨(inA1 130 rfl rfl), (inQ 1 rfl rfl)⟩
theorem mk_Jx4a65c_131 : MK RJx4a65c 131 yJx4a65c_add_72be8 cJx4a65c_add_72be8 4 none 3 := ⟨(inA1 128 rfl rfl), in_Jx4a65c_add_72be8, cd_Jx4a65c_add_72be8, pn_Jx4a65c_add_72be8⟩
theorem pn_Jx4a65c_fastRemove_b59b0 : yJx4a65c_fastRemove_b59b0.cls ≠ "java/lang/invoke/MethodHandle" ∧ yJx4a65c_fastRemove_b59b0.cls ≠ "java/lang/invoke/VarHandle" ∧ (parseMethodDescriptor yJx4a65c_fastRemove_b59b0.desc).map (fun d => d.parameters.length) = some 2 := by decide +kernel
theorem cd_Jx4a65c_fastRemove_b59b0 : Cond.code yJx4a65c_fastRemove_b59b0 cJx4a65c_fastRemove_b59b0 4 none ∈ wsA := (inA2 56 rfl rfl)
theorem in_Jx4a65c_fastRemove_b59b0 : Cond.initialized yJx4a65c_fastRemove_b59b0.cls ∈ wsA := (inA1 4 rfl rfl)
theorem iv_Jx4a65c_fastRemove_b59b0 : Cond.instanceMethod yJx4a65c_fastRemove_b59b0 ∈ wsA ∧ Cond.selects yJx4a65c_fastRemove_b59b0.cls yJx4a65c_fastRemove_b59b0 yJx4a65c_fastRemove_b59b0 ∈ wsA := ⟨(inA2 55 rfl rfl), (inQ 7 rfl rfl)⟩
theorem mk_Jx4a65c_144 : MK RJx4a65c 144 yJx4a65c_fastRemove_b59b0 cJx4a65c_fastRemove_b59b0 4 none 2 := ⟨(inA2 53 rfl rfl), in_Jx4a65c_fastRemove_b59b0, cd_Jx4a65c_fastRemove_b59b0, pn_Jx4a65c_fastRemove_b59b0⟩
theorem ol_Jxa1e45_1 : Cond.methodLink RJxa1e45 1 Lib.objectInit ∈ wsA := (inA1 39 rfl rfl)
theorem pn_Jxa1e45_init_da8c8 : yJxa1e45_init_da8c8.cls ≠ "java/lang/invoke/MethodHandle" ∧ yJxa1e45_init_da8c8.cls ≠ "java/lang/invoke/VarHandle" ∧ (parseMethodDescriptor yJxa1e45_init_da8c8.desc).map (fun d => d.parameters.length) = some 0 := by decide +kernel
theorem cd_Jxa1e45_init_da8c8 : Cond.code yJxa1e45_init_da8c8 cJxa1e45_init_da8c8 1 none ∈ wsA := (inA1 38 rfl rfl)
theorem in_Jxa1e45_init_da8c8 : Cond.initialized yJxa1e45_init_da8c8.cls ∈ wsA := (inA1 2 rfl rfl)
theorem ii_Jxa1e45_init_da8c8 : yJxa1e45_init_da8c8.name = "<init>" ∧ Cond.instanceMethod yJxa1e45_init_da8c8 ∈ wsA := ⟨rfl, (inA1 37 rfl rfl)⟩
theorem mk_Jxc12de_1 : MK RJxc12de 1 yJxa1e45_init_da8c8 cJxa1e45_init_da8c8 1 none 0 := ⟨(inA1 36 rfl rfl), in_Jxa1e45_init_da8c8, cd_Jxa1e45_init_da8c8, pn_Jxa1e45_init_da8c8⟩
theorem fk_Jxc12de_7 : FK RJxc12de 7 0 0 false (.int) := ⟨RJx4a65c, TJx4a65c, 3, tyJx4a65c, "java/util/AbstractList", ci_Jx4a65c, by decide, (inA1 44 rfl rfl), Or.inl rfl, rfl, rfl⟩
theorem cl_L_7 : Cond.classLink RL 7 "WatchServer" ∈ wsA := (inA1 20 rfl rfl)
theorem nk_L_7 : NK RL 7 9 11 [.null, .null, .null, .null, .null, .null, .null, .int 0, .long 0, .int 0, .int 0] := ⟨RX8, TX8, tyX8, ci_X8, cl_L_7, (inA1 21 rfl rfl), (inA1 1 rfl rfl), fun j hj => match j, hj with | 0, _ => rfl | 1, _ => rfl | 2, _ => rfl | 3, _ => rfl | 4, _ => rfl | 5, _ => rfl | 6, _ => rfl | 7, _ => rfl | 8, _ => rfl | 9, _ => rfl | 10, _ => rfl | j + 11, h => absurd h (Nat.not_lt.mpr (Nat.le_add_left _ _)), nrf_of rfl⟩
theorem pn_X8_init : yX8_init.cls ≠ "java/lang/invoke/MethodHandle" ∧ yX8_init.cls ≠ "java/lang/invoke/VarHandle" ∧ (parseMethodDescriptor yX8_init.desc).map (fun d => d.parameters.length) = some 0 := by decide +kernel
theorem cd_X8_init : Cond.code yX8_init cX8_init 1 none ∈ wsA := (inA1 24 rfl rfl)
theorem in_X8_init : Cond.initialized yX8_init.cls ∈ wsA := (inA1 1 rfl rfl)
theorem ii_X8_init : yX8_init.name = "<init>" ∧ Cond.instanceMethod yX8_init ∈ wsA := ⟨rfl, (inA1 23 rfl rfl)⟩
theorem mk_L_9 : MK RL 9 yX8_init cX8_init 1 none 0 := ⟨(inA1 22 rfl rfl), in_X8_init, cd_X8_init, pn_X8_init⟩
theorem cl_L_10 : Cond.classLink RL 10 "WatchServerModel" ∈ wsA := (inA4 76 rfl rfl)
theorem nk_L_10 : NK RL 10 10 62 [.int 0, .int 0, .null, .null, .int 0, .null, .null, .null, .int 0, .null, .null, .null, .null, .null, .null, .int 0, .null, .null, .null, .null, .null, .null, .null, .null, .null, .null, .null, .null, .null, .null, .int 0, .null, .int 0, .null, .null, .null, .null, .null, .null, .null, .null, .null, .null, .null, .null, .null, .null, .null, .int 0, .null, .null, .null, .null, .null, .null, .null, .null, .null, .null, .long 0, .int 0, .null] := ⟨RX9, TX9, tyX9, ci_X9, cl_L_10, (inA4 77 rfl rfl), (inA1 5 rfl rfl), fun j hj => match j, hj with | 0, _ => rfl | 1, _ => rfl | 2, _ => rfl | 3, _ => rfl | 4, _ => rfl | 5, _ => rfl | 6, _ => rfl | 7, _ => rfl | 8, _ => rfl | 9, _ => rfl | 10, _ => rfl | 11, _ => rfl | 12, _ => rfl | 13, _ => rfl | 14, _ => rfl | 15, _ => rfl | 16, _ => rfl | 17, _ => rfl | 18, _ => rfl | 19, _ => rfl | 20, _ => rfl | 21, _ => rfl | 22, _ => rfl | 23, _ => rfl | 24, _ => rfl | 25, _ => rfl | 26, _ => rfl | 27, _ => rfl | 28, _ => rfl | 29, _ => rfl | 30, _ => rfl | 31, _ => rfl | 32, _ => rfl | 33, _ => rfl | 34, _ => rfl | 35, _ => rfl | 36, _ => rfl | 37, _ => rfl | 38, _ => rfl | 39, _ => rfl | 40, _ => rfl | 41, _ => rfl | 42, _ => rfl | 43, _ => rfl | 44, _ => rfl | 45, _ => rfl | 46, _ => rfl | 47, _ => rfl | 48, _ => rfl | 49, _ => rfl | 50, _ => rfl | 51, _ => rfl | 52, _ => rfl | 53, _ => rfl | 54, _ => rfl | 55, _ => rfl | 56, _ => rfl | 57, _ => rfl | 58, _ => rfl | 59, _ => rfl | 60, _ => rfl | 61, _ => rfl | j + 62, h => absurd h (Nat.not_lt.mpr (Nat.le_add_left _ _)), nrf_of rfl⟩
theorem pn_X9_init : yX9_init.cls ≠ "java/lang/invoke/MethodHandle" ∧ yX9_init.cls ≠ "java/lang/invoke/VarHandle" ∧ (parseMethodDescriptor yX9_init.desc).map (fun d => d.parameters.length) = some 0 := by decide +kernel
theorem cd_X9_init : Cond.code yX9_init cX9_init 1 none ∈ wsA := (inA4 80 rfl rfl)
theorem in_X9_init : Cond.initialized yX9_init.cls ∈ wsA := (inA1 5 rfl rfl)
theorem ii_X9_init : yX9_init.name = "<init>" ∧ Cond.instanceMethod yX9_init ∈ wsA := ⟨rfl, (inA4 79 rfl rfl)⟩
theorem mk_L_12 : MK RL 12 yX9_init cX9_init 1 none 0 := ⟨(inA4 78 rfl rfl), in_X9_init, cd_X9_init, pn_X9_init⟩
theorem pn_X8_node : yX8_node.cls ≠ "java/lang/invoke/MethodHandle" ∧ yX8_node.cls ≠ "java/lang/invoke/VarHandle" ∧ (parseMethodDescriptor yX8_node.desc).map (fun d => d.parameters.length) = some 1 := by decide +kernel
theorem cd_X8_node : Cond.code yX8_node cX8_node 2 (some .int) ∈ wsA := (inA1 92 rfl rfl)
theorem in_X8_node : Cond.initialized yX8_node.cls ∈ wsA := (inA1 1 rfl rfl)
theorem iv_X8_node : Cond.instanceMethod yX8_node ∈ wsA ∧ Cond.selects yX8_node.cls yX8_node yX8_node ∈ wsA := ⟨(inA1 90 rfl rfl), (inA1 91 rfl rfl)⟩
theorem mk_L_13 : MK RL 13 yX8_node cX8_node 2 (some .int) 1 := ⟨(inA1 89 rfl rfl), in_X8_node, cd_X8_node, pn_X8_node⟩
theorem pn_X9_node : yX9_node.cls ≠ "java/lang/invoke/MethodHandle" ∧ yX9_node.cls ≠ "java/lang/invoke/VarHandle" ∧ (parseMethodDescriptor yX9_node.desc).map (fun d => d.parameters.length) = some 1 := by decide +kernel
theorem cd_X9_node : Cond.code yX9_node cX9_node 2 (some .int) ∈ wsA := (inA5 35 rfl rfl)
theorem in_X9_node : Cond.initialized yX9_node.cls ∈ wsA := (inA1 5 rfl rfl)
theorem iv_X9_node : Cond.instanceMethod yX9_node ∈ wsA ∧ Cond.selects yX9_node.cls yX9_node yX9_node ∈ wsA := ⟨(inA5 33 rfl rfl), (inA5 34 rfl rfl)⟩
theorem mk_L_17 : MK RL 17 yX9_node cX9_node 2 (some .int) 1 := ⟨(inA5 32 rfl rfl), in_X9_node, cd_X9_node, pn_X9_node⟩
theorem pn_X8_refer : yX8_refer.cls ≠ "java/lang/invoke/MethodHandle" ∧ yX8_refer.cls ≠ "java/lang/invoke/VarHandle" ∧ (parseMethodDescriptor yX8_refer.desc).map (fun d => d.parameters.length) = some 3 := by decide +kernel
theorem cd_X8_refer : Cond.code yX8_refer cX8_refer 4 (some .int) ∈ wsA := (inA1 185 rfl rfl)
theorem in_X8_refer : Cond.initialized yX8_refer.cls ∈ wsA := (inA1 1 rfl rfl)
theorem iv_X8_refer : Cond.instanceMethod yX8_refer ∈ wsA ∧ Cond.selects yX8_refer.cls yX8_refer yX8_refer ∈ wsA := ⟨(inA1 183 rfl rfl), (inA1 184 rfl rfl)⟩
theorem mk_L_18 : MK RL 18 yX8_refer cX8_refer 4 (some .int) 3 := ⟨(inA1 182 rfl rfl), in_X8_refer, cd_X8_refer, pn_X8_refer⟩
theorem pn_X9_refer : yX9_refer.cls ≠ "java/lang/invoke/MethodHandle" ∧ yX9_refer.cls ≠ "java/lang/invoke/VarHandle" ∧ (parseMethodDescriptor yX9_refer.desc).map (fun d => d.parameters.length) = some 3 := by decide +kernel
theorem cd_X9_refer : Cond.code yX9_refer cX9_refer 4 (some .int) ∈ wsA := (inA5 47 rfl rfl)
theorem in_X9_refer : Cond.initialized yX9_refer.cls ∈ wsA := (inA1 5 rfl rfl)
theorem iv_X9_refer : Cond.instanceMethod yX9_refer ∈ wsA ∧ Cond.selects yX9_refer.cls yX9_refer yX9_refer ∈ wsA := ⟨(inA5 45 rfl rfl), (inA5 46 rfl rfl)⟩
theorem mk_L_22 : MK RL 22 yX9_refer cX9_refer 4 (some .int) 3 := ⟨(inA5 44 rfl rfl), in_X9_refer, cd_X9_refer, pn_X9_refer⟩
theorem kc_L_23 : Cond.constantLong RL 23 (4294967295 : Int64) ∈ wsA := (inA6 18 rfl rfl)
theorem pn_X8_change : yX8_change.cls ≠ "java/lang/invoke/MethodHandle" ∧ yX8_change.cls ≠ "java/lang/invoke/VarHandle" ∧ (parseMethodDescriptor yX8_change.desc).map (fun d => d.parameters.length) = some 2 := by decide +kernel
theorem cd_X8_change : Cond.code yX8_change cX8_change 5 (some .int) ∈ wsA := (inA1 223 rfl rfl)
theorem in_X8_change : Cond.initialized yX8_change.cls ∈ wsA := (inA1 1 rfl rfl)
theorem iv_X8_change : Cond.instanceMethod yX8_change ∈ wsA ∧ Cond.selects yX8_change.cls yX8_change yX8_change ∈ wsA := ⟨(inA1 221 rfl rfl), (inA1 222 rfl rfl)⟩
theorem mk_L_25 : MK RL 25 yX8_change cX8_change 5 (some .int) 2 := ⟨(inA1 220 rfl rfl), in_X8_change, cd_X8_change, pn_X8_change⟩
theorem pn_X9_change : yX9_change.cls ≠ "java/lang/invoke/MethodHandle" ∧ yX9_change.cls ≠ "java/lang/invoke/VarHandle" ∧ (parseMethodDescriptor yX9_change.desc).map (fun d => d.parameters.length) = some 2 := by decide +kernel
theorem cd_X9_change : Cond.code yX9_change cX9_change 4 (some .int) ∈ wsA := (inA5 56 rfl rfl)
theorem in_X9_change : Cond.initialized yX9_change.cls ∈ wsA := (inA1 5 rfl rfl)
theorem iv_X9_change : Cond.instanceMethod yX9_change ∈ wsA ∧ Cond.selects yX9_change.cls yX9_change yX9_change ∈ wsA := ⟨(inA5 54 rfl rfl), (inA5 55 rfl rfl)⟩
theorem mk_L_29 : MK RL 29 yX9_change cX9_change 4 (some .int) 2 := ⟨(inA5 53 rfl rfl), in_X9_change, cd_X9_change, pn_X9_change⟩
theorem pn_X8_tick : yX8_tick.cls ≠ "java/lang/invoke/MethodHandle" ∧ yX8_tick.cls ≠ "java/lang/invoke/VarHandle" ∧ (parseMethodDescriptor yX8_tick.desc).map (fun d => d.parameters.length) = some 1 := by decide +kernel
theorem cd_X8_tick : Cond.code yX8_tick cX8_tick 4 (some .int) ∈ wsA := (inA1 231 rfl rfl)
theorem in_X8_tick : Cond.initialized yX8_tick.cls ∈ wsA := (inA1 1 rfl rfl)
theorem iv_X8_tick : Cond.instanceMethod yX8_tick ∈ wsA ∧ Cond.selects yX8_tick.cls yX8_tick yX8_tick ∈ wsA := ⟨(inA1 229 rfl rfl), (inA1 230 rfl rfl)⟩
theorem mk_L_30 : MK RL 30 yX8_tick cX8_tick 4 (some .int) 1 := ⟨(inA1 228 rfl rfl), in_X8_tick, cd_X8_tick, pn_X8_tick⟩
theorem pn_X9_tick : yX9_tick.cls ≠ "java/lang/invoke/MethodHandle" ∧ yX9_tick.cls ≠ "java/lang/invoke/VarHandle" ∧ (parseMethodDescriptor yX9_tick.desc).map (fun d => d.parameters.length) = some 1 := by decide +kernel
theorem cd_X9_tick : Cond.code yX9_tick cX9_tick 4 (some .int) ∈ wsA := (inA5 64 rfl rfl)
theorem in_X9_tick : Cond.initialized yX9_tick.cls ∈ wsA := (inA1 5 rfl rfl)
theorem iv_X9_tick : Cond.instanceMethod yX9_tick ∈ wsA ∧ Cond.selects yX9_tick.cls yX9_tick yX9_tick ∈ wsA := ⟨(inA5 62 rfl rfl), (inA5 63 rfl rfl)⟩
theorem mk_L_33 : MK RL 33 yX9_tick cX9_tick 4 (some .int) 1 := ⟨(inA5 61 rfl rfl), in_X9_tick, cd_X9_tick, pn_X9_tick⟩
theorem pn_X8_session : yX8_session.cls ≠ "java/lang/invoke/MethodHandle" ∧ yX8_session.cls ≠ "java/lang/invoke/VarHandle" ∧ (parseMethodDescriptor yX8_session.desc).map (fun d => d.parameters.length) = some 1 := by decide +kernel
theorem cd_X8_session : Cond.code yX8_session cX8_session 2 (some .int) ∈ wsA := (inA2 164 rfl rfl)
theorem in_X8_session : Cond.initialized yX8_session.cls ∈ wsA := (inA1 1 rfl rfl)
theorem iv_X8_session : Cond.instanceMethod yX8_session ∈ wsA ∧ Cond.selects yX8_session.cls yX8_session yX8_session ∈ wsA := ⟨(inA2 162 rfl rfl), (inA2 163 rfl rfl)⟩
theorem mk_L_34 : MK RL 34 yX8_session cX8_session 2 (some .int) 1 := ⟨(inA2 161 rfl rfl), in_X8_session, cd_X8_session, pn_X8_session⟩
theorem pn_X9_session : yX9_session.cls ≠ "java/lang/invoke/MethodHandle" ∧ yX9_session.cls ≠ "java/lang/invoke/VarHandle" ∧ (parseMethodDescriptor yX9_session.desc).map (fun d => d.parameters.length) = some 1 := by decide +kernel
theorem cd_X9_session : Cond.code yX9_session cX9_session 2 (some .int) ∈ wsA := (inA5 126 rfl rfl)
theorem in_X9_session : Cond.initialized yX9_session.cls ∈ wsA := (inA1 5 rfl rfl)
theorem iv_X9_session : Cond.instanceMethod yX9_session ∈ wsA ∧ Cond.selects yX9_session.cls yX9_session yX9_session ∈ wsA := ⟨(inA5 124 rfl rfl), (inA5 125 rfl rfl)⟩
theorem mk_L_37 : MK RL 37 yX9_session cX9_session 2 (some .int) 1 := ⟨(inA5 123 rfl rfl), in_X9_session, cd_X9_session, pn_X9_session⟩
theorem pn_X8_activate : yX8_activate.cls ≠ "java/lang/invoke/MethodHandle" ∧ yX8_activate.cls ≠ "java/lang/invoke/VarHandle" ∧ (parseMethodDescriptor yX8_activate.desc).map (fun d => d.parameters.length) = some 1 := by decide +kernel
theorem cd_X8_activate : Cond.code yX8_activate cX8_activate 3 (some .int) ∈ wsA := (inA2 199 rfl rfl)
theorem in_X8_activate : Cond.initialized yX8_activate.cls ∈ wsA := (inA1 1 rfl rfl)
theorem iv_X8_activate : Cond.instanceMethod yX8_activate ∈ wsA ∧ Cond.selects yX8_activate.cls yX8_activate yX8_activate ∈ wsA := ⟨(inA2 197 rfl rfl), (inA2 198 rfl rfl)⟩
theorem mk_L_38 : MK RL 38 yX8_activate cX8_activate 3 (some .int) 1 := ⟨(inA2 196 rfl rfl), in_X8_activate, cd_X8_activate, pn_X8_activate⟩
theorem pn_X9_activate : yX9_activate.cls ≠ "java/lang/invoke/MethodHandle" ∧ yX9_activate.cls ≠ "java/lang/invoke/VarHandle" ∧ (parseMethodDescriptor yX9_activate.desc).map (fun d => d.parameters.length) = some 1 := by decide +kernel
theorem cd_X9_activate : Cond.code yX9_activate cX9_activate 2 (some .int) ∈ wsA := (inA5 130 rfl rfl)
theorem in_X9_activate : Cond.initialized yX9_activate.cls ∈ wsA := (inA1 5 rfl rfl)
theorem iv_X9_activate : Cond.instanceMethod yX9_activate ∈ wsA ∧ Cond.selects yX9_activate.cls yX9_activate yX9_activate ∈ wsA := ⟨(inA5 128 rfl rfl), (inA5 129 rfl rfl)⟩
theorem mk_L_41 : MK RL 41 yX9_activate cX9_activate 2 (some .int) 1 := ⟨(inA5 127 rfl rfl), in_X9_activate, cd_X9_activate, pn_X9_activate⟩
theorem pn_X8_close : yX8_close.cls ≠ "java/lang/invoke/MethodHandle" ∧ yX8_close.cls ≠ "java/lang/invoke/VarHandle" ∧ (parseMethodDescriptor yX8_close.desc).map (fun d => d.parameters.length) = some 1 := by decide +kernel
theorem cd_X8_close : Cond.code yX8_close cX8_close 3 (some .int) ∈ wsA := (inA2 215 rfl rfl)
theorem in_X8_close : Cond.initialized yX8_close.cls ∈ wsA := (inA1 1 rfl rfl)
theorem iv_X8_close : Cond.instanceMethod yX8_close ∈ wsA ∧ Cond.selects yX8_close.cls yX8_close yX8_close ∈ wsA := ⟨(inA2 213 rfl rfl), (inA2 214 rfl rfl)⟩
theorem mk_L_42 : MK RL 42 yX8_close cX8_close 3 (some .int) 1 := ⟨(inA2 212 rfl rfl), in_X8_close, cd_X8_close, pn_X8_close⟩
theorem pn_X9_close : yX9_close.cls ≠ "java/lang/invoke/MethodHandle" ∧ yX9_close.cls ≠ "java/lang/invoke/VarHandle" ∧ (parseMethodDescriptor yX9_close.desc).map (fun d => d.parameters.length) = some 1 := by decide +kernel
theorem cd_X9_close : Cond.code yX9_close cX9_close 3 (some .int) ∈ wsA := (inA5 134 rfl rfl)
theorem in_X9_close : Cond.initialized yX9_close.cls ∈ wsA := (inA1 5 rfl rfl)
theorem iv_X9_close : Cond.instanceMethod yX9_close ∈ wsA ∧ Cond.selects yX9_close.cls yX9_close yX9_close ∈ wsA := ⟨(inA5 132 rfl rfl), (inA5 133 rfl rfl)⟩
theorem mk_L_45 : MK RL 45 yX9_close cX9_close 3 (some .int) 1 := ⟨(inA5 131 rfl rfl), in_X9_close, cd_X9_close, pn_X9_close⟩
theorem pn_X8_browse : yX8_browse.cls ≠ "java/lang/invoke/MethodHandle" ∧ yX8_browse.cls ≠ "java/lang/invoke/VarHandle" ∧ (parseMethodDescriptor yX8_browse.desc).map (fun d => d.parameters.length) = some 5 := by decide +kernel
theorem cd_X8_browse : Cond.code yX8_browse cX8_browse 9 (some .int) ∈ wsA := (inA2 223 rfl rfl)
theorem in_X8_browse : Cond.initialized yX8_browse.cls ∈ wsA := (inA1 1 rfl rfl)
theorem iv_X8_browse : Cond.instanceMethod yX8_browse ∈ wsA ∧ Cond.selects yX8_browse.cls yX8_browse yX8_browse ∈ wsA := ⟨(inA2 221 rfl rfl), (inA2 222 rfl rfl)⟩
theorem mk_L_46 : MK RL 46 yX8_browse cX8_browse 9 (some .int) 5 := ⟨(inA2 220 rfl rfl), in_X8_browse, cd_X8_browse, pn_X8_browse⟩
theorem pn_X9_browse : yX9_browse.cls ≠ "java/lang/invoke/MethodHandle" ∧ yX9_browse.cls ≠ "java/lang/invoke/VarHandle" ∧ (parseMethodDescriptor yX9_browse.desc).map (fun d => d.parameters.length) = some 5 := by decide +kernel
theorem cd_X9_browse : Cond.code yX9_browse cX9_browse 11 (some .int) ∈ wsA := (inA5 142 rfl rfl)
theorem in_X9_browse : Cond.initialized yX9_browse.cls ∈ wsA := (inA1 5 rfl rfl)
theorem iv_X9_browse : Cond.instanceMethod yX9_browse ∈ wsA ∧ Cond.selects yX9_browse.cls yX9_browse yX9_browse ∈ wsA := ⟨(inA5 140 rfl rfl), (inA5 141 rfl rfl)⟩
theorem mk_L_50 : MK RL 50 yX9_browse cX9_browse 11 (some .int) 5 := ⟨(inA5 139 rfl rfl), in_X9_browse, cd_X9_browse, pn_X9_browse⟩
theorem pn_X8_read : yX8_read.cls ≠ "java/lang/invoke/MethodHandle" ∧ yX8_read.cls ≠ "java/lang/invoke/VarHandle" ∧ (parseMethodDescriptor yX8_read.desc).map (fun d => d.parameters.length) = some 2 := by decide +kernel
theorem cd_X8_read : Cond.code yX8_read cX8_read 4 (some .int) ∈ wsA := (inA2 239 rfl rfl)
theorem in_X8_read : Cond.initialized yX8_read.cls ∈ wsA := (inA1 1 rfl rfl)
theorem iv_X8_read : Cond.instanceMethod yX8_read ∈ wsA ∧ Cond.selects yX8_read.cls yX8_read yX8_read ∈ wsA := ⟨(inA2 237 rfl rfl), (inA2 238 rfl rfl)⟩
theorem mk_L_51 : MK RL 51 yX8_read cX8_read 4 (some .int) 2 := ⟨(inA2 236 rfl rfl), in_X8_read, cd_X8_read, pn_X8_read⟩
theorem pn_X9_read : yX9_read.cls ≠ "java/lang/invoke/MethodHandle" ∧ yX9_read.cls ≠ "java/lang/invoke/VarHandle" ∧ (parseMethodDescriptor yX9_read.desc).map (fun d => d.parameters.length) = some 2 := by decide +kernel
theorem cd_X9_read : Cond.code yX9_read cX9_read 4 (some .int) ∈ wsA := (inA5 146 rfl rfl)
theorem in_X9_read : Cond.initialized yX9_read.cls ∈ wsA := (inA1 5 rfl rfl)
theorem iv_X9_read : Cond.instanceMethod yX9_read ∈ wsA ∧ Cond.selects yX9_read.cls yX9_read yX9_read ∈ wsA := ⟨(inA5 144 rfl rfl), (inA5 145 rfl rfl)⟩
theorem mk_L_55 : MK RL 55 yX9_read cX9_read 4 (some .int) 2 := ⟨(inA5 143 rfl rfl), in_X9_read, cd_X9_read, pn_X9_read⟩
theorem pn_X8_value : yX8_value.cls ≠ "java/lang/invoke/MethodHandle" ∧ yX8_value.cls ≠ "java/lang/invoke/VarHandle" ∧ (parseMethodDescriptor yX8_value.desc).map (fun d => d.parameters.length) = some 0 := by decide +kernel
theorem cd_X8_value : Cond.code yX8_value cX8_value 1 (some .long) ∈ wsA := (inA3 3 rfl rfl)
theorem in_X8_value : Cond.initialized yX8_value.cls ∈ wsA := (inA1 1 rfl rfl)
theorem iv_X8_value : Cond.instanceMethod yX8_value ∈ wsA ∧ Cond.selects yX8_value.cls yX8_value yX8_value ∈ wsA := ⟨(inA3 1 rfl rfl), (inA3 2 rfl rfl)⟩
theorem mk_L_56 : MK RL 56 yX8_value cX8_value 1 (some .long) 0 := ⟨(inA3 0 rfl rfl), in_X8_value, cd_X8_value, pn_X8_value⟩
theorem pn_X9_value : yX9_value.cls ≠ "java/lang/invoke/MethodHandle" ∧ yX9_value.cls ≠ "java/lang/invoke/VarHandle" ∧ (parseMethodDescriptor yX9_value.desc).map (fun d => d.parameters.length) = some 0 := by decide +kernel
theorem cd_X9_value : Cond.code yX9_value cX9_value 1 (some .long) ∈ wsA := (inA5 150 rfl rfl)
theorem in_X9_value : Cond.initialized yX9_value.cls ∈ wsA := (inA1 5 rfl rfl)
theorem iv_X9_value : Cond.instanceMethod yX9_value ∈ wsA ∧ Cond.selects yX9_value.cls yX9_value yX9_value ∈ wsA := ⟨(inA5 148 rfl rfl), (inA5 149 rfl rfl)⟩
theorem mk_L_60 : MK RL 60 yX9_value cX9_value 1 (some .long) 0 := ⟨(inA5 147 rfl rfl), in_X9_value, cd_X9_value, pn_X9_value⟩
theorem pn_X8_write : yX8_write.cls ≠ "java/lang/invoke/MethodHandle" ∧ yX8_write.cls ≠ "java/lang/invoke/VarHandle" ∧ (parseMethodDescriptor yX8_write.desc).map (fun d => d.parameters.length) = some 3 := by decide +kernel
theorem cd_X8_write : Cond.code yX8_write cX8_write 6 (some .int) ∈ wsA := (inA3 7 rfl rfl)
theorem in_X8_write : Cond.initialized yX8_write.cls ∈ wsA := (inA1 1 rfl rfl)
theorem iv_X8_write : Cond.instanceMethod yX8_write ∈ wsA ∧ Cond.selects yX8_write.cls yX8_write yX8_write ∈ wsA := ⟨(inA3 5 rfl rfl), (inA3 6 rfl rfl)⟩
theorem mk_L_61 : MK RL 61 yX8_write cX8_write 6 (some .int) 3 := ⟨(inA3 4 rfl rfl), in_X8_write, cd_X8_write, pn_X8_write⟩
theorem pn_X9_write : yX9_write.cls ≠ "java/lang/invoke/MethodHandle" ∧ yX9_write.cls ≠ "java/lang/invoke/VarHandle" ∧ (parseMethodDescriptor yX9_write.desc).map (fun d => d.parameters.length) = some 3 := by decide +kernel
theorem cd_X9_write : Cond.code yX9_write cX9_write 6 (some .int) ∈ wsA := (inA5 154 rfl rfl)
theorem in_X9_write : Cond.initialized yX9_write.cls ∈ wsA := (inA1 5 rfl rfl)
theorem iv_X9_write : Cond.instanceMethod yX9_write ∈ wsA ∧ Cond.selects yX9_write.cls yX9_write yX9_write ∈ wsA := ⟨(inA5 152 rfl rfl), (inA5 153 rfl rfl)⟩
theorem mk_L_65 : MK RL 65 yX9_write cX9_write 6 (some .int) 3 := ⟨(inA5 151 rfl rfl), in_X9_write, cd_X9_write, pn_X9_write⟩
theorem pn_X8_subscribe : yX8_subscribe.cls ≠ "java/lang/invoke/MethodHandle" ∧ yX8_subscribe.cls ≠ "java/lang/invoke/VarHandle" ∧ (parseMethodDescriptor yX8_subscribe.desc).map (fun d => d.parameters.length) = some 5 := by decide +kernel
theorem cd_X8_subscribe : Cond.code yX8_subscribe cX8_subscribe 8 (some .int) ∈ wsA := (inA3 11 rfl rfl)
theorem in_X8_subscribe : Cond.initialized yX8_subscribe.cls ∈ wsA := (inA1 1 rfl rfl)
theorem iv_X8_subscribe : Cond.instanceMethod yX8_subscribe ∈ wsA ∧ Cond.selects yX8_subscribe.cls yX8_subscribe yX8_subscribe ∈ wsA := ⟨(inA3 9 rfl rfl), (inA3 10 rfl rfl)⟩
theorem mk_L_66 : MK RL 66 yX8_subscribe cX8_subscribe 8 (some .int) 5 := ⟨(inA3 8 rfl rfl), in_X8_subscribe, cd_X8_subscribe, pn_X8_subscribe⟩
theorem pn_X9_subscribe : yX9_subscribe.cls ≠ "java/lang/invoke/MethodHandle" ∧ yX9_subscribe.cls ≠ "java/lang/invoke/VarHandle" ∧ (parseMethodDescriptor yX9_subscribe.desc).map (fun d => d.parameters.length) = some 5 := by decide +kernel
theorem cd_X9_subscribe : Cond.code yX9_subscribe cX9_subscribe 8 (some .int) ∈ wsA := (inA5 158 rfl rfl)
theorem in_X9_subscribe : Cond.initialized yX9_subscribe.cls ∈ wsA := (inA1 5 rfl rfl)
theorem iv_X9_subscribe : Cond.instanceMethod yX9_subscribe ∈ wsA ∧ Cond.selects yX9_subscribe.cls yX9_subscribe yX9_subscribe ∈ wsA := ⟨(inA5 156 rfl rfl), (inA5 157 rfl rfl)⟩
theorem mk_L_69 : MK RL 69 yX9_subscribe cX9_subscribe 8 (some .int) 5 := ⟨(inA5 155 rfl rfl), in_X9_subscribe, cd_X9_subscribe, pn_X9_subscribe⟩
theorem pn_X8_modify : yX8_modify.cls ≠ "java/lang/invoke/MethodHandle" ∧ yX8_modify.cls ≠ "java/lang/invoke/VarHandle" ∧ (parseMethodDescriptor yX8_modify.desc).map (fun d => d.parameters.length) = some 6 := by decide +kernel
theorem cd_X8_modify : Cond.code yX8_modify cX8_modify 9 (some .int) ∈ wsA := (inA3 102 rfl rfl)
theorem in_X8_modify : Cond.initialized yX8_modify.cls ∈ wsA := (inA1 1 rfl rfl)
theorem iv_X8_modify : Cond.instanceMethod yX8_modify ∈ wsA ∧ Cond.selects yX8_modify.cls yX8_modify yX8_modify ∈ wsA := ⟨(inA3 100 rfl rfl), (inA3 101 rfl rfl)⟩
theorem mk_L_70 : MK RL 70 yX8_modify cX8_modify 9 (some .int) 6 := ⟨(inA3 99 rfl rfl), in_X8_modify, cd_X8_modify, pn_X8_modify⟩
theorem pn_X9_modify : yX9_modify.cls ≠ "java/lang/invoke/MethodHandle" ∧ yX9_modify.cls ≠ "java/lang/invoke/VarHandle" ∧ (parseMethodDescriptor yX9_modify.desc).map (fun d => d.parameters.length) = some 6 := by decide +kernel
theorem cd_X9_modify : Cond.code yX9_modify cX9_modify 8 (some .int) ∈ wsA := (inA5 173 rfl rfl)
theorem in_X9_modify : Cond.initialized yX9_modify.cls ∈ wsA := (inA1 5 rfl rfl)
theorem iv_X9_modify : Cond.instanceMethod yX9_modify ∈ wsA ∧ Cond.selects yX9_modify.cls yX9_modify yX9_modify ∈ wsA := ⟨(inA5 171 rfl rfl), (inA5 172 rfl rfl)⟩
theorem mk_L_74 : MK RL 74 yX9_modify cX9_modify 8 (some .int) 6 := ⟨(inA5 170 rfl rfl), in_X9_modify, cd_X9_modify, pn_X9_modify⟩
theorem pn_X8_turn : yX8_turn.cls ≠ "java/lang/invoke/MethodHandle" ∧ yX8_turn.cls ≠ "java/lang/invoke/VarHandle" ∧ (parseMethodDescriptor yX8_turn.desc).map (fun d => d.parameters.length) = some 3 := by decide +kernel
theorem cd_X8_turn : Cond.code yX8_turn cX8_turn 7 (some .int) ∈ wsA := (inA3 114 rfl rfl)
theorem in_X8_turn : Cond.initialized yX8_turn.cls ∈ wsA := (inA1 1 rfl rfl)
theorem iv_X8_turn : Cond.instanceMethod yX8_turn ∈ wsA ∧ Cond.selects yX8_turn.cls yX8_turn yX8_turn ∈ wsA := ⟨(inA3 112 rfl rfl), (inA3 113 rfl rfl)⟩
theorem mk_L_75 : MK RL 75 yX8_turn cX8_turn 7 (some .int) 3 := ⟨(inA3 111 rfl rfl), in_X8_turn, cd_X8_turn, pn_X8_turn⟩
theorem pn_X9_turn : yX9_turn.cls ≠ "java/lang/invoke/MethodHandle" ∧ yX9_turn.cls ≠ "java/lang/invoke/VarHandle" ∧ (parseMethodDescriptor yX9_turn.desc).map (fun d => d.parameters.length) = some 3 := by decide +kernel
theorem cd_X9_turn : Cond.code yX9_turn cX9_turn 6 (some .int) ∈ wsA := (inA5 181 rfl rfl)
theorem in_X9_turn : Cond.initialized yX9_turn.cls ∈ wsA := (inA1 5 rfl rfl)
theorem iv_X9_turn : Cond.instanceMethod yX9_turn ∈ wsA ∧ Cond.selects yX9_turn.cls yX9_turn yX9_turn ∈ wsA := ⟨(inA5 179 rfl rfl), (inA5 180 rfl rfl)⟩
theorem mk_L_79 : MK RL 79 yX9_turn cX9_turn 6 (some .int) 3 := ⟨(inA5 178 rfl rfl), in_X9_turn, cd_X9_turn, pn_X9_turn⟩
theorem pn_X8_transfer : yX8_transfer.cls ≠ "java/lang/invoke/MethodHandle" ∧ yX8_transfer.cls ≠ "java/lang/invoke/VarHandle" ∧ (parseMethodDescriptor yX8_transfer.desc).map (fun d => d.parameters.length) = some 2 := by decide +kernel
theorem cd_X8_transfer : Cond.code yX8_transfer cX8_transfer 6 (some .int) ∈ wsA := (inA3 121 rfl rfl)
theorem in_X8_transfer : Cond.initialized yX8_transfer.cls ∈ wsA := (inA1 1 rfl rfl)
theorem iv_X8_transfer : Cond.instanceMethod yX8_transfer ∈ wsA ∧ Cond.selects yX8_transfer.cls yX8_transfer yX8_transfer ∈ wsA := ⟨(inA3 119 rfl rfl), (inA3 120 rfl rfl)⟩
theorem mk_L_80 : MK RL 80 yX8_transfer cX8_transfer 6 (some .int) 2 := ⟨(inA3 118 rfl rfl), in_X8_transfer, cd_X8_transfer, pn_X8_transfer⟩
theorem pn_X9_transfer : yX9_transfer.cls ≠ "java/lang/invoke/MethodHandle" ∧ yX9_transfer.cls ≠ "java/lang/invoke/VarHandle" ∧ (parseMethodDescriptor yX9_transfer.desc).map (fun d => d.parameters.length) = some 2 := by decide +kernel
theorem cd_X9_transfer : Cond.code yX9_transfer cX9_transfer 5 (some .int) ∈ wsA := (inA5 185 rfl rfl)
theorem in_X9_transfer : Cond.initialized yX9_transfer.cls ∈ wsA := (inA1 5 rfl rfl)
theorem iv_X9_transfer : Cond.instanceMethod yX9_transfer ∈ wsA ∧ Cond.selects yX9_transfer.cls yX9_transfer yX9_transfer ∈ wsA := ⟨(inA5 183 rfl rfl), (inA5 184 rfl rfl)⟩
theorem mk_L_83 : MK RL 83 yX9_transfer cX9_transfer 5 (some .int) 2 := ⟨(inA5 182 rfl rfl), in_X9_transfer, cd_X9_transfer, pn_X9_transfer⟩
theorem pn_X8_unsubscribe : yX8_unsubscribe.cls ≠ "java/lang/invoke/MethodHandle" ∧ yX8_unsubscribe.cls ≠ "java/lang/invoke/VarHandle" ∧ (parseMethodDescriptor yX8_unsubscribe.desc).map (fun d => d.parameters.length) = some 2 := by decide +kernel
theorem cd_X8_unsubscribe : Cond.code yX8_unsubscribe cX8_unsubscribe 5 (some .int) ∈ wsA := (inA3 125 rfl rfl)
theorem in_X8_unsubscribe : Cond.initialized yX8_unsubscribe.cls ∈ wsA := (inA1 1 rfl rfl)
theorem iv_X8_unsubscribe : Cond.instanceMethod yX8_unsubscribe ∈ wsA ∧ Cond.selects yX8_unsubscribe.cls yX8_unsubscribe yX8_unsubscribe ∈ wsA := ⟨(inA3 123 rfl rfl), (inA3 124 rfl rfl)⟩
theorem mk_L_84 : MK RL 84 yX8_unsubscribe cX8_unsubscribe 5 (some .int) 2 := ⟨(inA3 122 rfl rfl), in_X8_unsubscribe, cd_X8_unsubscribe, pn_X8_unsubscribe⟩
theorem pn_X9_unsubscribe : yX9_unsubscribe.cls ≠ "java/lang/invoke/MethodHandle" ∧ yX9_unsubscribe.cls ≠ "java/lang/invoke/VarHandle" ∧ (parseMethodDescriptor yX9_unsubscribe.desc).map (fun d => d.parameters.length) = some 2 := by decide +kernel
theorem cd_X9_unsubscribe : Cond.code yX9_unsubscribe cX9_unsubscribe 4 (some .int) ∈ wsA := (inA5 189 rfl rfl)
theorem in_X9_unsubscribe : Cond.initialized yX9_unsubscribe.cls ∈ wsA := (inA1 5 rfl rfl)
theorem iv_X9_unsubscribe : Cond.instanceMethod yX9_unsubscribe ∈ wsA ∧ Cond.selects yX9_unsubscribe.cls yX9_unsubscribe yX9_unsubscribe ∈ wsA := ⟨(inA5 187 rfl rfl), (inA5 188 rfl rfl)⟩
theorem mk_L_87 : MK RL 87 yX9_unsubscribe cX9_unsubscribe 4 (some .int) 2 := ⟨(inA5 186 rfl rfl), in_X9_unsubscribe, cd_X9_unsubscribe, pn_X9_unsubscribe⟩
theorem pn_X8_item : yX8_item.cls ≠ "java/lang/invoke/MethodHandle" ∧ yX8_item.cls ≠ "java/lang/invoke/VarHandle" ∧ (parseMethodDescriptor yX8_item.desc).map (fun d => d.parameters.length) = some 8 := by decide +kernel
theorem cd_X8_item : Cond.code yX8_item cX8_item 14 (some .int) ∈ wsA := (inA3 129 rfl rfl)
theorem in_X8_item : Cond.initialized yX8_item.cls ∈ wsA := (inA1 1 rfl rfl)
theorem iv_X8_item : Cond.instanceMethod yX8_item ∈ wsA ∧ Cond.selects yX8_item.cls yX8_item yX8_item ∈ wsA := ⟨(inA3 127 rfl rfl), (inA3 128 rfl rfl)⟩
theorem mk_L_88 : MK RL 88 yX8_item cX8_item 14 (some .int) 8 := ⟨(inA3 126 rfl rfl), in_X8_item, cd_X8_item, pn_X8_item⟩
theorem pn_X9_item : yX9_item.cls ≠ "java/lang/invoke/MethodHandle" ∧ yX9_item.cls ≠ "java/lang/invoke/VarHandle" ∧ (parseMethodDescriptor yX9_item.desc).map (fun d => d.parameters.length) = some 8 := by decide +kernel
theorem cd_X9_item : Cond.code yX9_item cX9_item 13 (some .int) ∈ wsA := (inA5 193 rfl rfl)
theorem in_X9_item : Cond.initialized yX9_item.cls ∈ wsA := (inA1 5 rfl rfl)
theorem iv_X9_item : Cond.instanceMethod yX9_item ∈ wsA ∧ Cond.selects yX9_item.cls yX9_item yX9_item ∈ wsA := ⟨(inA5 191 rfl rfl), (inA5 192 rfl rfl)⟩
theorem mk_L_92 : MK RL 92 yX9_item cX9_item 13 (some .int) 8 := ⟨(inA5 190 rfl rfl), in_X9_item, cd_X9_item, pn_X9_item⟩
theorem pn_X8_mode : yX8_mode.cls ≠ "java/lang/invoke/MethodHandle" ∧ yX8_mode.cls ≠ "java/lang/invoke/VarHandle" ∧ (parseMethodDescriptor yX8_mode.desc).map (fun d => d.parameters.length) = some 3 := by decide +kernel
theorem cd_X8_mode : Cond.code yX8_mode cX8_mode 7 (some .int) ∈ wsA := (inA3 214 rfl rfl)
theorem in_X8_mode : Cond.initialized yX8_mode.cls ∈ wsA := (inA1 1 rfl rfl)
theorem iv_X8_mode : Cond.instanceMethod yX8_mode ∈ wsA ∧ Cond.selects yX8_mode.cls yX8_mode yX8_mode ∈ wsA := ⟨(inA3 212 rfl rfl), (inA3 213 rfl rfl)⟩
theorem mk_L_93 : MK RL 93 yX8_mode cX8_mode 7 (some .int) 3 := ⟨(inA3 211 rfl rfl), in_X8_mode, cd_X8_mode, pn_X8_mode⟩
theorem pn_X9_mode : yX9_mode.cls ≠ "java/lang/invoke/MethodHandle" ∧ yX9_mode.cls ≠ "java/lang/invoke/VarHandle" ∧ (parseMethodDescriptor yX9_mode.desc).map (fun d => d.parameters.length) = some 3 := by decide +kernel
theorem cd_X9_mode : Cond.code yX9_mode cX9_mode 6 (some .int) ∈ wsA := (inA5 198 rfl rfl)
theorem in_X9_mode : Cond.initialized yX9_mode.cls ∈ wsA := (inA1 5 rfl rfl)
theorem iv_X9_mode : Cond.instanceMethod yX9_mode ∈ wsA ∧ Cond.selects yX9_mode.cls yX9_mode yX9_mode ∈ wsA := ⟨(inA5 196 rfl rfl), (inA5 197 rfl rfl)⟩
theorem mk_L_96 : MK RL 96 yX9_mode cX9_mode 6 (some .int) 3 := ⟨(inA5 195 rfl rfl), in_X9_mode, cd_X9_mode, pn_X9_mode⟩
theorem pn_X8_drop : yX8_drop.cls ≠ "java/lang/invoke/MethodHandle" ∧ yX8_drop.cls ≠ "java/lang/invoke/VarHandle" ∧ (parseMethodDescriptor yX8_drop.desc).map (fun d => d.parameters.length) = some 2 := by decide +kernel
theorem cd_X8_drop : Cond.code yX8_drop cX8_drop 6 (some .int) ∈ wsA := (inA3 226 rfl rfl)
theorem in_X8_drop : Cond.initialized yX8_drop.cls ∈ wsA := (inA1 1 rfl rfl)
theorem iv_X8_drop : Cond.instanceMethod yX8_drop ∈ wsA ∧ Cond.selects yX8_drop.cls yX8_drop yX8_drop ∈ wsA := ⟨(inA3 224 rfl rfl), (inA3 225 rfl rfl)⟩
theorem mk_L_97 : MK RL 97 yX8_drop cX8_drop 6 (some .int) 2 := ⟨(inA3 223 rfl rfl), in_X8_drop, cd_X8_drop, pn_X8_drop⟩
theorem pn_X9_drop : yX9_drop.cls ≠ "java/lang/invoke/MethodHandle" ∧ yX9_drop.cls ≠ "java/lang/invoke/VarHandle" ∧ (parseMethodDescriptor yX9_drop.desc).map (fun d => d.parameters.length) = some 2 := by decide +kernel
theorem cd_X9_drop : Cond.code yX9_drop cX9_drop 4 (some .int) ∈ wsA := (inA5 206 rfl rfl)
theorem in_X9_drop : Cond.initialized yX9_drop.cls ∈ wsA := (inA1 5 rfl rfl)
theorem iv_X9_drop : Cond.instanceMethod yX9_drop ∈ wsA ∧ Cond.selects yX9_drop.cls yX9_drop yX9_drop ∈ wsA := ⟨(inA5 204 rfl rfl), (inA5 205 rfl rfl)⟩
theorem mk_L_100 : MK RL 100 yX9_drop cX9_drop 4 (some .int) 2 := ⟨(inA5 203 rfl rfl), in_X9_drop, cd_X9_drop, pn_X9_drop⟩
theorem pn_X8_publish : yX8_publish.cls ≠ "java/lang/invoke/MethodHandle" ∧ yX8_publish.cls ≠ "java/lang/invoke/VarHandle" ∧ (parseMethodDescriptor yX8_publish.desc).map (fun d => d.parameters.length) = some 3 := by decide +kernel
theorem cd_X8_publish : Cond.code yX8_publish cX8_publish 6 (some .int) ∈ wsA := (inA3 234 rfl rfl)
theorem in_X8_publish : Cond.initialized yX8_publish.cls ∈ wsA := (inA1 1 rfl rfl)
theorem iv_X8_publish : Cond.instanceMethod yX8_publish ∈ wsA ∧ Cond.selects yX8_publish.cls yX8_publish yX8_publish ∈ wsA := ⟨(inA3 232 rfl rfl), (inA3 233 rfl rfl)⟩
theorem mk_L_101 : MK RL 101 yX8_publish cX8_publish 6 (some .int) 3 := ⟨(inA3 231 rfl rfl), in_X8_publish, cd_X8_publish, pn_X8_publish⟩
theorem pn_X9_publish : yX9_publish.cls ≠ "java/lang/invoke/MethodHandle" ∧ yX9_publish.cls ≠ "java/lang/invoke/VarHandle" ∧ (parseMethodDescriptor yX9_publish.desc).map (fun d => d.parameters.length) = some 3 := by decide +kernel
theorem cd_X9_publish : Cond.code yX9_publish cX9_publish 9 (some .int) ∈ wsA := (inA5 210 rfl rfl)
theorem in_X9_publish : Cond.initialized yX9_publish.cls ∈ wsA := (inA1 5 rfl rfl)
theorem iv_X9_publish : Cond.instanceMethod yX9_publish ∈ wsA ∧ Cond.selects yX9_publish.cls yX9_publish yX9_publish ∈ wsA := ⟨(inA5 208 rfl rfl), (inA5 209 rfl rfl)⟩
theorem mk_L_104 : MK RL 104 yX9_publish cX9_publish 9 (some .int) 3 := ⟨(inA5 207 rfl rfl), in_X9_publish, cd_X9_publish, pn_X9_publish⟩
theorem pn_X8_acknowledged : yX8_acknowledged.cls ≠ "java/lang/invoke/MethodHandle" ∧ yX8_acknowledged.cls ≠ "java/lang/invoke/VarHandle" ∧ (parseMethodDescriptor yX8_acknowledged.desc).map (fun d => d.parameters.length) = some 0 := by decide +kernel
theorem cd_X8_acknowledged : Cond.code yX8_acknowledged cX8_acknowledged 1 (some .int) ∈ wsA := (inA4 18 rfl rfl)
theorem in_X8_acknowledged : Cond.initialized yX8_acknowledged.cls ∈ wsA := (inA1 1 rfl rfl)
theorem iv_X8_acknowledged : Cond.instanceMethod yX8_acknowledged ∈ wsA ∧ Cond.selects yX8_acknowledged.cls yX8_acknowledged yX8_acknowledged ∈ wsA := ⟨(inA4 16 rfl rfl), (inA4 17 rfl rfl)⟩
theorem mk_L_105 : MK RL 105 yX8_acknowledged cX8_acknowledged 1 (some .int) 0 := ⟨(inA4 15 rfl rfl), in_X8_acknowledged, cd_X8_acknowledged, pn_X8_acknowledged⟩
theorem pn_X9_acknowledged : yX9_acknowledged.cls ≠ "java/lang/invoke/MethodHandle" ∧ yX9_acknowledged.cls ≠ "java/lang/invoke/VarHandle" ∧ (parseMethodDescriptor yX9_acknowledged.desc).map (fun d => d.parameters.length) = some 0 := by decide +kernel
theorem cd_X9_acknowledged : Cond.code yX9_acknowledged cX9_acknowledged 1 (some .int) ∈ wsA := (inA5 222 rfl rfl)
theorem in_X9_acknowledged : Cond.initialized yX9_acknowledged.cls ∈ wsA := (inA1 5 rfl rfl)
theorem iv_X9_acknowledged : Cond.instanceMethod yX9_acknowledged ∈ wsA ∧ Cond.selects yX9_acknowledged.cls yX9_acknowledged yX9_acknowledged ∈ wsA := ⟨(inA5 220 rfl rfl), (inA5 221 rfl rfl)⟩
theorem mk_L_109 : MK RL 109 yX9_acknowledged cX9_acknowledged 1 (some .int) 0 := ⟨(inA5 219 rfl rfl), in_X9_acknowledged, cd_X9_acknowledged, pn_X9_acknowledged⟩
theorem pn_X8_again : yX8_again.cls ≠ "java/lang/invoke/MethodHandle" ∧ yX8_again.cls ≠ "java/lang/invoke/VarHandle" ∧ (parseMethodDescriptor yX8_again.desc).map (fun d => d.parameters.length) = some 3 := by decide +kernel
theorem cd_X8_again : Cond.code yX8_again cX8_again 7 (some .int) ∈ wsA := (inA4 22 rfl rfl)
theorem in_X8_again : Cond.initialized yX8_again.cls ∈ wsA := (inA1 1 rfl rfl)
theorem iv_X8_again : Cond.instanceMethod yX8_again ∈ wsA ∧ Cond.selects yX8_again.cls yX8_again yX8_again ∈ wsA := ⟨(inA4 20 rfl rfl), (inA4 21 rfl rfl)⟩
theorem mk_L_110 : MK RL 110 yX8_again cX8_again 7 (some .int) 3 := ⟨(inA4 19 rfl rfl), in_X8_again, cd_X8_again, pn_X8_again⟩
theorem pn_X9_again : yX9_again.cls ≠ "java/lang/invoke/MethodHandle" ∧ yX9_again.cls ≠ "java/lang/invoke/VarHandle" ∧ (parseMethodDescriptor yX9_again.desc).map (fun d => d.parameters.length) = some 3 := by decide +kernel
theorem cd_X9_again : Cond.code yX9_again cX9_again 6 (some .int) ∈ wsA := (inA5 226 rfl rfl)
theorem in_X9_again : Cond.initialized yX9_again.cls ∈ wsA := (inA1 5 rfl rfl)
theorem iv_X9_again : Cond.instanceMethod yX9_again ∈ wsA ∧ Cond.selects yX9_again.cls yX9_again yX9_again ∈ wsA := ⟨(inA5 224 rfl rfl), (inA5 225 rfl rfl)⟩
theorem mk_L_113 : MK RL 113 yX9_again cX9_again 6 (some .int) 3 := ⟨(inA5 223 rfl rfl), in_X9_again, cd_X9_again, pn_X9_again⟩
theorem pn_X8_mail : yX8_mail.cls ≠ "java/lang/invoke/MethodHandle" ∧ yX8_mail.cls ≠ "java/lang/invoke/VarHandle" ∧ (parseMethodDescriptor yX8_mail.desc).map (fun d => d.parameters.length) = some 2 := by decide +kernel
theorem cd_X8_mail : Cond.code yX8_mail cX8_mail 4 (some .int) ∈ wsA := (inA4 30 rfl rfl)
theorem in_X8_mail : Cond.initialized yX8_mail.cls ∈ wsA := (inA1 1 rfl rfl)
theorem iv_X8_mail : Cond.instanceMethod yX8_mail ∈ wsA ∧ Cond.selects yX8_mail.cls yX8_mail yX8_mail ∈ wsA := ⟨(inA4 28 rfl rfl), (inA4 29 rfl rfl)⟩
theorem mk_L_114 : MK RL 114 yX8_mail cX8_mail 4 (some .int) 2 := ⟨(inA4 27 rfl rfl), in_X8_mail, cd_X8_mail, pn_X8_mail⟩
theorem pn_X9_mail : yX9_mail.cls ≠ "java/lang/invoke/MethodHandle" ∧ yX9_mail.cls ≠ "java/lang/invoke/VarHandle" ∧ (parseMethodDescriptor yX9_mail.desc).map (fun d => d.parameters.length) = some 2 := by decide +kernel
theorem cd_X9_mail : Cond.code yX9_mail cX9_mail 3 (some .int) ∈ wsA := (inA5 230 rfl rfl)
theorem in_X9_mail : Cond.initialized yX9_mail.cls ∈ wsA := (inA1 5 rfl rfl)
theorem iv_X9_mail : Cond.instanceMethod yX9_mail ∈ wsA ∧ Cond.selects yX9_mail.cls yX9_mail yX9_mail ∈ wsA := ⟨(inA5 228 rfl rfl), (inA5 229 rfl rfl)⟩
theorem mk_L_117 : MK RL 117 yX9_mail cX9_mail 3 (some .int) 2 := ⟨(inA5 227 rfl rfl), in_X9_mail, cd_X9_mail, pn_X9_mail⟩
theorem pn_X8_message : yX8_message.cls ≠ "java/lang/invoke/MethodHandle" ∧ yX8_message.cls ≠ "java/lang/invoke/VarHandle" ∧ (parseMethodDescriptor yX8_message.desc).map (fun d => d.parameters.length) = some 2 := by decide +kernel
theorem cd_X8_message : Cond.code yX8_message cX8_message 4 (some .int) ∈ wsA := (inA4 34 rfl rfl)
theorem in_X8_message : Cond.initialized yX8_message.cls ∈ wsA := (inA1 1 rfl rfl)
theorem iv_X8_message : Cond.instanceMethod yX8_message ∈ wsA ∧ Cond.selects yX8_message.cls yX8_message yX8_message ∈ wsA := ⟨(inA4 32 rfl rfl), (inA4 33 rfl rfl)⟩
theorem mk_L_118 : MK RL 118 yX8_message cX8_message 4 (some .int) 2 := ⟨(inA4 31 rfl rfl), in_X8_message, cd_X8_message, pn_X8_message⟩
theorem pn_X9_message : yX9_message.cls ≠ "java/lang/invoke/MethodHandle" ∧ yX9_message.cls ≠ "java/lang/invoke/VarHandle" ∧ (parseMethodDescriptor yX9_message.desc).map (fun d => d.parameters.length) = some 2 := by decide +kernel
theorem cd_X9_message : Cond.code yX9_message cX9_message 3 (some .int) ∈ wsA := (inA5 234 rfl rfl)
theorem in_X9_message : Cond.initialized yX9_message.cls ∈ wsA := (inA1 5 rfl rfl)
theorem iv_X9_message : Cond.instanceMethod yX9_message ∈ wsA ∧ Cond.selects yX9_message.cls yX9_message yX9_message ∈ wsA := ⟨(inA5 232 rfl rfl), (inA5 233 rfl rfl)⟩
theorem mk_L_121 : MK RL 121 yX9_message cX9_message 3 (some .int) 2 := ⟨(inA5 231 rfl rfl), in_X9_message, cd_X9_message, pn_X9_message⟩
theorem pn_X8_entry : yX8_entry.cls ≠ "java/lang/invoke/MethodHandle" ∧ yX8_entry.cls ≠ "java/lang/invoke/VarHandle" ∧ (parseMethodDescriptor yX8_entry.desc).map (fun d => d.parameters.length) = some 3 := by decide +kernel
theorem cd_X8_entry : Cond.code yX8_entry cX8_entry 6 (some .long) ∈ wsA := (inA4 42 rfl rfl)
theorem in_X8_entry : Cond.initialized yX8_entry.cls ∈ wsA := (inA1 1 rfl rfl)
theorem iv_X8_entry : Cond.instanceMethod yX8_entry ∈ wsA ∧ Cond.selects yX8_entry.cls yX8_entry yX8_entry ∈ wsA := ⟨(inA4 40 rfl rfl), (inA4 41 rfl rfl)⟩
theorem mk_L_122 : MK RL 122 yX8_entry cX8_entry 6 (some .long) 3 := ⟨(inA4 39 rfl rfl), in_X8_entry, cd_X8_entry, pn_X8_entry⟩
theorem pn_X9_entry : yX9_entry.cls ≠ "java/lang/invoke/MethodHandle" ∧ yX9_entry.cls ≠ "java/lang/invoke/VarHandle" ∧ (parseMethodDescriptor yX9_entry.desc).map (fun d => d.parameters.length) = some 3 := by decide +kernel
theorem cd_X9_entry : Cond.code yX9_entry cX9_entry 5 (some .long) ∈ wsA := (inA5 238 rfl rfl)
theorem in_X9_entry : Cond.initialized yX9_entry.cls ∈ wsA := (inA1 5 rfl rfl)
theorem iv_X9_entry : Cond.instanceMethod yX9_entry ∈ wsA ∧ Cond.selects yX9_entry.cls yX9_entry yX9_entry ∈ wsA := ⟨(inA5 236 rfl rfl), (inA5 237 rfl rfl)⟩
theorem mk_L_126 : MK RL 126 yX9_entry cX9_entry 5 (some .long) 3 := ⟨(inA5 235 rfl rfl), in_X9_entry, cd_X9_entry, pn_X9_entry⟩
theorem pn_X8_sessionOf : yX8_sessionOf.cls ≠ "java/lang/invoke/MethodHandle" ∧ yX8_sessionOf.cls ≠ "java/lang/invoke/VarHandle" ∧ (parseMethodDescriptor yX8_sessionOf.desc).map (fun d => d.parameters.length) = some 2 := by decide +kernel
theorem cd_X8_sessionOf : Cond.code yX8_sessionOf cX8_sessionOf 4 (some .int) ∈ wsA := (inA4 47 rfl rfl)
theorem in_X8_sessionOf : Cond.initialized yX8_sessionOf.cls ∈ wsA := (inA1 1 rfl rfl)
theorem iv_X8_sessionOf : Cond.instanceMethod yX8_sessionOf ∈ wsA ∧ Cond.selects yX8_sessionOf.cls yX8_sessionOf yX8_sessionOf ∈ wsA := ⟨(inA4 45 rfl rfl), (inA4 46 rfl rfl)⟩
theorem mk_L_127 : MK RL 127 yX8_sessionOf cX8_sessionOf 4 (some .int) 2 := ⟨(inA4 44 rfl rfl), in_X8_sessionOf, cd_X8_sessionOf, pn_X8_sessionOf⟩
theorem pn_X9_sessionOf : yX9_sessionOf.cls ≠ "java/lang/invoke/MethodHandle" ∧ yX9_sessionOf.cls ≠ "java/lang/invoke/VarHandle" ∧ (parseMethodDescriptor yX9_sessionOf.desc).map (fun d => d.parameters.length) = some 2 := by decide +kernel
theorem cd_X9_sessionOf : Cond.code yX9_sessionOf cX9_sessionOf 5 (some .int) ∈ wsA := (inA6 3 rfl rfl)
theorem in_X9_sessionOf : Cond.initialized yX9_sessionOf.cls ∈ wsA := (inA1 5 rfl rfl)
theorem iv_X9_sessionOf : Cond.instanceMethod yX9_sessionOf ∈ wsA ∧ Cond.selects yX9_sessionOf.cls yX9_sessionOf yX9_sessionOf ∈ wsA := ⟨(inA6 1 rfl rfl), (inA6 2 rfl rfl)⟩
theorem mk_L_130 : MK RL 130 yX9_sessionOf cX9_sessionOf 5 (some .int) 2 := ⟨(inA6 0 rfl rfl), in_X9_sessionOf, cd_X9_sessionOf, pn_X9_sessionOf⟩
theorem pn_X8_subscription : yX8_subscription.cls ≠ "java/lang/invoke/MethodHandle" ∧ yX8_subscription.cls ≠ "java/lang/invoke/VarHandle" ∧ (parseMethodDescriptor yX8_subscription.desc).map (fun d => d.parameters.length) = some 2 := by decide +kernel
theorem cd_X8_subscription : Cond.code yX8_subscription cX8_subscription 4 (some .int) ∈ wsA := (inA4 51 rfl rfl)
theorem in_X8_subscription : Cond.initialized yX8_subscription.cls ∈ wsA := (inA1 1 rfl rfl)
theorem iv_X8_subscription : Cond.instanceMethod yX8_subscription ∈ wsA ∧ Cond.selects yX8_subscription.cls yX8_subscription yX8_subscription ∈ wsA := ⟨(inA4 49 rfl rfl), (inA4 50 rfl rfl)⟩
theorem mk_L_131 : MK RL 131 yX8_subscription cX8_subscription 4 (some .int) 2 := ⟨(inA4 48 rfl rfl), in_X8_subscription, cd_X8_subscription, pn_X8_subscription⟩
theorem pn_X9_subscription : yX9_subscription.cls ≠ "java/lang/invoke/MethodHandle" ∧ yX9_subscription.cls ≠ "java/lang/invoke/VarHandle" ∧ (parseMethodDescriptor yX9_subscription.desc).map (fun d => d.parameters.length) = some 2 := by decide +kernel
theorem cd_X9_subscription : Cond.code yX9_subscription cX9_subscription 5 (some .int) ∈ wsA := (inA6 7 rfl rfl)
theorem in_X9_subscription : Cond.initialized yX9_subscription.cls ∈ wsA := (inA1 5 rfl rfl)
theorem iv_X9_subscription : Cond.instanceMethod yX9_subscription ∈ wsA ∧ Cond.selects yX9_subscription.cls yX9_subscription yX9_subscription ∈ wsA := ⟨(inA6 5 rfl rfl), (inA6 6 rfl rfl)⟩
theorem mk_L_134 : MK RL 134 yX9_subscription cX9_subscription 5 (some .int) 2 := ⟨(inA6 4 rfl rfl), in_X9_subscription, cd_X9_subscription, pn_X9_subscription⟩
theorem pn_X8_itemOf : yX8_itemOf.cls ≠ "java/lang/invoke/MethodHandle" ∧ yX8_itemOf.cls ≠ "java/lang/invoke/VarHandle" ∧ (parseMethodDescriptor yX8_itemOf.desc).map (fun d => d.parameters.length) = some 2 := by decide +kernel
theorem cd_X8_itemOf : Cond.code yX8_itemOf cX8_itemOf 4 (some .int) ∈ wsA := (inA4 55 rfl rfl)
theorem in_X8_itemOf : Cond.initialized yX8_itemOf.cls ∈ wsA := (inA1 1 rfl rfl)
theorem iv_X8_itemOf : Cond.instanceMethod yX8_itemOf ∈ wsA ∧ Cond.selects yX8_itemOf.cls yX8_itemOf yX8_itemOf ∈ wsA := ⟨(inA4 53 rfl rfl), (inA4 54 rfl rfl)⟩
theorem mk_L_135 : MK RL 135 yX8_itemOf cX8_itemOf 4 (some .int) 2 := ⟨(inA4 52 rfl rfl), in_X8_itemOf, cd_X8_itemOf, pn_X8_itemOf⟩
theorem pn_X9_itemOf : yX9_itemOf.cls ≠ "java/lang/invoke/MethodHandle" ∧ yX9_itemOf.cls ≠ "java/lang/invoke/VarHandle" ∧ (parseMethodDescriptor yX9_itemOf.desc).map (fun d => d.parameters.length) = some 2 := by decide +kernel
theorem cd_X9_itemOf : Cond.code yX9_itemOf cX9_itemOf 3 (some .int) ∈ wsA := (inA6 11 rfl rfl)
theorem in_X9_itemOf : Cond.initialized yX9_itemOf.cls ∈ wsA := (inA1 5 rfl rfl)
theorem iv_X9_itemOf : Cond.instanceMethod yX9_itemOf ∈ wsA ∧ Cond.selects yX9_itemOf.cls yX9_itemOf yX9_itemOf ∈ wsA := ⟨(inA6 9 rfl rfl), (inA6 10 rfl rfl)⟩
theorem mk_L_138 : MK RL 138 yX9_itemOf cX9_itemOf 3 (some .int) 2 := ⟨(inA6 8 rfl rfl), in_X9_itemOf, cd_X9_itemOf, pn_X9_itemOf⟩
theorem pn_X8_status : yX8_status.cls ≠ "java/lang/invoke/MethodHandle" ∧ yX8_status.cls ≠ "java/lang/invoke/VarHandle" ∧ (parseMethodDescriptor yX8_status.desc).map (fun d => d.parameters.length) = some 1 := by decide +kernel
theorem cd_X8_status : Cond.code yX8_status cX8_status 3 (some .int) ∈ wsA := (inA4 67 rfl rfl)
theorem in_X8_status : Cond.initialized yX8_status.cls ∈ wsA := (inA1 1 rfl rfl)
theorem iv_X8_status : Cond.instanceMethod yX8_status ∈ wsA ∧ Cond.selects yX8_status.cls yX8_status yX8_status ∈ wsA := ⟨(inA4 65 rfl rfl), (inA4 66 rfl rfl)⟩
theorem mk_L_139 : MK RL 139 yX8_status cX8_status 3 (some .int) 1 := ⟨(inA4 64 rfl rfl), in_X8_status, cd_X8_status, pn_X8_status⟩
theorem pn_X9_status : yX9_status.cls ≠ "java/lang/invoke/MethodHandle" ∧ yX9_status.cls ≠ "java/lang/invoke/VarHandle" ∧ (parseMethodDescriptor yX9_status.desc).map (fun d => d.parameters.length) = some 1 := by decide +kernel
theorem cd_X9_status : Cond.code yX9_status cX9_status 4 (some .int) ∈ wsA := (inA6 15 rfl rfl)
theorem in_X9_status : Cond.initialized yX9_status.cls ∈ wsA := (inA1 5 rfl rfl)
theorem iv_X9_status : Cond.instanceMethod yX9_status ∈ wsA ∧ Cond.selects yX9_status.cls yX9_status yX9_status ∈ wsA := ⟨(inA6 13 rfl rfl), (inA6 14 rfl rfl)⟩
theorem mk_L_142 : MK RL 142 yX9_status cX9_status 4 (some .int) 1 := ⟨(inA6 12 rfl rfl), in_X9_status, cd_X9_status, pn_X9_status⟩
theorem ol_X0_1 : Cond.methodLink RX0 1 Lib.objectInit ∈ wsA := (inA2 20 rfl rfl)
theorem fk_X0_7 : FK RX0 7 1 3 false (.boolean) := ⟨RX0, TX0, 4, tyX0, "WatchServer$Entry", ci_X0, by decide, (inA2 27 rfl rfl), Or.inl rfl, rfl, rfl⟩
theorem fk_X0_13 : FK RX0 13 1 0 true (.long) := ⟨RX0, TX0, 4, tyX0, "WatchServer$Entry", ci_X0, by decide, (inA2 21 rfl rfl), Or.inl rfl, rfl, rfl⟩
theorem fp_X0_13 : FP RX0 13 1 0 (.long) := ⟨RX0, TX0, 4, tyX0, "WatchServer$Entry", ci_X0, by decide, (inA2 21 rfl rfl), Or.inl rfl, rfl, rfl, rfl⟩
theorem fk_X0_17 : FK RX0 17 1 1 true (.int) := ⟨RX0, TX0, 4, tyX0, "WatchServer$Entry", ci_X0, by decide, (inA2 23 rfl rfl), Or.inl rfl, rfl, rfl⟩
theorem fp_X0_17 : FP RX0 17 1 1 (.int) := ⟨RX0, TX0, 4, tyX0, "WatchServer$Entry", ci_X0, by decide, (inA2 23 rfl rfl), Or.inl rfl, rfl, rfl, rfl⟩
theorem fk_X0_21 : FK RX0 21 1 2 true (.int) := ⟨RX0, TX0, 4, tyX0, "WatchServer$Entry", ci_X0, by decide, (inA2 25 rfl rfl), Or.inl rfl, rfl, rfl⟩
theorem fp_X0_21 : FP RX0 21 1 2 (.int) := ⟨RX0, TX0, 4, tyX0, "WatchServer$Entry", ci_X0, by decide, (inA2 25 rfl rfl), Or.inl rfl, rfl, rfl, rfl⟩
theorem ol_X1_1 : Cond.methodLink RX1 1 Lib.objectInit ∈ wsA := (inA3 159 rfl rfl)
theorem fk_X1_9 : FK RX1 9 2 7 false (.int) := ⟨RX1, TX1, 11, tyX1, "WatchServer$Item", ci_X1, by decide, (inA3 174 rfl rfl), Or.inl rfl, rfl, rfl⟩
theorem fk_X1_13 : FK RX1 13 2 8 false (.boolean) := ⟨RX1, TX1, 11, tyX1, "WatchServer$Item", ci_X1, by decide, (inA3 177 rfl rfl), Or.inl rfl, rfl, rfl⟩
theorem fk_X1_17 : FK RX1 17 2 9 false (.long) := ⟨RX1, TX1, 11, tyX1, "WatchServer$Item", ci_X1, by decide, (inA3 178 rfl rfl), Or.inl rfl, rfl, rfl⟩
theorem fk_X1_21 : FK RX1 21 2 10 false (.boolean) := ⟨RX1, TX1, 11, tyX1, "WatchServer$Item", ci_X1, by decide, (inA3 179 rfl rfl), Or.inl rfl, rfl, rfl⟩
theorem fk_X1_24 : FK RX1 24 2 0 true (.int) := ⟨RX1, TX1, 11, tyX1, "WatchServer$Item", ci_X1, by decide, (inA3 160 rfl rfl), Or.inl rfl, rfl, rfl⟩
theorem fp_X1_24 : FP RX1 24 2 0 (.int) := ⟨RX1, TX1, 11, tyX1, "WatchServer$Item", ci_X1, by decide, (inA3 160 rfl rfl), Or.inl rfl, rfl, rfl, rfl⟩
theorem fk_X1_27 : FK RX1 27 2 1 true (.object "WatchServer$Subscription") := ⟨RX1, TX1, 11, tyX1, "WatchServer$Item", ci_X1, by decide, (inA3 162 rfl rfl), Or.inl rfl, rfl, rfl⟩
theorem fp_X1_27 : FP RX1 27 2 1 (.object "WatchServer$Subscription") := ⟨RX1, TX1, 11, tyX1, "WatchServer$Item", ci_X1, by decide, (inA3 162 rfl rfl), Or.inl rfl, rfl, rfl, rfl⟩
theorem fk_X1_31 : FK RX1 31 2 2 true (.object "WatchServer$Node") := ⟨RX1, TX1, 11, tyX1, "WatchServer$Item", ci_X1, by decide, (inA3 164 rfl rfl), Or.inl rfl, rfl, rfl⟩
theorem fp_X1_31 : FP RX1 31 2 2 (.object "WatchServer$Node") := ⟨RX1, TX1, 11, tyX1, "WatchServer$Item", ci_X1, by decide, (inA3 164 rfl rfl), Or.inl rfl, rfl, rfl, rfl⟩
theorem fk_X1_35 : FK RX1 35 2 3 true (.int) := ⟨RX1, TX1, 11, tyX1, "WatchServer$Item", ci_X1, by decide, (inA3 166 rfl rfl), Or.inl rfl, rfl, rfl⟩
theorem fp_X1_35 : FP RX1 35 2 3 (.int) := ⟨RX1, TX1, 11, tyX1, "WatchServer$Item", ci_X1, by decide, (inA3 166 rfl rfl), Or.inl rfl, rfl, rfl, rfl⟩
theorem fk_X1_38 : FK RX1 38 2 4 true (.int) := ⟨RX1, TX1, 11, tyX1, "WatchServer$Item", ci_X1, by decide, (inA3 168 rfl rfl), Or.inl rfl, rfl, rfl⟩
theorem fp_X1_38 : FP RX1 38 2 4 (.int) := ⟨RX1, TX1, 11, tyX1, "WatchServer$Item", ci_X1, by decide, (inA3 168 rfl rfl), Or.inl rfl, rfl, rfl, rfl⟩
theorem fk_X1_41 : FK RX1 41 2 5 true (.long) := ⟨RX1, TX1, 11, tyX1, "WatchServer$Item", ci_X1, by decide, (inA3 170 rfl rfl), Or.inl rfl, rfl, rfl⟩
theorem fp_X1_41 : FP RX1 41 2 5 (.long) := ⟨RX1, TX1, 11, tyX1, "WatchServer$Item", ci_X1, by decide, (inA3 170 rfl rfl), Or.inl rfl, rfl, rfl, rfl⟩
theorem fk_X1_44 : FK RX1 44 2 6 true (.object "WatchServer$Queue") := ⟨RX1, TX1, 11, tyX1, "WatchServer$Item", ci_X1, by decide, (inA3 171 rfl rfl), Or.inl rfl, rfl, rfl⟩
theorem fp_X1_44 : FP RX1 44 2 6 (.object "WatchServer$Queue") := ⟨RX1, TX1, 11, tyX1, "WatchServer$Item", ci_X1, by decide, (inA3 171 rfl rfl), Or.inl rfl, rfl, rfl, rfl⟩
theorem pn_X8_isWithin : yX8_isWithin.cls ≠ "java/lang/invoke/MethodHandle" ∧ yX8_isWithin.cls ≠ "java/lang/invoke/VarHandle" ∧ (parseMethodDescriptor yX8_isWithin.desc).map (fun d => d.parameters.length) = some 3 := by decide +kernel
theorem cd_X8_isWithin : Cond.code yX8_isWithin cX8_isWithin 3 (some .boolean) ∈ wsA := (inA1 95 rfl rfl)
theorem in_X8_isWithin : Cond.initialized yX8_isWithin.cls ∈ wsA := (inA1 1 rfl rfl)
theorem st_X8_isWithin : Cond.static yX8_isWithin ∈ wsA := (inA1 94 rfl rfl)
theorem fk_X1_56 : FK RX1 56 5 2 true (.object "java/util/ArrayList") := ⟨RX4, TX4, 3, tyX4, "WatchServer$Queue", ci_X4, by decide, (inA3 146 rfl rfl), Or.inl rfl, rfl, rfl⟩
theorem pn_Jx4a65c_clear_da8c8 : yJx4a65c_clear_da8c8.cls ≠ "java/lang/invoke/MethodHandle" ∧ yJx4a65c_clear_da8c8.cls ≠ "java/lang/invoke/VarHandle" ∧ (parseMethodDescriptor yJx4a65c_clear_da8c8.desc).map (fun d => d.parameters.length) = some 0 := by decide +kernel
theorem cd_Jx4a65c_clear_da8c8 : Cond.code yJx4a65c_clear_da8c8 cJx4a65c_clear_da8c8 4 none ∈ wsA := (inA2 95 rfl rfl)
theorem in_Jx4a65c_clear_da8c8 : Cond.initialized yJx4a65c_clear_da8c8.cls ∈ wsA := (inA1 4 rfl rfl)
theorem iv_Jx4a65c_clear_da8c8 : Cond.instanceMethod yJx4a65c_clear_da8c8 ∈ wsA ∧ Cond.selects yJx4a65c_clear_da8c8.cls yJx4a65c_clear_da8c8 yJx4a65c_clear_da8c8 ∈ wsA := ⟨(inA2 93 rfl rfl), (inA2 94 rfl rfl)⟩
theorem mk_X1_60 : MK RX1 60 yJx4a65c_clear_da8c8 cJx4a65c_clear_da8c8 4 none 0 := ⟨(inA3 209 rfl rfl), in_Jx4a65c_clear_da8c8, cd_Jx4a65c_clear_da8c8, pn_Jx4a65c_clear_da8c8⟩
theorem pn_X1_sample : yX1_sample.cls ≠ "java/lang/invoke/MethodHandle" ∧ yX1_sample.cls ≠ "java/lang/invoke/VarHandle" ∧ (parseMethodDescriptor yX1_sample.desc).map (fun d => d.parameters.length) = some 1 := by decide +kernel
theorem cd_X1_sample : Cond.code yX1_sample cX1_sample 4 none ∈ wsA := (inA2 4 rfl rfl)
theorem in_X1_sample : Cond.initialized yX1_sample.cls ∈ wsA := (inA1 18 rfl rfl)
theorem iv_X1_sample : Cond.instanceMethod yX1_sample ∈ wsA ∧ Cond.selects yX1_sample.cls yX1_sample yX1_sample ∈ wsA := ⟨(inA2 2 rfl rfl), (inA2 3 rfl rfl)⟩
theorem mk_X1_65 : MK RX1 65 yX1_sample cX1_sample 4 none 1 := ⟨(inA3 210 rfl rfl), in_X1_sample, cd_X1_sample, pn_X1_sample⟩
theorem fk_X1_69 : FK RX1 69 4 2 false (.long) := ⟨RX3, TX3, 3, tyX3, "WatchServer$Node", ci_X3, by decide, (inA1 115 rfl rfl), Or.inl rfl, rfl, rfl⟩
theorem pn_X1_isBeyondBand : yX1_isBeyondBand.cls ≠ "java/lang/invoke/MethodHandle" ∧ yX1_isBeyondBand.cls ≠ "java/lang/invoke/VarHandle" ∧ (parseMethodDescriptor yX1_isBeyondBand.desc).map (fun d => d.parameters.length) = some 1 := by decide +kernel
theorem cd_X1_isBeyondBand : Cond.code yX1_isBeyondBand cX1_isBeyondBand 5 (some .boolean) ∈ wsA := (inA2 8 rfl rfl)
theorem in_X1_isBeyondBand : Cond.initialized yX1_isBeyondBand.cls ∈ wsA := (inA1 18 rfl rfl)
theorem iv_X1_isBeyondBand : Cond.instanceMethod yX1_isBeyondBand ∈ wsA ∧ Cond.selects yX1_isBeyondBand.cls yX1_isBeyondBand yX1_isBeyondBand ∈ wsA := ⟨(inA2 6 rfl rfl), (inA2 7 rfl rfl)⟩
theorem mk_X1_74 : MK RX1 74 yX1_isBeyondBand cX1_isBeyondBand 5 (some .boolean) 1 := ⟨(inA2 5 rfl rfl), in_X1_isBeyondBand, cd_X1_isBeyondBand, pn_X1_isBeyondBand⟩
theorem cl_X1_78 : Cond.classLink RX1 78 "WatchServer$Entry" ∈ wsA := (inA2 15 rfl rfl)
theorem nk_X1_78 : NK RX1 78 1 4 [.long 0, .int 0, .int 0, .int 0] := ⟨RX0, TX0, tyX0, ci_X0, cl_X1_78, (inA2 16 rfl rfl), (inA1 14 rfl rfl), fun j hj => match j, hj with | 0, _ => rfl | 1, _ => rfl | 2, _ => rfl | 3, _ => rfl | j + 4, h => absurd h (Nat.not_lt.mpr (Nat.le_add_left _ _)), nrf_of rfl⟩
theorem pn_X0_init : yX0_init.cls ≠ "java/lang/invoke/MethodHandle" ∧ yX0_init.cls ≠ "java/lang/invoke/VarHandle" ∧ (parseMethodDescriptor yX0_init.desc).map (fun d => d.parameters.length) = some 3 := by decide +kernel
theorem cd_X0_init : Cond.code yX0_init cX0_init 5 none ∈ wsA := (inA2 19 rfl rfl)
theorem in_X0_init : Cond.initialized yX0_init.cls ∈ wsA := (inA1 14 rfl rfl)
theorem ii_X0_init : yX0_init.name = "<init>" ∧ Cond.instanceMethod yX0_init ∈ wsA := ⟨rfl, (inA2 18 rfl rfl)⟩
theorem mk_X1_80 : MK RX1 80 yX0_init cX0_init 5 none 3 := ⟨(inA2 17 rfl rfl), in_X0_init, cd_X0_init, pn_X0_init⟩
theorem pn_X4_put : yX4_put.cls ≠ "java/lang/invoke/MethodHandle" ∧ yX4_put.cls ≠ "java/lang/invoke/VarHandle" ∧ (parseMethodDescriptor yX4_put.desc).map (fun d => d.parameters.length) = some 1 := by decide +kernel
theorem cd_X4_put : Cond.code yX4_put cX4_put 2 none ∈ wsA := (inA2 42 rfl rfl)
theorem in_X4_put : Cond.initialized yX4_put.cls ∈ wsA := (inA1 19 rfl rfl)
theorem iv_X4_put : Cond.instanceMethod yX4_put ∈ wsA ∧ Cond.selects yX4_put.cls yX4_put yX4_put ∈ wsA := ⟨(inA2 40 rfl rfl), (inA2 41 rfl rfl)⟩
theorem mk_X1_83 : MK RX1 83 yX4_put cX4_put 2 none 1 := ⟨(inA2 39 rfl rfl), in_X4_put, cd_X4_put, pn_X4_put⟩
theorem pn_J9_max_f86c9 : yJ9_max_f86c9.cls ≠ "java/lang/invoke/MethodHandle" ∧ yJ9_max_f86c9.cls ≠ "java/lang/invoke/VarHandle" ∧ (parseMethodDescriptor yJ9_max_f86c9.desc).map (fun d => d.parameters.length) = some 2 := by decide +kernel
theorem cd_J9_max_f86c9 : Cond.code yJ9_max_f86c9 cJ9_max_f86c9 4 (some .long) ∈ wsA := (inA2 11 rfl rfl)
theorem in_J9_max_f86c9 : Cond.initialized yJ9_max_f86c9.cls ∈ wsA := (inA1 8 rfl rfl)
theorem st_J9_max_f86c9 : Cond.static yJ9_max_f86c9 ∈ wsA := (inA2 10 rfl rfl)
theorem mk_X1_87 : MK RX1 87 yJ9_max_f86c9 cJ9_max_f86c9 4 (some .long) 2 := ⟨(inA2 9 rfl rfl), in_J9_max_f86c9, cd_J9_max_f86c9, pn_J9_max_f86c9⟩
theorem pn_J9_min_f86c9 : yJ9_min_f86c9.cls ≠ "java/lang/invoke/MethodHandle" ∧ yJ9_min_f86c9.cls ≠ "java/lang/invoke/VarHandle" ∧ (parseMethodDescriptor yJ9_min_f86c9.desc).map (fun d => d.parameters.length) = some 2 := by decide +kernel
theorem cd_J9_min_f86c9 : Cond.code yJ9_min_f86c9 cJ9_min_f86c9 4 (some .long) ∈ wsA := (inA2 14 rfl rfl)
theorem in_J9_min_f86c9 : Cond.initialized yJ9_min_f86c9.cls ∈ wsA := (inA1 8 rfl rfl)
theorem st_J9_min_f86c9 : Cond.static yJ9_min_f86c9 ∈ wsA := (inA2 13 rfl rfl)
theorem mk_X1_93 : MK RX1 93 yJ9_min_f86c9 cJ9_min_f86c9 4 (some .long) 2 := ⟨(inA2 12 rfl rfl), in_J9_min_f86c9, cd_J9_min_f86c9, pn_J9_min_f86c9⟩
theorem ol_X2_1 : Cond.methodLink RX2 1 Lib.objectInit ∈ wsA := (inA2 115 rfl rfl)
theorem fk_X2_7 : FK RX2 7 3 5 false (.boolean) := ⟨RX2, TX2, 7, tyX2, "WatchServer$Message", ci_X2, by decide, (inA2 127 rfl rfl), Or.inl rfl, rfl, rfl⟩
theorem fk_X2_13 : FK RX2 13 3 6 false (.boolean) := ⟨RX2, TX2, 7, tyX2, "WatchServer$Message", ci_X2, by decide, (inA2 129 rfl rfl), Or.inl rfl, rfl, rfl⟩
theorem fk_X2_16 : FK RX2 16 3 0 true (.int) := ⟨RX2, TX2, 7, tyX2, "WatchServer$Message", ci_X2, by decide, (inA2 116 rfl rfl), Or.inl rfl, rfl, rfl⟩
theorem fp_X2_16 : FP RX2 16 3 0 (.int) := ⟨RX2, TX2, 7, tyX2, "WatchServer$Message", ci_X2, by decide, (inA2 116 rfl rfl), Or.inl rfl, rfl, rfl, rfl⟩
theorem fk_X2_20 : FK RX2 20 3 1 true (.int) := ⟨RX2, TX2, 7, tyX2, "WatchServer$Message", ci_X2, by decide, (inA2 118 rfl rfl), Or.inl rfl, rfl, rfl⟩
theorem fp_X2_20 : FP RX2 20 3 1 (.int) := ⟨RX2, TX2, 7, tyX2, "WatchServer$Message", ci_X2, by decide, (inA2 118 rfl rfl), Or.inl rfl, rfl, rfl, rfl⟩
theorem fk_X2_23 : FK RX2 23 3 2 true (.int) := ⟨RX2, TX2, 7, tyX2, "WatchServer$Message", ci_X2, by decide, (inA2 120 rfl rfl), Or.inl rfl, rfl, rfl⟩
theorem fp_X2_23 : FP RX2 23 3 2 (.int) := ⟨RX2, TX2, 7, tyX2, "WatchServer$Message", ci_X2, by decide, (inA2 120 rfl rfl), Or.inl rfl, rfl, rfl, rfl⟩
theorem fk_X2_26 : FK RX2 26 3 3 true (.int) := ⟨RX2, TX2, 7, tyX2, "WatchServer$Message", ci_X2, by decide, (inA2 123 rfl rfl), Or.inl rfl, rfl, rfl⟩
theorem fp_X2_26 : FP RX2 26 3 3 (.int) := ⟨RX2, TX2, 7, tyX2, "WatchServer$Message", ci_X2, by decide, (inA2 123 rfl rfl), Or.inl rfl, rfl, rfl, rfl⟩
theorem fk_X2_29 : FK RX2 29 3 4 true (.array (.object "WatchServer$Entry")) := ⟨RX2, TX2, 7, tyX2, "WatchServer$Message", ci_X2, by decide, (inA2 125 rfl rfl), Or.inl rfl, rfl, rfl⟩
theorem fp_X2_29 : FP RX2 29 3 4 (.array (.object "WatchServer$Entry")) := ⟨RX2, TX2, 7, tyX2, "WatchServer$Message", ci_X2, by decide, (inA2 125 rfl rfl), Or.inl rfl, rfl, rfl, rfl⟩
theorem ol_X3_1 : Cond.methodLink RX3 1 Lib.objectInit ∈ wsA := (inA1 109 rfl rfl)
theorem fk_X3_7 : FK RX3 7 4 2 false (.long) := ⟨RX3, TX3, 3, tyX3, "WatchServer$Node", ci_X3, by decide, (inA1 114 rfl rfl), Or.inl rfl, rfl, rfl⟩
theorem fk_X3_13 : FK RX3 13 4 0 true (.int) := ⟨RX3, TX3, 3, tyX3, "WatchServer$Node", ci_X3, by decide, (inA1 110 rfl rfl), Or.inl rfl, rfl, rfl⟩
theorem fp_X3_13 : FP RX3 13 4 0 (.int) := ⟨RX3, TX3, 3, tyX3, "WatchServer$Node", ci_X3, by decide, (inA1 110 rfl rfl), Or.inl rfl, rfl, rfl, rfl⟩
theorem fk_X3_17 : FK RX3 17 4 1 true (.int) := ⟨RX3, TX3, 3, tyX3, "WatchServer$Node", ci_X3, by decide, (inA1 112 rfl rfl), Or.inl rfl, rfl, rfl⟩
theorem fp_X3_17 : FP RX3 17 4 1 (.int) := ⟨RX3, TX3, 3, tyX3, "WatchServer$Node", ci_X3, by decide, (inA1 112 rfl rfl), Or.inl rfl, rfl, rfl, rfl⟩
theorem ol_X4_1 : Cond.methodLink RX4 1 Lib.objectInit ∈ wsA := (inA3 140 rfl rfl)
theorem cl_X4_7 : Cond.classLink RX4 7 "java/util/ArrayList" ∈ wsA := (inA3 141 rfl rfl)
theorem nk_X4_7 : NK RX4 7 0 3 [.int 0, .null, .int 0] := ⟨RJx4a65c, TJx4a65c, tyJx4a65c, ci_Jx4a65c, cl_X4_7, (inA1 29 rfl rfl), (inA1 4 rfl rfl), fun j hj => match j, hj with | 0, _ => rfl | 1, _ => rfl | 2, _ => rfl | j + 3, h => absurd h (Nat.not_lt.mpr (Nat.le_add_left _ _)), nrf_of rfl⟩
theorem pn_Jx4a65c_init_da8c8 : yJx4a65c_init_da8c8.cls ≠ "java/lang/invoke/MethodHandle" ∧ yJx4a65c_init_da8c8.cls ≠ "java/lang/invoke/VarHandle" ∧ (parseMethodDescriptor yJx4a65c_init_da8c8.desc).map (fun d => d.parameters.length) = some 0 := by decide +kernel
theorem cd_Jx4a65c_init_da8c8 : Cond.code yJx4a65c_init_da8c8 cJx4a65c_init_da8c8 1 none ∈ wsA := (inA1 32 rfl rfl)
theorem in_Jx4a65c_init_da8c8 : Cond.initialized yJx4a65c_init_da8c8.cls ∈ wsA := (inA1 4 rfl rfl)
theorem ii_Jx4a65c_init_da8c8 : yJx4a65c_init_da8c8.name = "<init>" ∧ Cond.instanceMethod yJx4a65c_init_da8c8 ∈ wsA := ⟨rfl, (inA1 31 rfl rfl)⟩
theorem mk_X4_9 : MK RX4 9 yJx4a65c_init_da8c8 cJx4a65c_init_da8c8 1 none 0 := ⟨(inA3 142 rfl rfl), in_Jx4a65c_init_da8c8, cd_Jx4a65c_init_da8c8, pn_Jx4a65c_init_da8c8⟩
theorem fk_X4_10 : FK RX4 10 5 2 true (.object "java/util/ArrayList") := ⟨RX4, TX4, 3, tyX4, "WatchServer$Queue", ci_X4, by decide, (inA3 145 rfl rfl), Or.inl rfl, rfl, rfl⟩
theorem fp_X4_10 : FP RX4 10 5 2 (.object "java/util/ArrayList") := ⟨RX4, TX4, 3, tyX4, "WatchServer$Queue", ci_X4, by decide, (inA3 145 rfl rfl), Or.inl rfl, rfl, rfl, rfl⟩
theorem fk_X4_16 : FK RX4 16 5 0 true (.int) := ⟨RX4, TX4, 3, tyX4, "WatchServer$Queue", ci_X4, by decide, (inA3 143 rfl rfl), Or.inl rfl, rfl, rfl⟩
theorem fp_X4_16 : FP RX4 16 5 0 (.int) := ⟨RX4, TX4, 3, tyX4, "WatchServer$Queue", ci_X4, by decide, (inA3 143 rfl rfl), Or.inl rfl, rfl, rfl, rfl⟩
theorem fk_X4_20 : FK RX4 20 5 1 true (.boolean) := ⟨RX4, TX4, 3, tyX4, "WatchServer$Queue", ci_X4, by decide, (inA3 144 rfl rfl), Or.inl rfl, rfl, rfl⟩
theorem fp_X4_20 : FP RX4 20 5 1 (.boolean) := ⟨RX4, TX4, 3, tyX4, "WatchServer$Queue", ci_X4, by decide, (inA3 144 rfl rfl), Or.inl rfl, rfl, rfl, rfl⟩
theorem pn_Jx4a65c_size_8abf5 : yJx4a65c_size_8abf5.cls ≠ "java/lang/invoke/MethodHandle" ∧ yJx4a65c_size_8abf5.cls ≠ "java/lang/invoke/VarHandle" ∧ (parseMethodDescriptor yJx4a65c_size_8abf5.desc).map (fun d => d.parameters.length) = some 0 := by decide +kernel
theorem cd_Jx4a65c_size_8abf5 : Cond.code yJx4a65c_size_8abf5 cJx4a65c_size_8abf5 1 (some .int) ∈ wsA := (inA1 103 rfl rfl)
theorem in_Jx4a65c_size_8abf5 : Cond.initialized yJx4a65c_size_8abf5.cls ∈ wsA := (inA1 4 rfl rfl)
theorem iv_Jx4a65c_size_8abf5 : Cond.instanceMethod yJx4a65c_size_8abf5 ∈ wsA ∧ Cond.selects yJx4a65c_size_8abf5.cls yJx4a65c_size_8abf5 yJx4a65c_size_8abf5 ∈ wsA := ⟨(inA1 101 rfl rfl), (inA1 102 rfl rfl)⟩
theorem mk_X4_24 : MK RX4 24 yJx4a65c_size_8abf5 cJx4a65c_size_8abf5 1 (some .int) 0 := ⟨(inA2 43 rfl rfl), in_Jx4a65c_size_8abf5, cd_Jx4a65c_size_8abf5, pn_Jx4a65c_size_8abf5⟩
theorem pn_Jx4a65c_add_9ea2d : yJx4a65c_add_9ea2d.cls ≠ "java/lang/invoke/MethodHandle" ∧ yJx4a65c_add_9ea2d.cls ≠ "java/lang/invoke/VarHandle" ∧ (parseMethodDescriptor yJx4a65c_add_9ea2d.desc).map (fun d => d.parameters.length) = some 1 := by decide +kernel
theorem cd_Jx4a65c_add_9ea2d : Cond.code yJx4a65c_add_9ea2d cJx4a65c_add_9ea2d 2 (some .boolean) ∈ wsA := (inA1 127 rfl rfl)
theorem in_Jx4a65c_add_9ea2d : Cond.initialized yJx4a65c_add_9ea2d.cls ∈ wsA := (inA1 4 rfl rfl)
theorem iv_Jx4a65c_add_9ea2d : Cond.instanceMethod yJx4a65c_add_9ea2d ∈ wsA ∧ Cond.selects yJx4a65c_add_9ea2d.cls yJx4a65c_add_9ea2d yJx4a65c_add_9ea2d ∈ wsA := ⟨(inA1 125 rfl rfl), (inA1 126 rfl rfl)⟩
theorem mk_X4_27 : MK RX4 27 yJx4a65c_add_9ea2d cJx4a65c_add_9ea2d 2 (some .boolean) 1 := ⟨(inA2 44 rfl rfl), in_Jx4a65c_add_9ea2d, cd_Jx4a65c_add_9ea2d, pn_Jx4a65c_add_9ea2d⟩
theorem pn_Jx4a65c_set_bcc79 : yJx4a65c_set_bcc79.cls ≠ "java/lang/invoke/MethodHandle" ∧ yJx4a65c_set_bcc79.cls ≠ "java/lang/invoke/VarHandle" ∧ (parseMethodDescriptor yJx4a65c_set_bcc79.desc).map (fun d => d.parameters.length) = some 2 := by decide +kernel
theorem cd_Jx4a65c_set_bcc79 : Cond.code yJx4a65c_set_bcc79 cJx4a65c_set_bcc79 4 (some (.object "java/lang/Object")) ∈ wsA := (inA2 48 rfl rfl)
theorem in_Jx4a65c_set_bcc79 : Cond.initialized yJx4a65c_set_bcc79.cls ∈ wsA := (inA1 4 rfl rfl)
theorem iv_Jx4a65c_set_bcc79 : Cond.instanceMethod yJx4a65c_set_bcc79 ∈ wsA ∧ Cond.selects yJx4a65c_set_bcc79.cls yJx4a65c_set_bcc79 yJx4a65c_set_bcc79 ∈ wsA := ⟨(inA2 46 rfl rfl), (inA2 47 rfl rfl)⟩
theorem mk_X4_31 : MK RX4 31 yJx4a65c_set_bcc79 cJx4a65c_set_bcc79 4 (some (.object "java/lang/Object")) 2 := ⟨(inA2 45 rfl rfl), in_Jx4a65c_set_bcc79, cd_Jx4a65c_set_bcc79, pn_Jx4a65c_set_bcc79⟩
theorem pn_Jx4a65c_remove_915e3 : yJx4a65c_remove_915e3.cls ≠ "java/lang/invoke/MethodHandle" ∧ yJx4a65c_remove_915e3.cls ≠ "java/lang/invoke/VarHandle" ∧ (parseMethodDescriptor yJx4a65c_remove_915e3.desc).map (fun d => d.parameters.length) = some 1 := by decide +kernel
theorem cd_Jx4a65c_remove_915e3 : Cond.code yJx4a65c_remove_915e3 cJx4a65c_remove_915e3 4 (some (.object "java/lang/Object")) ∈ wsA := (inA2 52 rfl rfl)
theorem in_Jx4a65c_remove_915e3 : Cond.initialized yJx4a65c_remove_915e3.cls ∈ wsA := (inA1 4 rfl rfl)
theorem iv_Jx4a65c_remove_915e3 : Cond.instanceMethod yJx4a65c_remove_915e3 ∈ wsA ∧ Cond.selects yJx4a65c_remove_915e3.cls yJx4a65c_remove_915e3 yJx4a65c_remove_915e3 ∈ wsA := ⟨(inA2 50 rfl rfl), (inA2 51 rfl rfl)⟩
theorem mk_X4_35 : MK RX4 35 yJx4a65c_remove_915e3 cJx4a65c_remove_915e3 4 (some (.object "java/lang/Object")) 1 := ⟨(inA2 49 rfl rfl), in_Jx4a65c_remove_915e3, cd_Jx4a65c_remove_915e3, pn_Jx4a65c_remove_915e3⟩
theorem pn_Jx4a65c_get_915e3 : yJx4a65c_get_915e3.cls ≠ "java/lang/invoke/MethodHandle" ∧ yJx4a65c_get_915e3.cls ≠ "java/lang/invoke/VarHandle" ∧ (parseMethodDescriptor yJx4a65c_get_915e3.desc).map (fun d => d.parameters.length) = some 1 := by decide +kernel
theorem cd_Jx4a65c_get_915e3 : Cond.code yJx4a65c_get_915e3 cJx4a65c_get_915e3 2 (some (.object "java/lang/Object")) ∈ wsA := (inA1 193 rfl rfl)
theorem in_Jx4a65c_get_915e3 : Cond.initialized yJx4a65c_get_915e3.cls ∈ wsA := (inA1 4 rfl rfl)
theorem iv_Jx4a65c_get_915e3 : Cond.instanceMethod yJx4a65c_get_915e3 ∈ wsA ∧ Cond.selects yJx4a65c_get_915e3.cls yJx4a65c_get_915e3 yJx4a65c_get_915e3 ∈ wsA := ⟨(inA1 191 rfl rfl), (inA1 192 rfl rfl)⟩
theorem mk_X4_39 : MK RX4 39 yJx4a65c_get_915e3 cJx4a65c_get_915e3 2 (some (.object "java/lang/Object")) 1 := ⟨(inA2 58 rfl rfl), in_Jx4a65c_get_915e3, cd_Jx4a65c_get_915e3, pn_Jx4a65c_get_915e3⟩
theorem cl_X4_42 : Cond.classLink RX4 42 "WatchServer$Entry" ∈ wsA := (inA2 59 rfl rfl)
theorem fk_X4_44 : FK RX4 44 1 3 false (.boolean) := ⟨RX0, TX0, 4, tyX0, "WatchServer$Entry", ci_X0, by decide, (inA2 28 rfl rfl), Or.inl rfl, rfl, rfl⟩
theorem pn_Jx4a65c_isEmpty_aae02 : yJx4a65c_isEmpty_aae02.cls ≠ "java/lang/invoke/MethodHandle" ∧ yJx4a65c_isEmpty_aae02.cls ≠ "java/lang/invoke/VarHandle" ∧ (parseMethodDescriptor yJx4a65c_isEmpty_aae02.desc).map (fun d => d.parameters.length) = some 0 := by decide +kernel
theorem cd_Jx4a65c_isEmpty_aae02 : Cond.code yJx4a65c_isEmpty_aae02 cJx4a65c_isEmpty_aae02 1 (some .boolean) ∈ wsA := (inA4 63 rfl rfl)
theorem in_Jx4a65c_isEmpty_aae02 : Cond.initialized yJx4a65c_isEmpty_aae02.cls ∈ wsA := (inA1 4 rfl rfl)
theorem iv_Jx4a65c_isEmpty_aae02 : Cond.instanceMethod yJx4a65c_isEmpty_aae02 ∈ wsA ∧ Cond.selects yJx4a65c_isEmpty_aae02.cls yJx4a65c_isEmpty_aae02 yJx4a65c_isEmpty_aae02 ∈ wsA := ⟨(inA4 61 rfl rfl), (inA4 62 rfl rfl)⟩
theorem mk_X4_47 : MK RX4 47 yJx4a65c_isEmpty_aae02 cJx4a65c_isEmpty_aae02 1 (some .boolean) 0 := ⟨(inA4 60 rfl rfl), in_Jx4a65c_isEmpty_aae02, cd_Jx4a65c_isEmpty_aae02, pn_Jx4a65c_isEmpty_aae02⟩
theorem ol_X5_1 : Cond.methodLink RX5 1 Lib.objectInit ∈ wsA := (inA1 209 rfl rfl)
theorem fk_X5_7 : FK RX5 7 6 0 true (.int) := ⟨RX5, TX5, 3, tyX5, "WatchServer$Reference", ci_X5, by decide, (inA1 210 rfl rfl), Or.inl rfl, rfl, rfl⟩
theorem fp_X5_7 : FP RX5 7 6 0 (.int) := ⟨RX5, TX5, 3, tyX5, "WatchServer$Reference", ci_X5, by decide, (inA1 210 rfl rfl), Or.inl rfl, rfl, rfl, rfl⟩
theorem fk_X5_13 : FK RX5 13 6 1 true (.int) := ⟨RX5, TX5, 3, tyX5, "WatchServer$Reference", ci_X5, by decide, (inA1 211 rfl rfl), Or.inl rfl, rfl, rfl⟩
theorem fp_X5_13 : FP RX5 13 6 1 (.int) := ⟨RX5, TX5, 3, tyX5, "WatchServer$Reference", ci_X5, by decide, (inA1 211 rfl rfl), Or.inl rfl, rfl, rfl, rfl⟩
theorem fk_X5_16 : FK RX5 16 6 2 true (.int) := ⟨RX5, TX5, 3, tyX5, "WatchServer$Reference", ci_X5, by decide, (inA1 212 rfl rfl), Or.inl rfl, rfl, rfl⟩
theorem fp_X5_16 : FP RX5 16 6 2 (.int) := ⟨RX5, TX5, 3, tyX5, "WatchServer$Reference", ci_X5, by decide, (inA1 212 rfl rfl), Or.inl rfl, rfl, rfl, rfl⟩
theorem ol_X6_1 : Cond.methodLink RX6 1 Lib.objectInit ∈ wsA := (inA2 169 rfl rfl)
theorem cl_X6_7 : Cond.classLink RX6 7 "java/util/ArrayList" ∈ wsA := (inA2 170 rfl rfl)
theorem nk_X6_7 : NK RX6 7 0 3 [.int 0, .null, .int 0] := ⟨RJx4a65c, TJx4a65c, tyJx4a65c, ci_Jx4a65c, cl_X6_7, (inA1 29 rfl rfl), (inA1 4 rfl rfl), fun j hj => match j, hj with | 0, _ => rfl | 1, _ => rfl | 2, _ => rfl | j + 3, h => absurd h (Nat.not_lt.mpr (Nat.le_add_left _ _)), nrf_of rfl⟩
theorem mk_X6_9 : MK RX6 9 yJx4a65c_init_da8c8 cJx4a65c_init_da8c8 1 none 0 := ⟨(inA2 171 rfl rfl), in_Jx4a65c_init_da8c8, cd_Jx4a65c_init_da8c8, pn_Jx4a65c_init_da8c8⟩
theorem fk_X6_10 : FK RX6 10 7 2 true (.object "java/util/ArrayList") := ⟨RX6, TX6, 6, tyX6, "WatchServer$Session", ci_X6, by decide, (inA2 175 rfl rfl), Or.inl rfl, rfl, rfl⟩
theorem fp_X6_10 : FP RX6 10 7 2 (.object "java/util/ArrayList") := ⟨RX6, TX6, 6, tyX6, "WatchServer$Session", ci_X6, by decide, (inA2 175 rfl rfl), Or.inl rfl, rfl, rfl, rfl⟩
theorem fk_X6_16 : FK RX6 16 7 3 false (.int) := ⟨RX6, TX6, 6, tyX6, "WatchServer$Session", ci_X6, by decide, (inA2 177 rfl rfl), Or.inl rfl, rfl, rfl⟩
theorem fk_X6_20 : FK RX6 20 7 5 false (.int) := ⟨RX6, TX6, 6, tyX6, "WatchServer$Session", ci_X6, by decide, (inA2 181 rfl rfl), Or.inl rfl, rfl, rfl⟩
theorem fk_X6_23 : FK RX6 23 7 0 true (.int) := ⟨RX6, TX6, 6, tyX6, "WatchServer$Session", ci_X6, by decide, (inA2 172 rfl rfl), Or.inl rfl, rfl, rfl⟩
theorem fp_X6_23 : FP RX6 23 7 0 (.int) := ⟨RX6, TX6, 6, tyX6, "WatchServer$Session", ci_X6, by decide, (inA2 172 rfl rfl), Or.inl rfl, rfl, rfl, rfl⟩
theorem fk_X6_26 : FK RX6 26 7 1 true (.int) := ⟨RX6, TX6, 6, tyX6, "WatchServer$Session", ci_X6, by decide, (inA2 174 rfl rfl), Or.inl rfl, rfl, rfl⟩
theorem fp_X6_26 : FP RX6 26 7 1 (.int) := ⟨RX6, TX6, 6, tyX6, "WatchServer$Session", ci_X6, by decide, (inA2 174 rfl rfl), Or.inl rfl, rfl, rfl, rfl⟩
theorem fk_X6_29 : FK RX6 29 7 4 false (.int) := ⟨RX6, TX6, 6, tyX6, "WatchServer$Session", ci_X6, by decide, (inA2 179 rfl rfl), Or.inl rfl, rfl, rfl⟩
theorem ol_X7_1 : Cond.methodLink RX7 1 Lib.objectInit ∈ wsA := (inA3 20 rfl rfl)
theorem cl_X7_7 : Cond.classLink RX7 7 "java/util/ArrayList" ∈ wsA := (inA3 21 rfl rfl)
theorem nk_X7_7 : NK RX7 7 0 3 [.int 0, .null, .int 0] := ⟨RJx4a65c, TJx4a65c, tyJx4a65c, ci_Jx4a65c, cl_X7_7, (inA1 29 rfl rfl), (inA1 4 rfl rfl), fun j hj => match j, hj with | 0, _ => rfl | 1, _ => rfl | 2, _ => rfl | j + 3, h => absurd h (Nat.not_lt.mpr (Nat.le_add_left _ _)), nrf_of rfl⟩
theorem mk_X7_9 : MK RX7 9 yJx4a65c_init_da8c8 cJx4a65c_init_da8c8 1 none 0 := ⟨(inA3 22 rfl rfl), in_Jx4a65c_init_da8c8, cd_Jx4a65c_init_da8c8, pn_Jx4a65c_init_da8c8⟩
theorem fk_X7_10 : FK RX7 10 8 1 true (.object "java/util/ArrayList") := ⟨RX7, TX7, 18, tyX7, "WatchServer$Subscription", ci_X7, by decide, (inA3 25 rfl rfl), Or.inl rfl, rfl, rfl⟩
theorem fp_X7_10 : FP RX7 10 8 1 (.object "java/util/ArrayList") := ⟨RX7, TX7, 18, tyX7, "WatchServer$Subscription", ci_X7, by decide, (inA3 25 rfl rfl), Or.inl rfl, rfl, rfl, rfl⟩
theorem fk_X7_16 : FK RX7 16 8 2 true (.object "java/util/ArrayList") := ⟨RX7, TX7, 18, tyX7, "WatchServer$Subscription", ci_X7, by decide, (inA3 27 rfl rfl), Or.inl rfl, rfl, rfl⟩
theorem fp_X7_16 : FP RX7 16 8 2 (.object "java/util/ArrayList") := ⟨RX7, TX7, 18, tyX7, "WatchServer$Subscription", ci_X7, by decide, (inA3 27 rfl rfl), Or.inl rfl, rfl, rfl, rfl⟩
theorem fk_X7_19 : FK RX7 19 8 9 false (.boolean) := ⟨RX7, TX7, 18, tyX7, "WatchServer$Subscription", ci_X7, by decide, (inA3 40 rfl rfl), Or.inl rfl, rfl, rfl⟩
theorem fk_X7_23 : FK RX7 23 8 10 false (.int) := ⟨RX7, TX7, 18, tyX7, "WatchServer$Subscription", ci_X7, by decide, (inA3 42 rfl rfl), Or.inl rfl, rfl, rfl⟩
theorem fk_X7_27 : FK RX7 27 8 13 false (.boolean) := ⟨RX7, TX7, 18, tyX7, "WatchServer$Subscription", ci_X7, by decide, (inA3 48 rfl rfl), Or.inl rfl, rfl, rfl⟩
theorem fk_X7_30 : FK RX7 30 8 14 false (.boolean) := ⟨RX7, TX7, 18, tyX7, "WatchServer$Subscription", ci_X7, by decide, (inA3 50 rfl rfl), Or.inl rfl, rfl, rfl⟩
theorem fk_X7_33 : FK RX7 33 8 15 false (.boolean) := ⟨RX7, TX7, 18, tyX7, "WatchServer$Subscription", ci_X7, by decide, (inA3 52 rfl rfl), Or.inl rfl, rfl, rfl⟩
theorem fk_X7_36 : FK RX7 36 8 16 false (.int) := ⟨RX7, TX7, 18, tyX7, "WatchServer$Subscription", ci_X7, by decide, (inA3 54 rfl rfl), Or.inl rfl, rfl, rfl⟩
theorem fk_X7_39 : FK RX7 39 8 17 false (.boolean) := ⟨RX7, TX7, 18, tyX7, "WatchServer$Subscription", ci_X7, by decide, (inA3 56 rfl rfl), Or.inl rfl, rfl, rfl⟩
theorem fk_X7_42 : FK RX7 42 8 0 true (.int) := ⟨RX7, TX7, 18, tyX7, "WatchServer$Subscription", ci_X7, by decide, (inA3 23 rfl rfl), Or.inl rfl, rfl, rfl⟩
theorem fp_X7_42 : FP RX7 42 8 0 (.int) := ⟨RX7, TX7, 18, tyX7, "WatchServer$Subscription", ci_X7, by decide, (inA3 23 rfl rfl), Or.inl rfl, rfl, rfl, rfl⟩
theorem fk_X7_45 : FK RX7 45 8 3 false (.object "WatchServer$Session") := ⟨RX7, TX7, 18, tyX7, "WatchServer$Subscription", ci_X7, by decide, (inA3 29 rfl rfl), Or.inl rfl, rfl, rfl⟩
theorem fk_X7_55 : FK RX7 55 8 4 false (.int) := ⟨RX7, TX7, 18, tyX7, "WatchServer$Subscription", ci_X7, by decide, (inA3 31 rfl rfl), Or.inl rfl, rfl, rfl⟩
theorem fk_X7_58 : FK RX7 58 8 5 false (.int) := ⟨RX7, TX7, 18, tyX7, "WatchServer$Subscription", ci_X7, by decide, (inA3 33 rfl rfl), Or.inl rfl, rfl, rfl⟩
theorem fk_X7_61 : FK RX7 61 8 6 false (.int) := ⟨RX7, TX7, 18, tyX7, "WatchServer$Subscription", ci_X7, by decide, (inA3 35 rfl rfl), Or.inl rfl, rfl, rfl⟩
theorem fk_X7_64 : FK RX7 64 8 7 false (.int) := ⟨RX7, TX7, 18, tyX7, "WatchServer$Subscription", ci_X7, by decide, (inA3 37 rfl rfl), Or.inl rfl, rfl, rfl⟩
theorem fk_X7_67 : FK RX7 67 8 8 false (.int) := ⟨RX7, TX7, 18, tyX7, "WatchServer$Subscription", ci_X7, by decide, (inA3 39 rfl rfl), Or.inl rfl, rfl, rfl⟩
theorem fk_X7_70 : FK RX7 70 8 11 false (.int) := ⟨RX7, TX7, 18, tyX7, "WatchServer$Subscription", ci_X7, by decide, (inA3 44 rfl rfl), Or.inl rfl, rfl, rfl⟩
theorem fk_X7_73 : FK RX7 73 8 12 false (.int) := ⟨RX7, TX7, 18, tyX7, "WatchServer$Subscription", ci_X7, by decide, (inA3 46 rfl rfl), Or.inl rfl, rfl, rfl⟩
theorem pn_X7_countEntries : yX7_countEntries.cls ≠ "java/lang/invoke/MethodHandle" ∧ yX7_countEntries.cls ≠ "java/lang/invoke/VarHandle" ∧ (parseMethodDescriptor yX7_countEntries.desc).map (fun d => d.parameters.length) = some 0 := by decide +kernel
theorem cd_X7_countEntries : Cond.code yX7_countEntries cX7_countEntries 4 (some .int) ∈ wsA := (inA2 76 rfl rfl)
theorem in_X7_countEntries : Cond.initialized yX7_countEntries.cls ∈ wsA := (inA1 17 rfl rfl)
theorem iv_X7_countEntries : Cond.instanceMethod yX7_countEntries ∈ wsA ∧ Cond.selects yX7_countEntries.cls yX7_countEntries yX7_countEntries ∈ wsA := ⟨(inA2 74 rfl rfl), (inA2 75 rfl rfl)⟩
theorem mk_X7_76 : MK RX7 76 yX7_countEntries cX7_countEntries 4 (some .int) 0 := ⟨(inA2 73 rfl rfl), in_X7_countEntries, cd_X7_countEntries, pn_X7_countEntries⟩
theorem pn_X7_isReady : yX7_isReady.cls ≠ "java/lang/invoke/MethodHandle" ∧ yX7_isReady.cls ≠ "java/lang/invoke/VarHandle" ∧ (parseMethodDescriptor yX7_isReady.desc).map (fun d => d.parameters.length) = some 0 := by decide +kernel
theorem cd_X7_isReady : Cond.code yX7_isReady cX7_isReady 1 (some .boolean) ∈ wsA := (inA2 72 rfl rfl)
theorem in_X7_isReady : Cond.initialized yX7_isReady.cls ∈ wsA := (inA1 17 rfl rfl)
theorem iv_X7_isReady : Cond.instanceMethod yX7_isReady ∈ wsA ∧ Cond.selects yX7_isReady.cls yX7_isReady yX7_isReady ∈ wsA := ⟨(inA2 70 rfl rfl), (inA2 71 rfl rfl)⟩
theorem mk_X7_80 : MK RX7 80 yX7_isReady cX7_isReady 1 (some .boolean) 0 := ⟨(inA2 69 rfl rfl), in_X7_isReady, cd_X7_isReady, pn_X7_isReady⟩
theorem mk_X7_84 : MK RX7 84 yJx4a65c_size_8abf5 cJx4a65c_size_8abf5 1 (some .int) 0 := ⟨(inA2 77 rfl rfl), in_Jx4a65c_size_8abf5, cd_Jx4a65c_size_8abf5, pn_Jx4a65c_size_8abf5⟩
theorem mk_X7_87 : MK RX7 87 yJx4a65c_get_915e3 cJx4a65c_get_915e3 2 (some (.object "java/lang/Object")) 1 := ⟨(inA2 78 rfl rfl), in_Jx4a65c_get_915e3, cd_Jx4a65c_get_915e3, pn_Jx4a65c_get_915e3⟩
theorem cl_X7_91 : Cond.classLink RX7 91 "WatchServer$Item" ∈ wsA := (inA2 79 rfl rfl)
theorem fk_X7_93 : FK RX7 93 2 7 false (.int) := ⟨RX1, TX1, 11, tyX1, "WatchServer$Item", ci_X1, by decide, (inA3 175 rfl rfl), Or.inl rfl, rfl, rfl⟩
theorem fk_X7_96 : FK RX7 96 2 6 true (.object "WatchServer$Queue") := ⟨RX1, TX1, 11, tyX1, "WatchServer$Item", ci_X1, by decide, (inA3 172 rfl rfl), Or.inl rfl, rfl, rfl⟩
theorem fk_X7_100 : FK RX7 100 5 2 true (.object "java/util/ArrayList") := ⟨RX4, TX4, 3, tyX4, "WatchServer$Queue", ci_X4, by decide, (inA3 147 rfl rfl), Or.inl rfl, rfl, rfl⟩
theorem mk_X7_105 : MK RX7 105 yJ9_min_7cf53 cJ9_min_7cf53 2 (some .int) 2 := ⟨(inA2 108 rfl rfl), in_J9_min_7cf53, cd_J9_min_7cf53, pn_J9_min_7cf53⟩
theorem cl_X7_111 : Cond.classLink RX7 111 "WatchServer$Entry" ∈ wsA := (inA2 109 rfl rfl)
theorem mk_X7_113 : MK RX7 113 yJx4a65c_remove_915e3 cJx4a65c_remove_915e3 4 (some (.object "java/lang/Object")) 1 := ⟨(inA2 111 rfl rfl), in_Jx4a65c_remove_915e3, cd_Jx4a65c_remove_915e3, pn_Jx4a65c_remove_915e3⟩
theorem cl_X7_116 : Cond.classLink RX7 116 "WatchServer$Message" ∈ wsA := (inA2 96 rfl rfl)
theorem fk_X7_118 : FK RX7 118 3 6 false (.boolean) := ⟨RX2, TX2, 7, tyX2, "WatchServer$Message", ci_X2, by decide, (inA2 130 rfl rfl), Or.inl rfl, rfl, rfl⟩
theorem mk_X7_120 : MK RX7 120 yJx4a65c_add_9ea2d cJx4a65c_add_9ea2d 2 (some .boolean) 1 := ⟨(inA2 151 rfl rfl), in_Jx4a65c_add_9ea2d, cd_Jx4a65c_add_9ea2d, pn_Jx4a65c_add_9ea2d⟩
theorem fk_X7_124 : FK RX7 124 3 2 true (.int) := ⟨RX2, TX2, 7, tyX2, "WatchServer$Message", ci_X2, by decide, (inA2 121 rfl rfl), Or.inl rfl, rfl, rfl⟩
theorem fk_X7_125 : FK RX7 125 2 10 false (.boolean) := ⟨RX1, TX1, 11, tyX1, "WatchServer$Item", ci_X1, by decide, (inA3 180 rfl rfl), Or.inl rfl, rfl, rfl⟩
theorem mk_X7_126 : MK RX7 126 yJx4a65c_clear_da8c8 cJx4a65c_clear_da8c8 4 none 0 := ⟨(inA2 92 rfl rfl), in_Jx4a65c_clear_da8c8, cd_Jx4a65c_clear_da8c8, pn_Jx4a65c_clear_da8c8⟩
theorem ol_X8_1 : Cond.methodLink RX8 1 Lib.objectInit ∈ wsA := (inA1 25 rfl rfl)
theorem cl_X8_7 : Cond.classLink RX8 7 "java/util/ArrayList" ∈ wsA := (inA1 28 rfl rfl)
theorem nk_X8_7 : NK RX8 7 0 3 [.int 0, .null, .int 0] := ⟨RJx4a65c, TJx4a65c, tyJx4a65c, ci_Jx4a65c, cl_X8_7, (inA1 29 rfl rfl), (inA1 4 rfl rfl), fun j hj => match j, hj with | 0, _ => rfl | 1, _ => rfl | 2, _ => rfl | j + 3, h => absurd h (Nat.not_lt.mpr (Nat.le_add_left _ _)), nrf_of rfl⟩
theorem mk_X8_9 : MK RX8 9 yJx4a65c_init_da8c8 cJx4a65c_init_da8c8 1 none 0 := ⟨(inA1 30 rfl rfl), in_Jx4a65c_init_da8c8, cd_Jx4a65c_init_da8c8, pn_Jx4a65c_init_da8c8⟩
theorem fk_X8_10 : FK RX8 10 9 0 true (.object "java/util/ArrayList") := ⟨RX8, TX8, 11, tyX8, "WatchServer", ci_X8, by decide, (inA1 54 rfl rfl), Or.inl rfl, rfl, rfl⟩
theorem fp_X8_10 : FP RX8 10 9 0 (.object "java/util/ArrayList") := ⟨RX8, TX8, 11, tyX8, "WatchServer", ci_X8, by decide, (inA1 54 rfl rfl), Or.inl rfl, rfl, rfl, rfl⟩
theorem fk_X8_16 : FK RX8 16 9 1 true (.object "java/util/ArrayList") := ⟨RX8, TX8, 11, tyX8, "WatchServer", ci_X8, by decide, (inA1 55 rfl rfl), Or.inl rfl, rfl, rfl⟩
theorem fp_X8_16 : FP RX8 16 9 1 (.object "java/util/ArrayList") := ⟨RX8, TX8, 11, tyX8, "WatchServer", ci_X8, by decide, (inA1 55 rfl rfl), Or.inl rfl, rfl, rfl, rfl⟩
theorem fk_X8_19 : FK RX8 19 9 2 true (.object "java/util/ArrayList") := ⟨RX8, TX8, 11, tyX8, "WatchServer", ci_X8, by decide, (inA1 56 rfl rfl), Or.inl rfl, rfl, rfl⟩
theorem fp_X8_19 : FP RX8 19 9 2 (.object "java/util/ArrayList") := ⟨RX8, TX8, 11, tyX8, "WatchServer", ci_X8, by decide, (inA1 56 rfl rfl), Or.inl rfl, rfl, rfl, rfl⟩
theorem fk_X8_22 : FK RX8 22 9 3 true (.object "java/util/ArrayList") := ⟨RX8, TX8, 11, tyX8, "WatchServer", ci_X8, by decide, (inA1 57 rfl rfl), Or.inl rfl, rfl, rfl⟩
theorem fp_X8_22 : FP RX8 22 9 3 (.object "java/util/ArrayList") := ⟨RX8, TX8, 11, tyX8, "WatchServer", ci_X8, by decide, (inA1 57 rfl rfl), Or.inl rfl, rfl, rfl, rfl⟩
theorem fk_X8_25 : FK RX8 25 9 4 true (.object "java/util/ArrayList") := ⟨RX8, TX8, 11, tyX8, "WatchServer", ci_X8, by decide, (inA1 58 rfl rfl), Or.inl rfl, rfl, rfl⟩
theorem fp_X8_25 : FP RX8 25 9 4 (.object "java/util/ArrayList") := ⟨RX8, TX8, 11, tyX8, "WatchServer", ci_X8, by decide, (inA1 58 rfl rfl), Or.inl rfl, rfl, rfl, rfl⟩
theorem fk_X8_28 : FK RX8 28 9 5 true (.object "java/util/ArrayList") := ⟨RX8, TX8, 11, tyX8, "WatchServer", ci_X8, by decide, (inA1 59 rfl rfl), Or.inl rfl, rfl, rfl⟩
theorem fp_X8_28 : FP RX8 28 9 5 (.object "java/util/ArrayList") := ⟨RX8, TX8, 11, tyX8, "WatchServer", ci_X8, by decide, (inA1 59 rfl rfl), Or.inl rfl, rfl, rfl, rfl⟩
theorem fk_X8_31 : FK RX8 31 9 6 true (.array .int) := ⟨RX8, TX8, 11, tyX8, "WatchServer", ci_X8, by decide, (inA1 60 rfl rfl), Or.inl rfl, rfl, rfl⟩
theorem fp_X8_31 : FP RX8 31 9 6 (.array .int) := ⟨RX8, TX8, 11, tyX8, "WatchServer", ci_X8, by decide, (inA1 60 rfl rfl), Or.inl rfl, rfl, rfl, rfl⟩
theorem fk_X8_35 : FK RX8 35 9 7 false (.int) := ⟨RX8, TX8, 11, tyX8, "WatchServer", ci_X8, by decide, (inA1 61 rfl rfl), Or.inl rfl, rfl, rfl⟩
theorem fk_X8_39 : FK RX8 39 9 8 false (.long) := ⟨RX8, TX8, 11, tyX8, "WatchServer", ci_X8, by decide, (inA1 62 rfl rfl), Or.inl rfl, rfl, rfl⟩
theorem fk_X8_43 : FK RX8 43 9 9 false (.int) := ⟨RX8, TX8, 11, tyX8, "WatchServer", ci_X8, by decide, (inA1 63 rfl rfl), Or.inl rfl, rfl, rfl⟩
theorem fk_X8_46 : FK RX8 46 9 10 false (.int) := ⟨RX8, TX8, 11, tyX8, "WatchServer", ci_X8, by decide, (inA1 64 rfl rfl), Or.inl rfl, rfl, rfl⟩
theorem cl_X8_49 : Cond.classLink RX8 49 "WatchServer$Node" ∈ wsA := (inA1 104 rfl rfl)
theorem nk_X8_49 : NK RX8 49 4 3 [.int 0, .int 0, .long 0] := ⟨RX3, TX3, tyX3, ci_X3, cl_X8_49, (inA1 105 rfl rfl), (inA1 6 rfl rfl), fun j hj => match j, hj with | 0, _ => rfl | 1, _ => rfl | 2, _ => rfl | j + 3, h => absurd h (Nat.not_lt.mpr (Nat.le_add_left _ _)), nrf_of rfl⟩
theorem mk_X8_51 : MK RX8 51 yX8_isWithin cX8_isWithin 3 (some .boolean) 3 := ⟨(inA1 93 rfl rfl), in_X8_isWithin, cd_X8_isWithin, pn_X8_isWithin⟩
theorem pn_X8_refuse : yX8_refuse.cls ≠ "java/lang/invoke/MethodHandle" ∧ yX8_refuse.cls ≠ "java/lang/invoke/VarHandle" ∧ (parseMethodDescriptor yX8_refuse.desc).map (fun d => d.parameters.length) = some 1 := by decide +kernel
theorem cd_X8_refuse : Cond.code yX8_refuse cX8_refuse 3 (some .int) ∈ wsA := (inA1 99 rfl rfl)
theorem in_X8_refuse : Cond.initialized yX8_refuse.cls ∈ wsA := (inA1 1 rfl rfl)
theorem iv_X8_refuse : Cond.instanceMethod yX8_refuse ∈ wsA ∧ Cond.selects yX8_refuse.cls yX8_refuse yX8_refuse ∈ wsA := ⟨(inA1 98 rfl rfl), (inQ 0 rfl rfl)⟩
theorem mk_X8_55 : MK RX8 55 yX8_refuse cX8_refuse 3 (some .int) 1 := ⟨(inA1 96 rfl rfl), in_X8_refuse, cd_X8_refuse, pn_X8_refuse⟩
theorem mk_X8_59 : MK RX8 59 yJx4a65c_size_8abf5 cJx4a65c_size_8abf5 1 (some .int) 0 := ⟨(inA1 100 rfl rfl), in_Jx4a65c_size_8abf5, cd_Jx4a65c_size_8abf5, pn_Jx4a65c_size_8abf5⟩
theorem pn_X3_init : yX3_init.cls ≠ "java/lang/invoke/MethodHandle" ∧ yX3_init.cls ≠ "java/lang/invoke/VarHandle" ∧ (parseMethodDescriptor yX3_init.desc).map (fun d => d.parameters.length) = some 2 := by decide +kernel
theorem cd_X3_init : Cond.code yX3_init cX3_init 3 none ∈ wsA := (inA1 108 rfl rfl)
theorem in_X3_init : Cond.initialized yX3_init.cls ∈ wsA := (inA1 6 rfl rfl)
theorem ii_X3_init : yX3_init.name = "<init>" ∧ Cond.instanceMethod yX3_init ∈ wsA := ⟨rfl, (inA1 107 rfl rfl)⟩
theorem mk_X8_63 : MK RX8 63 yX3_init cX3_init 3 none 2 := ⟨(inA1 106 rfl rfl), in_X3_init, cd_X3_init, pn_X3_init⟩
theorem mk_X8_66 : MK RX8 66 yJx4a65c_add_9ea2d cJx4a65c_add_9ea2d 2 (some .boolean) 1 := ⟨(inA1 124 rfl rfl), in_Jx4a65c_add_9ea2d, cd_Jx4a65c_add_9ea2d, pn_Jx4a65c_add_9ea2d⟩
theorem pn_X8_nodeAt : yX8_nodeAt.cls ≠ "java/lang/invoke/MethodHandle" ∧ yX8_nodeAt.cls ≠ "java/lang/invoke/VarHandle" ∧ (parseMethodDescriptor yX8_nodeAt.desc).map (fun d => d.parameters.length) = some 1 := by decide +kernel
theorem cd_X8_nodeAt : Cond.code yX8_nodeAt cX8_nodeAt 2 (some (.object "WatchServer$Node")) ∈ wsA := (inA1 189 rfl rfl)
theorem in_X8_nodeAt : Cond.initialized yX8_nodeAt.cls ∈ wsA := (inA1 1 rfl rfl)
theorem iv_X8_nodeAt : Cond.instanceMethod yX8_nodeAt ∈ wsA ∧ Cond.selects yX8_nodeAt.cls yX8_nodeAt yX8_nodeAt ∈ wsA := ⟨(inA1 188 rfl rfl), (inQ 4 rfl rfl)⟩
theorem mk_X8_70 : MK RX8 70 yX8_nodeAt cX8_nodeAt 2 (some (.object "WatchServer$Node")) 1 := ⟨(inA1 186 rfl rfl), in_X8_nodeAt, cd_X8_nodeAt, pn_X8_nodeAt⟩
theorem cl_X8_74 : Cond.classLink RX8 74 "WatchServer$Reference" ∈ wsA := (inA1 204 rfl rfl)
theorem nk_X8_74 : NK RX8 74 6 3 [.int 0, .int 0, .int 0] := ⟨RX5, TX5, tyX5, ci_X5, cl_X8_74, (inA1 205 rfl rfl), (inA1 13 rfl rfl), fun j hj => match j, hj with | 0, _ => rfl | 1, _ => rfl | 2, _ => rfl | j + 3, h => absurd h (Nat.not_lt.mpr (Nat.le_add_left _ _)), nrf_of rfl⟩
theorem pn_X5_init : yX5_init.cls ≠ "java/lang/invoke/MethodHandle" ∧ yX5_init.cls ≠ "java/lang/invoke/VarHandle" ∧ (parseMethodDescriptor yX5_init.desc).map (fun d => d.parameters.length) = some 3 := by decide +kernel
theorem cd_X5_init : Cond.code yX5_init cX5_init 4 none ∈ wsA := (inA1 208 rfl rfl)
theorem in_X5_init : Cond.initialized yX5_init.cls ∈ wsA := (inA1 13 rfl rfl)
theorem ii_X5_init : yX5_init.name = "<init>" ∧ Cond.instanceMethod yX5_init ∈ wsA := ⟨rfl, (inA1 207 rfl rfl)⟩
theorem mk_X8_76 : MK RX8 76 yX5_init cX5_init 4 none 3 := ⟨(inA1 206 rfl rfl), in_X5_init, cd_X5_init, pn_X5_init⟩
theorem pn_X8_variableAt : yX8_variableAt.cls ≠ "java/lang/invoke/MethodHandle" ∧ yX8_variableAt.cls ≠ "java/lang/invoke/VarHandle" ∧ (parseMethodDescriptor yX8_variableAt.desc).map (fun d => d.parameters.length) = some 1 := by decide +kernel
theorem cd_X8_variableAt : Cond.code yX8_variableAt cX8_variableAt 3 (some (.object "WatchServer$Node")) ∈ wsA := (inA1 227 rfl rfl)
theorem in_X8_variableAt : Cond.initialized yX8_variableAt.cls ∈ wsA := (inA1 1 rfl rfl)
theorem iv_X8_variableAt : Cond.instanceMethod yX8_variableAt ∈ wsA ∧ Cond.selects yX8_variableAt.cls yX8_variableAt yX8_variableAt ∈ wsA := ⟨(inA1 226 rfl rfl), (inQ 5 rfl rfl)⟩
theorem mk_X8_79 : MK RX8 79 yX8_variableAt cX8_variableAt 3 (some (.object "WatchServer$Node")) 1 := ⟨(inA1 224 rfl rfl), in_X8_variableAt, cd_X8_variableAt, pn_X8_variableAt⟩
theorem fk_X8_82 : FK RX8 82 4 2 false (.long) := ⟨RX3, TX3, 3, tyX3, "WatchServer$Node", ci_X3, by decide, (inA1 116 rfl rfl), Or.inl rfl, rfl, rfl⟩
theorem kc_X8_85 : Cond.constant RX8 85 (100000 : Int32) ∈ wsA := (inA1 232 rfl rfl)
theorem pn_X8_sampleItems : yX8_sampleItems.cls ≠ "java/lang/invoke/MethodHandle" ∧ yX8_sampleItems.cls ≠ "java/lang/invoke/VarHandle" ∧ (parseMethodDescriptor yX8_sampleItems.desc).map (fun d => d.parameters.length) = some 0 := by decide +kernel
theorem cd_X8_sampleItems : Cond.code yX8_sampleItems cX8_sampleItems 3 none ∈ wsA := (inA1 236 rfl rfl)
theorem in_X8_sampleItems : Cond.initialized yX8_sampleItems.cls ∈ wsA := (inA1 1 rfl rfl)
theorem iv_X8_sampleItems : Cond.instanceMethod yX8_sampleItems ∈ wsA ∧ Cond.selects yX8_sampleItems.cls yX8_sampleItems yX8_sampleItems ∈ wsA := ⟨(inA1 235 rfl rfl), (inQ 6 rfl rfl)⟩
theorem mk_X8_86 : MK RX8 86 yX8_sampleItems cX8_sampleItems 3 none 0 := ⟨(inA1 233 rfl rfl), in_X8_sampleItems, cd_X8_sampleItems, pn_X8_sampleItems⟩
theorem pn_X8_serveSubscriptions : yX8_serveSubscriptions.cls ≠ "java/lang/invoke/MethodHandle" ∧ yX8_serveSubscriptions.cls ≠ "java/lang/invoke/VarHandle" ∧ (parseMethodDescriptor yX8_serveSubscriptions.desc).map (fun d => d.parameters.length) = some 0 := by decide +kernel
theorem cd_X8_serveSubscriptions : Cond.code yX8_serveSubscriptions cX8_serveSubscriptions 3 none ∈ wsA := (inA2 63 rfl rfl)
theorem in_X8_serveSubscriptions : Cond.initialized yX8_serveSubscriptions.cls ∈ wsA := (inA1 1 rfl rfl)
theorem iv_X8_serveSubscriptions : Cond.instanceMethod yX8_serveSubscriptions ∈ wsA ∧ Cond.selects yX8_serveSubscriptions.cls yX8_serveSubscriptions yX8_serveSubscriptions ∈ wsA := ⟨(inA2 62 rfl rfl), (inQ 8 rfl rfl)⟩
theorem mk_X8_89 : MK RX8 89 yX8_serveSubscriptions cX8_serveSubscriptions 3 none 0 := ⟨(inA2 60 rfl rfl), in_X8_serveSubscriptions, cd_X8_serveSubscriptions, pn_X8_serveSubscriptions⟩
theorem pn_X8_closeTimedOut : yX8_closeTimedOut.cls ≠ "java/lang/invoke/MethodHandle" ∧ yX8_closeTimedOut.cls ≠ "java/lang/invoke/VarHandle" ∧ (parseMethodDescriptor yX8_closeTimedOut.desc).map (fun d => d.parameters.length) = some 0 := by decide +kernel
theorem cd_X8_closeTimedOut : Cond.code yX8_closeTimedOut cX8_closeTimedOut 3 none ∈ wsA := (inA2 155 rfl rfl)
theorem in_X8_closeTimedOut : Cond.initialized yX8_closeTimedOut.cls ∈ wsA := (inA1 1 rfl rfl)
theorem iv_X8_closeTimedOut : Cond.instanceMethod yX8_closeTimedOut ∈ wsA ∧ Cond.selects yX8_closeTimedOut.cls yX8_closeTimedOut yX8_closeTimedOut ∈ wsA := ⟨(inA2 154 rfl rfl), (inQ 12 rfl rfl)⟩
theorem mk_X8_92 : MK RX8 92 yX8_closeTimedOut cX8_closeTimedOut 3 none 0 := ⟨(inA2 152 rfl rfl), in_X8_closeTimedOut, cd_X8_closeTimedOut, pn_X8_closeTimedOut⟩
theorem cl_X8_95 : Cond.classLink RX8 95 "WatchServer$Session" ∈ wsA := (inA2 156 rfl rfl)
theorem nk_X8_95 : NK RX8 95 7 6 [.int 0, .int 0, .null, .int 0, .int 0, .int 0] := ⟨RX6, TX6, tyX6, ci_X6, cl_X8_95, (inA2 165 rfl rfl), (inA1 16 rfl rfl), fun j hj => match j, hj with | 0, _ => rfl | 1, _ => rfl | 2, _ => rfl | 3, _ => rfl | 4, _ => rfl | 5, _ => rfl | j + 6, h => absurd h (Nat.not_lt.mpr (Nat.le_add_left _ _)), nrf_of rfl⟩
theorem pn_X6_init : yX6_init.cls ≠ "java/lang/invoke/MethodHandle" ∧ yX6_init.cls ≠ "java/lang/invoke/VarHandle" ∧ (parseMethodDescriptor yX6_init.desc).map (fun d => d.parameters.length) = some 3 := by decide +kernel
theorem cd_X6_init : Cond.code yX6_init cX6_init 4 none ∈ wsA := (inA2 168 rfl rfl)
theorem in_X6_init : Cond.initialized yX6_init.cls ∈ wsA := (inA1 16 rfl rfl)
theorem ii_X6_init : yX6_init.name = "<init>" ∧ Cond.instanceMethod yX6_init ∈ wsA := ⟨rfl, (inA2 167 rfl rfl)⟩
theorem mk_X8_97 : MK RX8 97 yX6_init cX6_init 4 none 3 := ⟨(inA2 166 rfl rfl), in_X6_init, cd_X6_init, pn_X6_init⟩
theorem pn_X8_sessionAt : yX8_sessionAt.cls ≠ "java/lang/invoke/MethodHandle" ∧ yX8_sessionAt.cls ≠ "java/lang/invoke/VarHandle" ∧ (parseMethodDescriptor yX8_sessionAt.desc).map (fun d => d.parameters.length) = some 1 := by decide +kernel
theorem cd_X8_sessionAt : Cond.code yX8_sessionAt cX8_sessionAt 2 (some (.object "WatchServer$Session")) ∈ wsA := (inA2 203 rfl rfl)
theorem in_X8_sessionAt : Cond.initialized yX8_sessionAt.cls ∈ wsA := (inA1 1 rfl rfl)
theorem iv_X8_sessionAt : Cond.instanceMethod yX8_sessionAt ∈ wsA ∧ Cond.selects yX8_sessionAt.cls yX8_sessionAt yX8_sessionAt ∈ wsA := ⟨(inA2 202 rfl rfl), (inQ 14 rfl rfl)⟩
theorem mk_X8_98 : MK RX8 98 yX8_sessionAt cX8_sessionAt 2 (some (.object "WatchServer$Session")) 1 := ⟨(inA2 200 rfl rfl), in_X8_sessionAt, cd_X8_sessionAt, pn_X8_sessionAt⟩
theorem fk_X8_102 : FK RX8 102 7 3 false (.int) := ⟨RX6, TX6, 6, tyX6, "WatchServer$Session", ci_X6, by decide, (inA2 178 rfl rfl), Or.inl rfl, rfl, rfl⟩
theorem pn_X8_refuseSession : yX8_refuseSession.cls ≠ "java/lang/invoke/MethodHandle" ∧ yX8_refuseSession.cls ≠ "java/lang/invoke/VarHandle" ∧ (parseMethodDescriptor yX8_refuseSession.desc).map (fun d => d.parameters.length) = some 1 := by decide +kernel
theorem cd_X8_refuseSession : Cond.code yX8_refuseSession cX8_refuseSession 3 (some .int) ∈ wsA := (inA2 207 rfl rfl)
theorem in_X8_refuseSession : Cond.initialized yX8_refuseSession.cls ∈ wsA := (inA1 1 rfl rfl)
theorem iv_X8_refuseSession : Cond.instanceMethod yX8_refuseSession ∈ wsA ∧ Cond.selects yX8_refuseSession.cls yX8_refuseSession yX8_refuseSession ∈ wsA := ⟨(inA2 206 rfl rfl), (inQ 15 rfl rfl)⟩
theorem mk_X8_105 : MK RX8 105 yX8_refuseSession cX8_refuseSession 3 (some .int) 1 := ⟨(inA2 204 rfl rfl), in_X8_refuseSession, cd_X8_refuseSession, pn_X8_refuseSession⟩
theorem pn_X6_renew : yX6_renew.cls ≠ "java/lang/invoke/MethodHandle" ∧ yX6_renew.cls ≠ "java/lang/invoke/VarHandle" ∧ (parseMethodDescriptor yX6_renew.desc).map (fun d => d.parameters.length) = some 1 := by decide +kernel
theorem cd_X6_renew : Cond.code yX6_renew cX6_renew 2 none ∈ wsA := (inA2 211 rfl rfl)
theorem in_X6_renew : Cond.initialized yX6_renew.cls ∈ wsA := (inA1 16 rfl rfl)
theorem iv_X6_renew : Cond.instanceMethod yX6_renew ∈ wsA ∧ Cond.selects yX6_renew.cls yX6_renew yX6_renew ∈ wsA := ⟨(inA2 209 rfl rfl), (inA2 210 rfl rfl)⟩
theorem mk_X8_108 : MK RX8 108 yX6_renew cX6_renew 2 none 1 := ⟨(inA2 208 rfl rfl), in_X6_renew, cd_X6_renew, pn_X6_renew⟩
theorem pn_X8_enter : yX8_enter.cls ≠ "java/lang/invoke/MethodHandle" ∧ yX8_enter.cls ≠ "java/lang/invoke/VarHandle" ∧ (parseMethodDescriptor yX8_enter.desc).map (fun d => d.parameters.length) = some 1 := by decide +kernel
theorem cd_X8_enter : Cond.code yX8_enter cX8_enter 3 (some (.object "WatchServer$Session")) ∈ wsA := (inA2 219 rfl rfl)
theorem in_X8_enter : Cond.initialized yX8_enter.cls ∈ wsA := (inA1 1 rfl rfl)
theorem iv_X8_enter : Cond.instanceMethod yX8_enter ∈ wsA ∧ Cond.selects yX8_enter.cls yX8_enter yX8_enter ∈ wsA := ⟨(inA2 218 rfl rfl), (inQ 16 rfl rfl)⟩
theorem mk_X8_112 : MK RX8 112 yX8_enter cX8_enter 3 (some (.object "WatchServer$Session")) 1 := ⟨(inA2 216 rfl rfl), in_X8_enter, cd_X8_enter, pn_X8_enter⟩
theorem pn_X8_shut : yX8_shut.cls ≠ "java/lang/invoke/MethodHandle" ∧ yX8_shut.cls ≠ "java/lang/invoke/VarHandle" ∧ (parseMethodDescriptor yX8_shut.desc).map (fun d => d.parameters.length) = some 1 := by decide +kernel
theorem cd_X8_shut : Cond.code yX8_shut cX8_shut 5 (some .int) ∈ wsA := (inA2 160 rfl rfl)
theorem in_X8_shut : Cond.initialized yX8_shut.cls ∈ wsA := (inA1 1 rfl rfl)
theorem iv_X8_shut : Cond.instanceMethod yX8_shut ∈ wsA ∧ Cond.selects yX8_shut.cls yX8_shut yX8_shut ∈ wsA := ⟨(inA2 159 rfl rfl), (inQ 13 rfl rfl)⟩
theorem mk_X8_115 : MK RX8 115 yX8_shut cX8_shut 5 (some .int) 1 := ⟨(inA2 157 rfl rfl), in_X8_shut, cd_X8_shut, pn_X8_shut⟩
theorem mk_X8_119 : MK RX8 119 yJx4a65c_get_915e3 cJx4a65c_get_915e3 2 (some (.object "java/lang/Object")) 1 := ⟨(inA1 190 rfl rfl), in_Jx4a65c_get_915e3, cd_Jx4a65c_get_915e3, pn_Jx4a65c_get_915e3⟩
theorem pn_X5_touches : yX5_touches.cls ≠ "java/lang/invoke/MethodHandle" ∧ yX5_touches.cls ≠ "java/lang/invoke/VarHandle" ∧ (parseMethodDescriptor yX5_touches.desc).map (fun d => d.parameters.length) = some 2 := by decide +kernel
theorem cd_X5_touches : Cond.code yX5_touches cX5_touches 3 (some .boolean) ∈ wsA := (inA2 227 rfl rfl)
theorem in_X5_touches : Cond.initialized yX5_touches.cls ∈ wsA := (inA1 13 rfl rfl)
theorem iv_X5_touches : Cond.instanceMethod yX5_touches ∈ wsA ∧ Cond.selects yX5_touches.cls yX5_touches yX5_touches ∈ wsA := ⟨(inA2 225 rfl rfl), (inA2 226 rfl rfl)⟩
theorem mk_X8_123 : MK RX8 123 yX5_touches cX5_touches 3 (some .boolean) 2 := ⟨(inA2 224 rfl rfl), in_X5_touches, cd_X5_touches, pn_X5_touches⟩
theorem pn_X5_isAmong : yX5_isAmong.cls ≠ "java/lang/invoke/MethodHandle" ∧ yX5_isAmong.cls ≠ "java/lang/invoke/VarHandle" ∧ (parseMethodDescriptor yX5_isAmong.desc).map (fun d => d.parameters.length) = some 1 := by decide +kernel
theorem cd_X5_isAmong : Cond.code yX5_isAmong cX5_isAmong 2 (some .boolean) ∈ wsA := (inA2 231 rfl rfl)
theorem in_X5_isAmong : Cond.initialized yX5_isAmong.cls ∈ wsA := (inA1 13 rfl rfl)
theorem iv_X5_isAmong : Cond.instanceMethod yX5_isAmong ∈ wsA ∧ Cond.selects yX5_isAmong.cls yX5_isAmong yX5_isAmong ∈ wsA := ⟨(inA2 229 rfl rfl), (inA2 230 rfl rfl)⟩
theorem mk_X8_127 : MK RX8 127 yX5_isAmong cX5_isAmong 2 (some .boolean) 1 := ⟨(inA2 228 rfl rfl), in_X5_isAmong, cd_X5_isAmong, pn_X5_isAmong⟩
theorem pn_X5_otherEnd : yX5_otherEnd.cls ≠ "java/lang/invoke/MethodHandle" ∧ yX5_otherEnd.cls ≠ "java/lang/invoke/VarHandle" ∧ (parseMethodDescriptor yX5_otherEnd.desc).map (fun d => d.parameters.length) = some 1 := by decide +kernel
theorem cd_X5_otherEnd : Cond.code yX5_otherEnd cX5_otherEnd 2 (some .int) ∈ wsA := (inA2 235 rfl rfl)
theorem in_X5_otherEnd : Cond.initialized yX5_otherEnd.cls ∈ wsA := (inA1 13 rfl rfl)
theorem iv_X5_otherEnd : Cond.instanceMethod yX5_otherEnd ∈ wsA ∧ Cond.selects yX5_otherEnd.cls yX5_otherEnd yX5_otherEnd ∈ wsA := ⟨(inA2 233 rfl rfl), (inA2 234 rfl rfl)⟩
theorem mk_X8_131 : MK RX8 131 yX5_otherEnd cX5_otherEnd 2 (some .int) 1 := ⟨(inA2 232 rfl rfl), in_X5_otherEnd, cd_X5_otherEnd, pn_X5_otherEnd⟩
theorem fk_X8_134 : FK RX8 134 4 1 true (.int) := ⟨RX3, TX3, 3, tyX3, "WatchServer$Node", ci_X3, by decide, (inA1 113 rfl rfl), Or.inl rfl, rfl, rfl⟩
theorem pn_X7_mayHave : yX7_mayHave.cls ≠ "java/lang/invoke/MethodHandle" ∧ yX7_mayHave.cls ≠ "java/lang/invoke/VarHandle" ∧ (parseMethodDescriptor yX7_mayHave.desc).map (fun d => d.parameters.length) = some 4 := by decide +kernel
theorem cd_X7_mayHave : Cond.code yX7_mayHave cX7_mayHave 4 (some .boolean) ∈ wsA := (inA3 14 rfl rfl)
theorem in_X7_mayHave : Cond.initialized yX7_mayHave.cls ∈ wsA := (inA1 17 rfl rfl)
theorem st_X7_mayHave : Cond.static yX7_mayHave ∈ wsA := (inA3 13 rfl rfl)
theorem mk_X8_137 : MK RX8 137 yX7_mayHave cX7_mayHave 4 (some .boolean) 4 := ⟨(inA3 12 rfl rfl), in_X7_mayHave, cd_X7_mayHave, pn_X7_mayHave⟩
theorem cl_X8_138 : Cond.classLink RX8 138 "WatchServer$Subscription" ∈ wsA := (inA2 64 rfl rfl)
theorem nk_X8_138 : NK RX8 138 8 18 [.int 0, .null, .null, .null, .int 0, .int 0, .int 0, .int 0, .int 0, .int 0, .int 0, .int 0, .int 0, .int 0, .int 0, .int 0, .int 0, .int 0] := ⟨RX7, TX7, tyX7, ci_X7, cl_X8_138, (inA3 16 rfl rfl), (inA1 17 rfl rfl), fun j hj => match j, hj with | 0, _ => rfl | 1, _ => rfl | 2, _ => rfl | 3, _ => rfl | 4, _ => rfl | 5, _ => rfl | 6, _ => rfl | 7, _ => rfl | 8, _ => rfl | 9, _ => rfl | 10, _ => rfl | 11, _ => rfl | 12, _ => rfl | 13, _ => rfl | 14, _ => rfl | 15, _ => rfl | 16, _ => rfl | 17, _ => rfl | j + 18, h => absurd h (Nat.not_lt.mpr (Nat.le_add_left _ _)), nrf_of rfl⟩
theorem pn_X7_init : yX7_init.cls ≠ "java/lang/invoke/MethodHandle" ∧ yX7_init.cls ≠ "java/lang/invoke/VarHandle" ∧ (parseMethodDescriptor yX7_init.desc).map (fun d => d.parameters.length) = some 2 := by decide +kernel
theorem cd_X7_init : Cond.code yX7_init cX7_init 3 none ∈ wsA := (inA3 19 rfl rfl)
theorem in_X7_init : Cond.initialized yX7_init.cls ∈ wsA := (inA1 17 rfl rfl)
theorem ii_X7_init : yX7_init.name = "<init>" ∧ Cond.instanceMethod yX7_init ∈ wsA := ⟨rfl, (inA3 18 rfl rfl)⟩
theorem mk_X8_143 : MK RX8 143 yX7_init cX7_init 3 none 2 := ⟨(inA3 17 rfl rfl), in_X7_init, cd_X7_init, pn_X7_init⟩
theorem pn_X7_begin : yX7_begin.cls ≠ "java/lang/invoke/MethodHandle" ∧ yX7_begin.cls ≠ "java/lang/invoke/VarHandle" ∧ (parseMethodDescriptor yX7_begin.desc).map (fun d => d.parameters.length) = some 5 := by decide +kernel
theorem cd_X7_begin : Cond.code yX7_begin cX7_begin 6 none ∈ wsA := (inA3 98 rfl rfl)
theorem in_X7_begin : Cond.initialized yX7_begin.cls ∈ wsA := (inA1 17 rfl rfl)
theorem iv_X7_begin : Cond.instanceMethod yX7_begin ∈ wsA ∧ Cond.selects yX7_begin.cls yX7_begin yX7_begin ∈ wsA := ⟨(inA3 96 rfl rfl), (inA3 97 rfl rfl)⟩
theorem mk_X8_146 : MK RX8 146 yX7_begin cX7_begin 6 none 5 := ⟨(inA3 95 rfl rfl), in_X7_begin, cd_X7_begin, pn_X7_begin⟩
theorem fk_X8_150 : FK RX8 150 8 0 true (.int) := ⟨RX7, TX7, 18, tyX7, "WatchServer$Subscription", ci_X7, by decide, (inA3 24 rfl rfl), Or.inl rfl, rfl, rfl⟩
theorem pn_X8_subscriptionOf : yX8_subscriptionOf.cls ≠ "java/lang/invoke/MethodHandle" ∧ yX8_subscriptionOf.cls ≠ "java/lang/invoke/VarHandle" ∧ (parseMethodDescriptor yX8_subscriptionOf.desc).map (fun d => d.parameters.length) = some 2 := by decide +kernel
theorem cd_X8_subscriptionOf : Cond.code yX8_subscriptionOf cX8_subscriptionOf 4 (some (.object "WatchServer$Subscription")) ∈ wsA := (inA3 106 rfl rfl)
theorem in_X8_subscriptionOf : Cond.initialized yX8_subscriptionOf.cls ∈ wsA := (inA1 1 rfl rfl)
theorem iv_X8_subscriptionOf : Cond.instanceMethod yX8_subscriptionOf ∈ wsA ∧ Cond.selects yX8_subscriptionOf.cls yX8_subscriptionOf yX8_subscriptionOf ∈ wsA := ⟨(inA3 105 rfl rfl), (inQ 17 rfl rfl)⟩
theorem mk_X8_153 : MK RX8 153 yX8_subscriptionOf cX8_subscriptionOf 4 (some (.object "WatchServer$Subscription")) 2 := ⟨(inA3 103 rfl rfl), in_X8_subscriptionOf, cd_X8_subscriptionOf, pn_X8_subscriptionOf⟩
theorem fk_X8_157 : FK RX8 157 8 9 false (.boolean) := ⟨RX7, TX7, 18, tyX7, "WatchServer$Subscription", ci_X7, by decide, (inA3 41 rfl rfl), Or.inl rfl, rfl, rfl⟩
theorem fk_X8_161 : FK RX8 161 8 7 false (.int) := ⟨RX7, TX7, 18, tyX7, "WatchServer$Subscription", ci_X7, by decide, (inA3 38 rfl rfl), Or.inl rfl, rfl, rfl⟩
theorem fk_X8_164 : FK RX8 164 8 12 false (.int) := ⟨RX7, TX7, 18, tyX7, "WatchServer$Subscription", ci_X7, by decide, (inA3 47 rfl rfl), Or.inl rfl, rfl, rfl⟩
theorem pn_X8_asNumber : yX8_asNumber.cls ≠ "java/lang/invoke/MethodHandle" ∧ yX8_asNumber.cls ≠ "java/lang/invoke/VarHandle" ∧ (parseMethodDescriptor yX8_asNumber.desc).map (fun d => d.parameters.length) = some 1 := by decide +kernel
theorem cd_X8_asNumber : Cond.code yX8_asNumber cX8_asNumber 1 (some .int) ∈ wsA := (inA3 117 rfl rfl)
theorem in_X8_asNumber : Cond.initialized yX8_asNumber.cls ∈ wsA := (inA1 1 rfl rfl)
theorem st_X8_asNumber : Cond.static yX8_asNumber ∈ wsA := (inA3 116 rfl rfl)
theorem mk_X8_167 : MK RX8 167 yX8_asNumber cX8_asNumber 1 (some .int) 1 := ⟨(inA3 115 rfl rfl), in_X8_asNumber, cd_X8_asNumber, pn_X8_asNumber⟩
theorem pn_X8_subscriptionAt : yX8_subscriptionAt.cls ≠ "java/lang/invoke/MethodHandle" ∧ yX8_subscriptionAt.cls ≠ "java/lang/invoke/VarHandle" ∧ (parseMethodDescriptor yX8_subscriptionAt.desc).map (fun d => d.parameters.length) = some 1 := by decide +kernel
theorem cd_X8_subscriptionAt : Cond.code yX8_subscriptionAt cX8_subscriptionAt 3 (some (.object "WatchServer$Subscription")) ∈ wsA := (inA3 110 rfl rfl)
theorem in_X8_subscriptionAt : Cond.initialized yX8_subscriptionAt.cls ∈ wsA := (inA1 1 rfl rfl)
theorem iv_X8_subscriptionAt : Cond.instanceMethod yX8_subscriptionAt ∈ wsA ∧ Cond.selects yX8_subscriptionAt.cls yX8_subscriptionAt yX8_subscriptionAt ∈ wsA := ⟨(inA3 109 rfl rfl), (inQ 18 rfl rfl)⟩
theorem mk_X8_171 : MK RX8 171 yX8_subscriptionAt cX8_subscriptionAt 3 (some (.object "WatchServer$Subscription")) 1 := ⟨(inA3 107 rfl rfl), in_X8_subscriptionAt, cd_X8_subscriptionAt, pn_X8_subscriptionAt⟩
theorem fk_X8_175 : FK RX8 175 8 3 false (.object "WatchServer$Session") := ⟨RX7, TX7, 18, tyX7, "WatchServer$Subscription", ci_X7, by decide, (inA3 30 rfl rfl), Or.inl rfl, rfl, rfl⟩
theorem pn_X7_end : yX7_end.cls ≠ "java/lang/invoke/MethodHandle" ∧ yX7_end.cls ≠ "java/lang/invoke/VarHandle" ∧ (parseMethodDescriptor yX7_end.desc).map (fun d => d.parameters.length) = some 0 := by decide +kernel
theorem cd_X7_end : Cond.code yX7_end cX7_end 2 none ∈ wsA := (inA2 91 rfl rfl)
theorem in_X7_end : Cond.initialized yX7_end.cls ∈ wsA := (inA1 17 rfl rfl)
theorem iv_X7_end : Cond.instanceMethod yX7_end ∈ wsA ∧ Cond.selects yX7_end.cls yX7_end yX7_end ∈ wsA := ⟨(inA2 89 rfl rfl), (inA2 90 rfl rfl)⟩
theorem mk_X8_179 : MK RX8 179 yX7_end cX7_end 2 none 0 := ⟨(inA2 88 rfl rfl), in_X7_end, cd_X7_end, pn_X7_end⟩
theorem pn_X1_mayHave : yX1_mayHave.cls ≠ "java/lang/invoke/MethodHandle" ∧ yX1_mayHave.cls ≠ "java/lang/invoke/VarHandle" ∧ (parseMethodDescriptor yX1_mayHave.desc).map (fun d => d.parameters.length) = some 4 := by decide +kernel
theorem cd_X1_mayHave : Cond.code yX1_mayHave cX1_mayHave 5 (some .boolean) ∈ wsA := (inA3 132 rfl rfl)
theorem in_X1_mayHave : Cond.initialized yX1_mayHave.cls ∈ wsA := (inA1 18 rfl rfl)
theorem st_X1_mayHave : Cond.static yX1_mayHave ∈ wsA := (inA3 131 rfl rfl)
theorem mk_X8_182 : MK RX8 182 yX1_mayHave cX1_mayHave 5 (some .boolean) 4 := ⟨(inA3 130 rfl rfl), in_X1_mayHave, cd_X1_mayHave, pn_X1_mayHave⟩
theorem cl_X8_183 : Cond.classLink RX8 183 "WatchServer$Item" ∈ wsA := (inA1 237 rfl rfl)
theorem nk_X8_183 : NK RX8 183 2 11 [.int 0, .null, .null, .int 0, .int 0, .long 0, .null, .int 0, .int 0, .long 0, .int 0] := ⟨RX1, TX1, tyX1, ci_X1, cl_X8_183, (inA3 134 rfl rfl), (inA1 18 rfl rfl), fun j hj => match j, hj with | 0, _ => rfl | 1, _ => rfl | 2, _ => rfl | 3, _ => rfl | 4, _ => rfl | 5, _ => rfl | 6, _ => rfl | 7, _ => rfl | 8, _ => rfl | 9, _ => rfl | 10, _ => rfl | j + 11, h => absurd h (Nat.not_lt.mpr (Nat.le_add_left _ _)), nrf_of rfl⟩
theorem cl_X8_187 : Cond.classLink RX8 187 "WatchServer$Queue" ∈ wsA := (inA3 135 rfl rfl)
theorem nk_X8_187 : NK RX8 187 5 3 [.int 0, .int 0, .null] := ⟨RX4, TX4, tyX4, ci_X4, cl_X8_187, (inA3 136 rfl rfl), (inA1 19 rfl rfl), fun j hj => match j, hj with | 0, _ => rfl | 1, _ => rfl | 2, _ => rfl | j + 3, h => absurd h (Nat.not_lt.mpr (Nat.le_add_left _ _)), nrf_of rfl⟩
theorem pn_X4_init : yX4_init.cls ≠ "java/lang/invoke/MethodHandle" ∧ yX4_init.cls ≠ "java/lang/invoke/VarHandle" ∧ (parseMethodDescriptor yX4_init.desc).map (fun d => d.parameters.length) = some 2 := by decide +kernel
theorem cd_X4_init : Cond.code yX4_init cX4_init 3 none ∈ wsA := (inA3 139 rfl rfl)
theorem in_X4_init : Cond.initialized yX4_init.cls ∈ wsA := (inA1 19 rfl rfl)
theorem ii_X4_init : yX4_init.name = "<init>" ∧ Cond.instanceMethod yX4_init ∈ wsA := ⟨rfl, (inA3 138 rfl rfl)⟩
theorem mk_X8_189 : MK RX8 189 yX4_init cX4_init 3 none 2 := ⟨(inA3 137 rfl rfl), in_X4_init, cd_X4_init, pn_X4_init⟩
theorem pn_X1_init : yX1_init.cls ≠ "java/lang/invoke/MethodHandle" ∧ yX1_init.cls ≠ "java/lang/invoke/VarHandle" ∧ (parseMethodDescriptor yX1_init.desc).map (fun d => d.parameters.length) = some 7 := by decide +kernel
theorem cd_X1_init : Cond.code yX1_init cX1_init 9 none ∈ wsA := (inA3 158 rfl rfl)
theorem in_X1_init : Cond.initialized yX1_init.cls ∈ wsA := (inA1 18 rfl rfl)
theorem ii_X1_init : yX1_init.name = "<init>" ∧ Cond.instanceMethod yX1_init ∈ wsA := ⟨rfl, (inA3 157 rfl rfl)⟩
theorem mk_X8_192 : MK RX8 192 yX1_init cX1_init 9 none 7 := ⟨(inA3 156 rfl rfl), in_X1_init, cd_X1_init, pn_X1_init⟩
theorem fk_X8_195 : FK RX8 195 8 1 true (.object "java/util/ArrayList") := ⟨RX7, TX7, 18, tyX7, "WatchServer$Subscription", ci_X7, by decide, (inA3 26 rfl rfl), Or.inl rfl, rfl, rfl⟩
theorem pn_X1_switchTo : yX1_switchTo.cls ≠ "java/lang/invoke/MethodHandle" ∧ yX1_switchTo.cls ≠ "java/lang/invoke/VarHandle" ∧ (parseMethodDescriptor yX1_switchTo.desc).map (fun d => d.parameters.length) = some 2 := by decide +kernel
theorem cd_X1_switchTo : Cond.code yX1_switchTo cX1_switchTo 4 none ∈ wsA := (inA3 208 rfl rfl)
theorem in_X1_switchTo : Cond.initialized yX1_switchTo.cls ∈ wsA := (inA1 18 rfl rfl)
theorem iv_X1_switchTo : Cond.instanceMethod yX1_switchTo ∈ wsA ∧ Cond.selects yX1_switchTo.cls yX1_switchTo yX1_switchTo ∈ wsA := ⟨(inA3 206 rfl rfl), (inA3 207 rfl rfl)⟩
theorem mk_X8_196 : MK RX8 196 yX1_switchTo cX1_switchTo 4 none 2 := ⟨(inA3 205 rfl rfl), in_X1_switchTo, cd_X1_switchTo, pn_X1_switchTo⟩
theorem fk_X8_199 : FK RX8 199 2 0 true (.int) := ⟨RX1, TX1, 11, tyX1, "WatchServer$Item", ci_X1, by decide, (inA3 161 rfl rfl), Or.inl rfl, rfl, rfl⟩
theorem pn_X8_itemOfClient : yX8_itemOfClient.cls ≠ "java/lang/invoke/MethodHandle" ∧ yX8_itemOfClient.cls ≠ "java/lang/invoke/VarHandle" ∧ (parseMethodDescriptor yX8_itemOfClient.desc).map (fun d => d.parameters.length) = some 2 := by decide +kernel
theorem cd_X8_itemOfClient : Cond.code yX8_itemOfClient cX8_itemOfClient 4 (some (.object "WatchServer$Item")) ∈ wsA := (inA3 218 rfl rfl)
theorem in_X8_itemOfClient : Cond.initialized yX8_itemOfClient.cls ∈ wsA := (inA1 1 rfl rfl)
theorem iv_X8_itemOfClient : Cond.instanceMethod yX8_itemOfClient ∈ wsA ∧ Cond.selects yX8_itemOfClient.cls yX8_itemOfClient yX8_itemOfClient ∈ wsA := ⟨(inA3 217 rfl rfl), (inQ 19 rfl rfl)⟩
theorem mk_X8_200 : MK RX8 200 yX8_itemOfClient cX8_itemOfClient 4 (some (.object "WatchServer$Item")) 2 := ⟨(inA3 215 rfl rfl), in_X8_itemOfClient, cd_X8_itemOfClient, pn_X8_itemOfClient⟩
theorem fk_X8_204 : FK RX8 204 2 7 false (.int) := ⟨RX1, TX1, 11, tyX1, "WatchServer$Item", ci_X1, by decide, (inA3 176 rfl rfl), Or.inl rfl, rfl, rfl⟩
theorem fk_X8_207 : FK RX8 207 2 1 true (.object "WatchServer$Subscription") := ⟨RX1, TX1, 11, tyX1, "WatchServer$Item", ci_X1, by decide, (inA3 163 rfl rfl), Or.inl rfl, rfl, rfl⟩
theorem fk_X8_210 : FK RX8 210 2 6 true (.object "WatchServer$Queue") := ⟨RX1, TX1, 11, tyX1, "WatchServer$Item", ci_X1, by decide, (inA3 173 rfl rfl), Or.inl rfl, rfl, rfl⟩
theorem fk_X8_214 : FK RX8 214 5 2 true (.object "java/util/ArrayList") := ⟨RX4, TX4, 3, tyX4, "WatchServer$Queue", ci_X4, by decide, (inA3 148 rfl rfl), Or.inl rfl, rfl, rfl⟩
theorem pn_X7_remove : yX7_remove.cls ≠ "java/lang/invoke/MethodHandle" ∧ yX7_remove.cls ≠ "java/lang/invoke/VarHandle" ∧ (parseMethodDescriptor yX7_remove.desc).map (fun d => d.parameters.length) = some 1 := by decide +kernel
theorem cd_X7_remove : Cond.code yX7_remove cX7_remove 3 none ∈ wsA := (inA3 230 rfl rfl)
theorem in_X7_remove : Cond.initialized yX7_remove.cls ∈ wsA := (inA1 17 rfl rfl)
theorem iv_X7_remove : Cond.instanceMethod yX7_remove ∈ wsA ∧ Cond.selects yX7_remove.cls yX7_remove yX7_remove ∈ wsA := ⟨(inA3 228 rfl rfl), (inA3 229 rfl rfl)⟩
theorem mk_X8_217 : MK RX8 217 yX7_remove cX7_remove 3 none 1 := ⟨(inA3 227 rfl rfl), in_X7_remove, cd_X7_remove, pn_X7_remove⟩
theorem pn_X8_countSubscriptions : yX8_countSubscriptions.cls ≠ "java/lang/invoke/MethodHandle" ∧ yX8_countSubscriptions.cls ≠ "java/lang/invoke/VarHandle" ∧ (parseMethodDescriptor yX8_countSubscriptions.desc).map (fun d => d.parameters.length) = some 1 := by decide +kernel
theorem cd_X8_countSubscriptions : Cond.code yX8_countSubscriptions cX8_countSubscriptions 5 (some .int) ∈ wsA := (inA3 238 rfl rfl)
theorem in_X8_countSubscriptions : Cond.initialized yX8_countSubscriptions.cls ∈ wsA := (inA1 1 rfl rfl)
theorem iv_X8_countSubscriptions : Cond.instanceMethod yX8_countSubscriptions ∈ wsA ∧ Cond.selects yX8_countSubscriptions.cls yX8_countSubscriptions yX8_countSubscriptions ∈ wsA := ⟨(inA3 237 rfl rfl), (inQ 21 rfl rfl)⟩
theorem mk_X8_221 : MK RX8 221 yX8_countSubscriptions cX8_countSubscriptions 5 (some .int) 1 := ⟨(inA3 235 rfl rfl), in_X8_countSubscriptions, cd_X8_countSubscriptions, pn_X8_countSubscriptions⟩
theorem fk_X8_224 : FK RX8 224 7 5 false (.int) := ⟨RX6, TX6, 6, tyX6, "WatchServer$Session", ci_X6, by decide, (inA2 182 rfl rfl), Or.inl rfl, rfl, rfl⟩
theorem pn_X8_acknowledge : yX8_acknowledge.cls ≠ "java/lang/invoke/MethodHandle" ∧ yX8_acknowledge.cls ≠ "java/lang/invoke/VarHandle" ∧ (parseMethodDescriptor yX8_acknowledge.desc).map (fun d => d.parameters.length) = some 3 := by decide +kernel
theorem cd_X8_acknowledge : Cond.code yX8_acknowledge cX8_acknowledge 5 (some .int) ∈ wsA := (inA4 2 rfl rfl)
theorem in_X8_acknowledge : Cond.initialized yX8_acknowledge.cls ∈ wsA := (inA1 1 rfl rfl)
theorem iv_X8_acknowledge : Cond.instanceMethod yX8_acknowledge ∈ wsA ∧ Cond.selects yX8_acknowledge.cls yX8_acknowledge yX8_acknowledge ∈ wsA := ⟨(inA4 1 rfl rfl), (inQ 22 rfl rfl)⟩
theorem mk_X8_227 : MK RX8 227 yX8_acknowledge cX8_acknowledge 5 (some .int) 3 := ⟨(inA3 239 rfl rfl), in_X8_acknowledge, cd_X8_acknowledge, pn_X8_acknowledge⟩
theorem pn_X8_longestLate : yX8_longestLate.cls ≠ "java/lang/invoke/MethodHandle" ∧ yX8_longestLate.cls ≠ "java/lang/invoke/VarHandle" ∧ (parseMethodDescriptor yX8_longestLate.desc).map (fun d => d.parameters.length) = some 1 := by decide +kernel
theorem cd_X8_longestLate : Cond.code yX8_longestLate cX8_longestLate 5 (some (.object "WatchServer$Subscription")) ∈ wsA := (inA4 10 rfl rfl)
theorem in_X8_longestLate : Cond.initialized yX8_longestLate.cls ∈ wsA := (inA1 1 rfl rfl)
theorem iv_X8_longestLate : Cond.instanceMethod yX8_longestLate ∈ wsA ∧ Cond.selects yX8_longestLate.cls yX8_longestLate yX8_longestLate ∈ wsA := ⟨(inA4 9 rfl rfl), (inQ 23 rfl rfl)⟩
theorem mk_X8_231 : MK RX8 231 yX8_longestLate cX8_longestLate 5 (some (.object "WatchServer$Subscription")) 1 := ⟨(inA4 7 rfl rfl), in_X8_longestLate, cd_X8_longestLate, pn_X8_longestLate⟩
theorem pn_X8_firstWithMore : yX8_firstWithMore.cls ≠ "java/lang/invoke/MethodHandle" ∧ yX8_firstWithMore.cls ≠ "java/lang/invoke/VarHandle" ∧ (parseMethodDescriptor yX8_firstWithMore.desc).map (fun d => d.parameters.length) = some 1 := by decide +kernel
theorem cd_X8_firstWithMore : Cond.code yX8_firstWithMore cX8_firstWithMore 4 (some (.object "WatchServer$Subscription")) ∈ wsA := (inA4 14 rfl rfl)
theorem in_X8_firstWithMore : Cond.initialized yX8_firstWithMore.cls ∈ wsA := (inA1 1 rfl rfl)
theorem iv_X8_firstWithMore : Cond.instanceMethod yX8_firstWithMore ∈ wsA ∧ Cond.selects yX8_firstWithMore.cls yX8_firstWithMore yX8_firstWithMore ∈ wsA := ⟨(inA4 13 rfl rfl), (inQ 24 rfl rfl)⟩
theorem mk_X8_235 : MK RX8 235 yX8_firstWithMore cX8_firstWithMore 4 (some (.object "WatchServer$Subscription")) 1 := ⟨(inA4 11 rfl rfl), in_X8_firstWithMore, cd_X8_firstWithMore, pn_X8_firstWithMore⟩
theorem pn_X8_send : yX8_send.cls ≠ "java/lang/invoke/MethodHandle" ∧ yX8_send.cls ≠ "java/lang/invoke/VarHandle" ∧ (parseMethodDescriptor yX8_send.desc).map (fun d => d.parameters.length) = some 1 := by decide +kernel
theorem cd_X8_send : Cond.code yX8_send cX8_send 4 none ∈ wsA := (inA2 100 rfl rfl)
theorem in_X8_send : Cond.initialized yX8_send.cls ∈ wsA := (inA1 1 rfl rfl)
theorem iv_X8_send : Cond.instanceMethod yX8_send ∈ wsA ∧ Cond.selects yX8_send.cls yX8_send yX8_send ∈ wsA := ⟨(inA2 99 rfl rfl), (inQ 11 rfl rfl)⟩
theorem mk_X8_238 : MK RX8 238 yX8_send cX8_send 4 none 1 := ⟨(inA2 97 rfl rfl), in_X8_send, cd_X8_send, pn_X8_send⟩
theorem pn_X7_keptOf : yX7_keptOf.cls ≠ "java/lang/invoke/MethodHandle" ∧ yX7_keptOf.cls ≠ "java/lang/invoke/VarHandle" ∧ (parseMethodDescriptor yX7_keptOf.desc).map (fun d => d.parameters.length) = some 1 := by decide +kernel
theorem cd_X7_keptOf : Cond.code yX7_keptOf cX7_keptOf 3 (some (.object "WatchServer$Message")) ∈ wsA := (inA4 26 rfl rfl)
theorem in_X7_keptOf : Cond.initialized yX7_keptOf.cls ∈ wsA := (inA1 17 rfl rfl)
theorem iv_X7_keptOf : Cond.instanceMethod yX7_keptOf ∈ wsA ∧ Cond.selects yX7_keptOf.cls yX7_keptOf yX7_keptOf ∈ wsA := ⟨(inA4 24 rfl rfl), (inA4 25 rfl rfl)⟩
theorem mk_X8_242 : MK RX8 242 yX7_keptOf cX7_keptOf 3 (some (.object "WatchServer$Message")) 1 := ⟨(inA4 23 rfl rfl), in_X7_keptOf, cd_X7_keptOf, pn_X7_keptOf⟩
theorem fk_X8_246 : FK RX8 246 7 2 true (.object "java/util/ArrayList") := ⟨RX6, TX6, 6, tyX6, "WatchServer$Session", ci_X6, by decide, (inA2 176 rfl rfl), Or.inl rfl, rfl, rfl⟩
theorem fk_X8_249 : FK RX8 249 3 0 true (.int) := ⟨RX2, TX2, 7, tyX2, "WatchServer$Message", ci_X2, by decide, (inA2 117 rfl rfl), Or.inl rfl, rfl, rfl⟩
theorem cl_X8_250 : Cond.classLink RX8 250 "WatchServer$Message" ∈ wsA := (inA2 102 rfl rfl)
theorem nk_X8_250 : NK RX8 250 3 7 [.int 0, .int 0, .int 0, .int 0, .null, .int 0, .int 0] := ⟨RX2, TX2, tyX2, ci_X2, cl_X8_250, (inA2 103 rfl rfl), (inA1 15 rfl rfl), fun j hj => match j, hj with | 0, _ => rfl | 1, _ => rfl | 2, _ => rfl | 3, _ => rfl | 4, _ => rfl | 5, _ => rfl | 6, _ => rfl | j + 7, h => absurd h (Nat.not_lt.mpr (Nat.le_add_left _ _)), nrf_of rfl⟩
theorem pn_X8_messageAt : yX8_messageAt.cls ≠ "java/lang/invoke/MethodHandle" ∧ yX8_messageAt.cls ≠ "java/lang/invoke/VarHandle" ∧ (parseMethodDescriptor yX8_messageAt.desc).map (fun d => d.parameters.length) = some 1 := by decide +kernel
theorem cd_X8_messageAt : Cond.code yX8_messageAt cX8_messageAt 2 (some (.object "WatchServer$Message")) ∈ wsA := (inA4 38 rfl rfl)
theorem in_X8_messageAt : Cond.initialized yX8_messageAt.cls ∈ wsA := (inA1 1 rfl rfl)
theorem iv_X8_messageAt : Cond.instanceMethod yX8_messageAt ∈ wsA ∧ Cond.selects yX8_messageAt.cls yX8_messageAt yX8_messageAt ∈ wsA := ⟨(inA4 37 rfl rfl), (inQ 25 rfl rfl)⟩
theorem mk_X8_254 : MK RX8 254 yX8_messageAt cX8_messageAt 2 (some (.object "WatchServer$Message")) 1 := ⟨(inA4 35 rfl rfl), in_X8_messageAt, cd_X8_messageAt, pn_X8_messageAt⟩
theorem fk_X8_257 : FK RX8 257 3 1 true (.int) := ⟨RX2, TX2, 7, tyX2, "WatchServer$Message", ci_X2, by decide, (inA2 119 rfl rfl), Or.inl rfl, rfl, rfl⟩
theorem fk_X8_260 : FK RX8 260 3 2 true (.int) := ⟨RX2, TX2, 7, tyX2, "WatchServer$Message", ci_X2, by decide, (inA2 122 rfl rfl), Or.inl rfl, rfl, rfl⟩
theorem fk_X8_261 : FK RX8 261 3 4 true (.array (.object "WatchServer$Entry")) := ⟨RX2, TX2, 7, tyX2, "WatchServer$Message", ci_X2, by decide, (inA2 126 rfl rfl), Or.inl rfl, rfl, rfl⟩
theorem fk_X8_264 : FK RX8 264 3 5 false (.boolean) := ⟨RX2, TX2, 7, tyX2, "WatchServer$Message", ci_X2, by decide, (inA2 128 rfl rfl), Or.inl rfl, rfl, rfl⟩
theorem fk_X8_267 : FK RX8 267 3 3 true (.int) := ⟨RX2, TX2, 7, tyX2, "WatchServer$Message", ci_X2, by decide, (inA2 124 rfl rfl), Or.inl rfl, rfl, rfl⟩
theorem fk_X8_268 : FK RX8 268 3 6 false (.boolean) := ⟨RX2, TX2, 7, tyX2, "WatchServer$Message", ci_X2, by decide, (inA2 131 rfl rfl), Or.inl rfl, rfl, rfl⟩
theorem kc_X8_271 : Cond.constantLong RX8 271 (-9 : Int64) ∈ wsA := (inA4 43 rfl rfl)
theorem fk_X8_273 : FK RX8 273 1 0 true (.long) := ⟨RX0, TX0, 4, tyX0, "WatchServer$Entry", ci_X0, by decide, (inA2 22 rfl rfl), Or.inl rfl, rfl, rfl⟩
theorem fk_X8_276 : FK RX8 276 1 1 true (.int) := ⟨RX0, TX0, 4, tyX0, "WatchServer$Entry", ci_X0, by decide, (inA2 24 rfl rfl), Or.inl rfl, rfl, rfl⟩
theorem fk_X8_279 : FK RX8 279 1 2 true (.int) := ⟨RX0, TX0, 4, tyX0, "WatchServer$Entry", ci_X0, by decide, (inA2 26 rfl rfl), Or.inl rfl, rfl, rfl⟩
theorem fk_X8_280 : FK RX8 280 1 3 false (.boolean) := ⟨RX0, TX0, 4, tyX0, "WatchServer$Entry", ci_X0, by decide, (inA2 29 rfl rfl), Or.inl rfl, rfl, rfl⟩
theorem fk_X8_283 : FK RX8 283 7 4 false (.int) := ⟨RX6, TX6, 6, tyX6, "WatchServer$Session", ci_X6, by decide, (inA2 180 rfl rfl), Or.inl rfl, rfl, rfl⟩
theorem fk_X8_285 : FK RX8 285 7 0 true (.int) := ⟨RX6, TX6, 6, tyX6, "WatchServer$Session", ci_X6, by decide, (inA2 173 rfl rfl), Or.inl rfl, rfl, rfl⟩
theorem fk_X8_286 : FK RX8 286 8 10 false (.int) := ⟨RX7, TX7, 18, tyX7, "WatchServer$Subscription", ci_X7, by decide, (inA3 43 rfl rfl), Or.inl rfl, rfl, rfl⟩
theorem fk_X8_289 : FK RX8 289 8 11 false (.int) := ⟨RX7, TX7, 18, tyX7, "WatchServer$Subscription", ci_X7, by decide, (inA3 45 rfl rfl), Or.inl rfl, rfl, rfl⟩
theorem fk_X8_292 : FK RX8 292 8 15 false (.boolean) := ⟨RX7, TX7, 18, tyX7, "WatchServer$Subscription", ci_X7, by decide, (inA3 53 rfl rfl), Or.inl rfl, rfl, rfl⟩
theorem fk_X8_295 : FK RX8 295 8 2 true (.object "java/util/ArrayList") := ⟨RX7, TX7, 18, tyX7, "WatchServer$Subscription", ci_X7, by decide, (inA3 28 rfl rfl), Or.inl rfl, rfl, rfl⟩
theorem mk_X8_297 : MK RX8 297 yX7_isReady cX7_isReady 1 (some .boolean) 0 := ⟨(inA2 101 rfl rfl), in_X7_isReady, cd_X7_isReady, pn_X7_isReady⟩
theorem pn_X8_itemAt : yX8_itemAt.cls ≠ "java/lang/invoke/MethodHandle" ∧ yX8_itemAt.cls ≠ "java/lang/invoke/VarHandle" ∧ (parseMethodDescriptor yX8_itemAt.desc).map (fun d => d.parameters.length) = some 1 := by decide +kernel
theorem cd_X8_itemAt : Cond.code yX8_itemAt cX8_itemAt 3 (some (.object "WatchServer$Item")) ∈ wsA := (inA3 222 rfl rfl)
theorem in_X8_itemAt : Cond.initialized yX8_itemAt.cls ∈ wsA := (inA1 1 rfl rfl)
theorem iv_X8_itemAt : Cond.instanceMethod yX8_itemAt ∈ wsA ∧ Cond.selects yX8_itemAt.cls yX8_itemAt yX8_itemAt ∈ wsA := ⟨(inA3 221 rfl rfl), (inQ 20 rfl rfl)⟩
theorem mk_X8_301 : MK RX8 301 yX8_itemAt cX8_itemAt 3 (some (.object "WatchServer$Item")) 1 := ⟨(inA3 219 rfl rfl), in_X8_itemAt, cd_X8_itemAt, pn_X8_itemAt⟩
theorem fk_X8_305 : FK RX8 305 2 2 true (.object "WatchServer$Node") := ⟨RX1, TX1, 11, tyX1, "WatchServer$Item", ci_X1, by decide, (inA3 165 rfl rfl), Or.inl rfl, rfl, rfl⟩
theorem fk_X8_309 : FK RX8 309 4 0 true (.int) := ⟨RX3, TX3, 3, tyX3, "WatchServer$Node", ci_X3, by decide, (inA1 111 rfl rfl), Or.inl rfl, rfl, rfl⟩
theorem pn_X4_firstHasBit : yX4_firstHasBit.cls ≠ "java/lang/invoke/MethodHandle" ∧ yX4_firstHasBit.cls ≠ "java/lang/invoke/VarHandle" ∧ (parseMethodDescriptor yX4_firstHasBit.desc).map (fun d => d.parameters.length) = some 0 := by decide +kernel
theorem cd_X4_firstHasBit : Cond.code yX4_firstHasBit cX4_firstHasBit 1 (some .boolean) ∈ wsA := (inA4 59 rfl rfl)
theorem in_X4_firstHasBit : Cond.initialized yX4_firstHasBit.cls ∈ wsA := (inA1 19 rfl rfl)
theorem iv_X4_firstHasBit : Cond.instanceMethod yX4_firstHasBit ∈ wsA ∧ Cond.selects yX4_firstHasBit.cls yX4_firstHasBit yX4_firstHasBit ∈ wsA := ⟨(inA4 57 rfl rfl), (inA4 58 rfl rfl)⟩
theorem mk_X8_310 : MK RX8 310 yX4_firstHasBit cX4_firstHasBit 1 (some .boolean) 0 := ⟨(inA4 56 rfl rfl), in_X4_firstHasBit, cd_X4_firstHasBit, pn_X4_firstHasBit⟩
theorem pn_X8_countOpenSessions : yX8_countOpenSessions.cls ≠ "java/lang/invoke/MethodHandle" ∧ yX8_countOpenSessions.cls ≠ "java/lang/invoke/VarHandle" ∧ (parseMethodDescriptor yX8_countOpenSessions.desc).map (fun d => d.parameters.length) = some 0 := by decide +kernel
theorem cd_X8_countOpenSessions : Cond.code yX8_countOpenSessions cX8_countOpenSessions 3 (some .int) ∈ wsA := (inA4 71 rfl rfl)
theorem in_X8_countOpenSessions : Cond.initialized yX8_countOpenSessions.cls ∈ wsA := (inA1 1 rfl rfl)
theorem iv_X8_countOpenSessions : Cond.instanceMethod yX8_countOpenSessions ∈ wsA ∧ Cond.selects yX8_countOpenSessions.cls yX8_countOpenSessions yX8_countOpenSessions ∈ wsA := ⟨(inA4 70 rfl rfl), (inQ 26 rfl rfl)⟩
theorem mk_X8_313 : MK RX8 313 yX8_countOpenSessions cX8_countOpenSessions 3 (some .int) 0 := ⟨(inA4 68 rfl rfl), in_X8_countOpenSessions, cd_X8_countOpenSessions, pn_X8_countOpenSessions⟩
theorem pn_X8_countItems : yX8_countItems.cls ≠ "java/lang/invoke/MethodHandle" ∧ yX8_countItems.cls ≠ "java/lang/invoke/VarHandle" ∧ (parseMethodDescriptor yX8_countItems.desc).map (fun d => d.parameters.length) = some 0 := by decide +kernel
theorem cd_X8_countItems : Cond.code yX8_countItems cX8_countItems 3 (some .int) ∈ wsA := (inA4 75 rfl rfl)
theorem in_X8_countItems : Cond.initialized yX8_countItems.cls ∈ wsA := (inA1 1 rfl rfl)
theorem iv_X8_countItems : Cond.instanceMethod yX8_countItems ∈ wsA ∧ Cond.selects yX8_countItems.cls yX8_countItems yX8_countItems ∈ wsA := ⟨(inA4 74 rfl rfl), (inQ 27 rfl rfl)⟩
theorem mk_X8_316 : MK RX8 316 yX8_countItems cX8_countItems 3 (some .int) 0 := ⟨(inA4 72 rfl rfl), in_X8_countItems, cd_X8_countItems, pn_X8_countItems⟩
theorem fk_X8_319 : FK RX8 319 8 17 false (.boolean) := ⟨RX7, TX7, 18, tyX7, "WatchServer$Subscription", ci_X7, by decide, (inA3 57 rfl rfl), Or.inl rfl, rfl, rfl⟩
theorem fk_X8_322 : FK RX8 322 2 10 false (.boolean) := ⟨RX1, TX1, 11, tyX1, "WatchServer$Item", ci_X1, by decide, (inA3 181 rfl rfl), Or.inl rfl, rfl, rfl⟩
theorem fk_X8_323 : FK RX8 323 2 3 true (.int) := ⟨RX1, TX1, 11, tyX1, "WatchServer$Item", ci_X1, by decide, (inA3 167 rfl rfl), Or.inl rfl, rfl, rfl⟩
theorem fk_X8_326 : FK RX8 326 2 4 true (.int) := ⟨RX1, TX1, 11, tyX1, "WatchServer$Item", ci_X1, by decide, (inA3 169 rfl rfl), Or.inl rfl, rfl, rfl⟩
theorem pn_X8_isMultiple : yX8_isMultiple.cls ≠ "java/lang/invoke/MethodHandle" ∧ yX8_isMultiple.cls ≠ "java/lang/invoke/VarHandle" ∧ (parseMethodDescriptor yX8_isMultiple.desc).map (fun d => d.parameters.length) = some 2 := by decide +kernel
theorem cd_X8_isMultiple : Cond.code yX8_isMultiple cX8_isMultiple 2 (some .boolean) ∈ wsA := (inA2 0 rfl rfl)
theorem in_X8_isMultiple : Cond.initialized yX8_isMultiple.cls ∈ wsA := (inA1 1 rfl rfl)
theorem st_X8_isMultiple : Cond.static yX8_isMultiple ∈ wsA := (inA1 239 rfl rfl)
theorem mk_X8_329 : MK RX8 329 yX8_isMultiple cX8_isMultiple 2 (some .boolean) 2 := ⟨(inA1 238 rfl rfl), in_X8_isMultiple, cd_X8_isMultiple, pn_X8_isMultiple⟩
theorem mk_X8_332 : MK RX8 332 yX1_sample cX1_sample 4 none 1 := ⟨(inA2 1 rfl rfl), in_X1_sample, cd_X1_sample, pn_X1_sample⟩
theorem fk_X8_335 : FK RX8 335 8 4 false (.int) := ⟨RX7, TX7, 18, tyX7, "WatchServer$Subscription", ci_X7, by decide, (inA3 32 rfl rfl), Or.inl rfl, rfl, rfl⟩
theorem fk_X8_336 : FK RX8 336 8 5 false (.int) := ⟨RX7, TX7, 18, tyX7, "WatchServer$Subscription", ci_X7, by decide, (inA3 34 rfl rfl), Or.inl rfl, rfl, rfl⟩
theorem pn_X7_wantsToSend : yX7_wantsToSend.cls ≠ "java/lang/invoke/MethodHandle" ∧ yX7_wantsToSend.cls ≠ "java/lang/invoke/VarHandle" ∧ (parseMethodDescriptor yX7_wantsToSend.desc).map (fun d => d.parameters.length) = some 0 := by decide +kernel
theorem cd_X7_wantsToSend : Cond.code yX7_wantsToSend cX7_wantsToSend 1 (some .boolean) ∈ wsA := (inA2 68 rfl rfl)
theorem in_X7_wantsToSend : Cond.initialized yX7_wantsToSend.cls ∈ wsA := (inA1 17 rfl rfl)
theorem iv_X7_wantsToSend : Cond.instanceMethod yX7_wantsToSend ∈ wsA ∧ Cond.selects yX7_wantsToSend.cls yX7_wantsToSend yX7_wantsToSend ∈ wsA := ⟨(inA2 66 rfl rfl), (inA2 67 rfl rfl)⟩
theorem mk_X8_339 : MK RX8 339 yX7_wantsToSend cX7_wantsToSend 1 (some .boolean) 0 := ⟨(inA2 65 rfl rfl), in_X7_wantsToSend, cd_X7_wantsToSend, pn_X7_wantsToSend⟩
theorem pn_X8_answerRequests : yX8_answerRequests.cls ≠ "java/lang/invoke/MethodHandle" ∧ yX8_answerRequests.cls ≠ "java/lang/invoke/VarHandle" ∧ (parseMethodDescriptor yX8_answerRequests.desc).map (fun d => d.parameters.length) = some 1 := by decide +kernel
theorem cd_X8_answerRequests : Cond.code yX8_answerRequests cX8_answerRequests 4 none ∈ wsA := (inA2 83 rfl rfl)
theorem in_X8_answerRequests : Cond.initialized yX8_answerRequests.cls ∈ wsA := (inA1 1 rfl rfl)
theorem iv_X8_answerRequests : Cond.instanceMethod yX8_answerRequests ∈ wsA ∧ Cond.selects yX8_answerRequests.cls yX8_answerRequests yX8_answerRequests ∈ wsA := ⟨(inA2 82 rfl rfl), (inQ 9 rfl rfl)⟩
theorem mk_X8_342 : MK RX8 342 yX8_answerRequests cX8_answerRequests 4 none 1 := ⟨(inA2 80 rfl rfl), in_X8_answerRequests, cd_X8_answerRequests, pn_X8_answerRequests⟩
theorem pn_X8_fallShort : yX8_fallShort.cls ≠ "java/lang/invoke/MethodHandle" ∧ yX8_fallShort.cls ≠ "java/lang/invoke/VarHandle" ∧ (parseMethodDescriptor yX8_fallShort.desc).map (fun d => d.parameters.length) = some 1 := by decide +kernel
theorem cd_X8_fallShort : Cond.code yX8_fallShort cX8_fallShort 2 none ∈ wsA := (inA2 87 rfl rfl)
theorem in_X8_fallShort : Cond.initialized yX8_fallShort.cls ∈ wsA := (inA1 1 rfl rfl)
theorem iv_X8_fallShort : Cond.instanceMethod yX8_fallShort ∈ wsA ∧ Cond.selects yX8_fallShort.cls yX8_fallShort yX8_fallShort ∈ wsA := ⟨(inA2 86 rfl rfl), (inQ 10 rfl rfl)⟩
theorem mk_X8_345 : MK RX8 345 yX8_fallShort cX8_fallShort 2 none 1 := ⟨(inA2 84 rfl rfl), in_X8_fallShort, cd_X8_fallShort, pn_X8_fallShort⟩
theorem fk_X8_348 : FK RX8 348 8 14 false (.boolean) := ⟨RX7, TX7, 18, tyX7, "WatchServer$Subscription", ci_X7, by decide, (inA3 51 rfl rfl), Or.inl rfl, rfl, rfl⟩
theorem fk_X8_349 : FK RX8 349 8 16 false (.int) := ⟨RX7, TX7, 18, tyX7, "WatchServer$Subscription", ci_X7, by decide, (inA3 55 rfl rfl), Or.inl rfl, rfl, rfl⟩
theorem pn_X7_takeEntries : yX7_takeEntries.cls ≠ "java/lang/invoke/MethodHandle" ∧ yX7_takeEntries.cls ≠ "java/lang/invoke/VarHandle" ∧ (parseMethodDescriptor yX7_takeEntries.desc).map (fun d => d.parameters.length) = some 0 := by decide +kernel
theorem cd_X7_takeEntries : Cond.code yX7_takeEntries cX7_takeEntries 9 (some (.array (.object "WatchServer$Entry"))) ∈ wsA := (inA2 107 rfl rfl)
theorem in_X7_takeEntries : Cond.initialized yX7_takeEntries.cls ∈ wsA := (inA1 17 rfl rfl)
theorem iv_X7_takeEntries : Cond.instanceMethod yX7_takeEntries ∈ wsA ∧ Cond.selects yX7_takeEntries.cls yX7_takeEntries yX7_takeEntries ∈ wsA := ⟨(inA2 105 rfl rfl), (inA2 106 rfl rfl)⟩
theorem mk_X8_352 : MK RX8 352 yX7_takeEntries cX7_takeEntries 9 (some (.array (.object "WatchServer$Entry"))) 0 := ⟨(inA2 104 rfl rfl), in_X7_takeEntries, cd_X7_takeEntries, pn_X7_takeEntries⟩
theorem pn_X2_init : yX2_init.cls ≠ "java/lang/invoke/MethodHandle" ∧ yX2_init.cls ≠ "java/lang/invoke/VarHandle" ∧ (parseMethodDescriptor yX2_init.desc).map (fun d => d.parameters.length) = some 5 := by decide +kernel
theorem cd_X2_init : Cond.code yX2_init cX2_init 6 none ∈ wsA := (inA2 114 rfl rfl)
theorem in_X2_init : Cond.initialized yX2_init.cls ∈ wsA := (inA1 15 rfl rfl)
theorem ii_X2_init : yX2_init.name = "<init>" ∧ Cond.instanceMethod yX2_init ∈ wsA := ⟨rfl, (inA2 113 rfl rfl)⟩
theorem mk_X8_356 : MK RX8 356 yX2_init cX2_init 6 none 5 := ⟨(inA2 112 rfl rfl), in_X2_init, cd_X2_init, pn_X2_init⟩
theorem pn_X7_keepMessage : yX7_keepMessage.cls ≠ "java/lang/invoke/MethodHandle" ∧ yX7_keepMessage.cls ≠ "java/lang/invoke/VarHandle" ∧ (parseMethodDescriptor yX7_keepMessage.desc).map (fun d => d.parameters.length) = some 1 := by decide +kernel
theorem cd_X7_keepMessage : Cond.code yX7_keepMessage cX7_keepMessage 2 none ∈ wsA := (inA2 150 rfl rfl)
theorem in_X7_keepMessage : Cond.initialized yX7_keepMessage.cls ∈ wsA := (inA1 17 rfl rfl)
theorem iv_X7_keepMessage : Cond.instanceMethod yX7_keepMessage ∈ wsA ∧ Cond.selects yX7_keepMessage.cls yX7_keepMessage yX7_keepMessage ∈ wsA := ⟨(inA2 148 rfl rfl), (inA2 149 rfl rfl)⟩
theorem mk_X8_359 : MK RX8 359 yX7_keepMessage cX7_keepMessage 2 none 1 := ⟨(inA2 147 rfl rfl), in_X7_keepMessage, cd_X7_keepMessage, pn_X7_keepMessage⟩
theorem fk_X8_363 : FK RX8 363 8 13 false (.boolean) := ⟨RX7, TX7, 18, tyX7, "WatchServer$Subscription", ci_X7, by decide, (inA3 49 rfl rfl), Or.inl rfl, rfl, rfl⟩
theorem fk_X8_366 : FK RX8 366 8 6 false (.int) := ⟨RX7, TX7, 18, tyX7, "WatchServer$Subscription", ci_X7, by decide, (inA3 36 rfl rfl), Or.inl rfl, rfl, rfl⟩
theorem pn_X7_forget : yX7_forget.cls ≠ "java/lang/invoke/MethodHandle" ∧ yX7_forget.cls ≠ "java/lang/invoke/VarHandle" ∧ (parseMethodDescriptor yX7_forget.desc).map (fun d => d.parameters.length) = some 1 := by decide +kernel
theorem cd_X7_forget : Cond.code yX7_forget cX7_forget 3 (some .boolean) ∈ wsA := (inA4 6 rfl rfl)
theorem in_X7_forget : Cond.initialized yX7_forget.cls ∈ wsA := (inA1 17 rfl rfl)
theorem iv_X7_forget : Cond.instanceMethod yX7_forget ∈ wsA ∧ Cond.selects yX7_forget.cls yX7_forget yX7_forget ∈ wsA := ⟨(inA4 4 rfl rfl), (inA4 5 rfl rfl)⟩
theorem mk_X8_369 : MK RX8 369 yX7_forget cX7_forget 3 (some .boolean) 1 := ⟨(inA4 3 rfl rfl), in_X7_forget, cd_X7_forget, pn_X7_forget⟩
theorem ol_X9_1 : Cond.methodLink RX9 1 Lib.objectInit ∈ wsA := (inA4 81 rfl rfl)
theorem fk_X9_7 : FK RX9 7 10 2 true (.array .int) := ⟨RX9, TX9, 62, tyX9, "WatchServerModel", ci_X9, by decide, (inA4 85 rfl rfl), Or.inl rfl, rfl, rfl⟩
theorem fp_X9_7 : FP RX9 7 10 2 (.array .int) := ⟨RX9, TX9, 62, tyX9, "WatchServerModel", ci_X9, by decide, (inA4 85 rfl rfl), Or.inl rfl, rfl, rfl, rfl⟩
theorem fk_X9_13 : FK RX9 13 10 3 true (.array .long) := ⟨RX9, TX9, 62, tyX9, "WatchServerModel", ci_X9, by decide, (inA4 86 rfl rfl), Or.inl rfl, rfl, rfl⟩
theorem fp_X9_13 : FP RX9 13 10 3 (.array .long) := ⟨RX9, TX9, 62, tyX9, "WatchServerModel", ci_X9, by decide, (inA4 86 rfl rfl), Or.inl rfl, rfl, rfl, rfl⟩
theorem fk_X9_17 : FK RX9 17 10 5 true (.array .int) := ⟨RX9, TX9, 62, tyX9, "WatchServerModel", ci_X9, by decide, (inA4 88 rfl rfl), Or.inl rfl, rfl, rfl⟩
theorem fp_X9_17 : FP RX9 17 10 5 (.array .int) := ⟨RX9, TX9, 62, tyX9, "WatchServerModel", ci_X9, by decide, (inA4 88 rfl rfl), Or.inl rfl, rfl, rfl, rfl⟩
theorem fk_X9_20 : FK RX9 20 10 6 true (.array .int) := ⟨RX9, TX9, 62, tyX9, "WatchServerModel", ci_X9, by decide, (inA4 89 rfl rfl), Or.inl rfl, rfl, rfl⟩
theorem fp_X9_20 : FP RX9 20 10 6 (.array .int) := ⟨RX9, TX9, 62, tyX9, "WatchServerModel", ci_X9, by decide, (inA4 89 rfl rfl), Or.inl rfl, rfl, rfl, rfl⟩
theorem fk_X9_23 : FK RX9 23 10 7 true (.array .int) := ⟨RX9, TX9, 62, tyX9, "WatchServerModel", ci_X9, by decide, (inA4 90 rfl rfl), Or.inl rfl, rfl, rfl⟩
theorem fp_X9_23 : FP RX9 23 10 7 (.array .int) := ⟨RX9, TX9, 62, tyX9, "WatchServerModel", ci_X9, by decide, (inA4 90 rfl rfl), Or.inl rfl, rfl, rfl, rfl⟩
theorem fk_X9_26 : FK RX9 26 10 9 true (.array .int) := ⟨RX9, TX9, 62, tyX9, "WatchServerModel", ci_X9, by decide, (inA4 92 rfl rfl), Or.inl rfl, rfl, rfl⟩
theorem fp_X9_26 : FP RX9 26 10 9 (.array .int) := ⟨RX9, TX9, 62, tyX9, "WatchServerModel", ci_X9, by decide, (inA4 92 rfl rfl), Or.inl rfl, rfl, rfl, rfl⟩
theorem fk_X9_29 : FK RX9 29 10 10 true (.array .int) := ⟨RX9, TX9, 62, tyX9, "WatchServerModel", ci_X9, by decide, (inA4 93 rfl rfl), Or.inl rfl, rfl, rfl⟩
theorem fp_X9_29 : FP RX9 29 10 10 (.array .int) := ⟨RX9, TX9, 62, tyX9, "WatchServerModel", ci_X9, by decide, (inA4 93 rfl rfl), Or.inl rfl, rfl, rfl, rfl⟩
theorem fk_X9_32 : FK RX9 32 10 11 true (.array .int) := ⟨RX9, TX9, 62, tyX9, "WatchServerModel", ci_X9, by decide, (inA4 94 rfl rfl), Or.inl rfl, rfl, rfl⟩
theorem fp_X9_32 : FP RX9 32 10 11 (.array .int) := ⟨RX9, TX9, 62, tyX9, "WatchServerModel", ci_X9, by decide, (inA4 94 rfl rfl), Or.inl rfl, rfl, rfl, rfl⟩
theorem fk_X9_35 : FK RX9 35 10 12 true (.array .int) := ⟨RX9, TX9, 62, tyX9, "WatchServerModel", ci_X9, by decide, (inA4 95 rfl rfl), Or.inl rfl, rfl, rfl⟩
theorem fp_X9_35 : FP RX9 35 10 12 (.array .int) := ⟨RX9, TX9, 62, tyX9, "WatchServerModel", ci_X9, by decide, (inA4 95 rfl rfl), Or.inl rfl, rfl, rfl, rfl⟩
theorem fk_X9_38 : FK RX9 38 10 13 true (.array .int) := ⟨RX9, TX9, 62, tyX9, "WatchServerModel", ci_X9, by decide, (inA4 96 rfl rfl), Or.inl rfl, rfl, rfl⟩
theorem fp_X9_38 : FP RX9 38 10 13 (.array .int) := ⟨RX9, TX9, 62, tyX9, "WatchServerModel", ci_X9, by decide, (inA4 96 rfl rfl), Or.inl rfl, rfl, rfl, rfl⟩
theorem fk_X9_41 : FK RX9 41 10 14 true (.array .int) := ⟨RX9, TX9, 62, tyX9, "WatchServerModel", ci_X9, by decide, (inA4 97 rfl rfl), Or.inl rfl, rfl, rfl⟩
theorem fp_X9_41 : FP RX9 41 10 14 (.array .int) := ⟨RX9, TX9, 62, tyX9, "WatchServerModel", ci_X9, by decide, (inA4 97 rfl rfl), Or.inl rfl, rfl, rfl, rfl⟩
theorem fk_X9_44 : FK RX9 44 10 16 true (.array .boolean) := ⟨RX9, TX9, 62, tyX9, "WatchServerModel", ci_X9, by decide, (inA4 99 rfl rfl), Or.inl rfl, rfl, rfl⟩
theorem fp_X9_44 : FP RX9 44 10 16 (.array .boolean) := ⟨RX9, TX9, 62, tyX9, "WatchServerModel", ci_X9, by decide, (inA4 99 rfl rfl), Or.inl rfl, rfl, rfl, rfl⟩
theorem fk_X9_48 : FK RX9 48 10 17 true (.array .int) := ⟨RX9, TX9, 62, tyX9, "WatchServerModel", ci_X9, by decide, (inA4 100 rfl rfl), Or.inl rfl, rfl, rfl⟩
theorem fp_X9_48 : FP RX9 48 10 17 (.array .int) := ⟨RX9, TX9, 62, tyX9, "WatchServerModel", ci_X9, by decide, (inA4 100 rfl rfl), Or.inl rfl, rfl, rfl, rfl⟩
theorem fk_X9_51 : FK RX9 51 10 18 true (.array .int) := ⟨RX9, TX9, 62, tyX9, "WatchServerModel", ci_X9, by decide, (inA4 101 rfl rfl), Or.inl rfl, rfl, rfl⟩
theorem fp_X9_51 : FP RX9 51 10 18 (.array .int) := ⟨RX9, TX9, 62, tyX9, "WatchServerModel", ci_X9, by decide, (inA4 101 rfl rfl), Or.inl rfl, rfl, rfl, rfl⟩
theorem fk_X9_54 : FK RX9 54 10 19 true (.array .int) := ⟨RX9, TX9, 62, tyX9, "WatchServerModel", ci_X9, by decide, (inA4 102 rfl rfl), Or.inl rfl, rfl, rfl⟩
theorem fp_X9_54 : FP RX9 54 10 19 (.array .int) := ⟨RX9, TX9, 62, tyX9, "WatchServerModel", ci_X9, by decide, (inA4 102 rfl rfl), Or.inl rfl, rfl, rfl, rfl⟩
theorem fk_X9_57 : FK RX9 57 10 20 true (.array .int) := ⟨RX9, TX9, 62, tyX9, "WatchServerModel", ci_X9, by decide, (inA4 103 rfl rfl), Or.inl rfl, rfl, rfl⟩
theorem fp_X9_57 : FP RX9 57 10 20 (.array .int) := ⟨RX9, TX9, 62, tyX9, "WatchServerModel", ci_X9, by decide, (inA4 103 rfl rfl), Or.inl rfl, rfl, rfl, rfl⟩
theorem fk_X9_60 : FK RX9 60 10 21 true (.array .int) := ⟨RX9, TX9, 62, tyX9, "WatchServerModel", ci_X9, by decide, (inA4 104 rfl rfl), Or.inl rfl, rfl, rfl⟩
theorem fp_X9_60 : FP RX9 60 10 21 (.array .int) := ⟨RX9, TX9, 62, tyX9, "WatchServerModel", ci_X9, by decide, (inA4 104 rfl rfl), Or.inl rfl, rfl, rfl, rfl⟩
theorem fk_X9_63 : FK RX9 63 10 22 true (.array .int) := ⟨RX9, TX9, 62, tyX9, "WatchServerModel", ci_X9, by decide, (inA4 105 rfl rfl), Or.inl rfl, rfl, rfl⟩
theorem fp_X9_63 : FP RX9 63 10 22 (.array .int) := ⟨RX9, TX9, 62, tyX9, "WatchServerModel", ci_X9, by decide, (inA4 105 rfl rfl), Or.inl rfl, rfl, rfl, rfl⟩
theorem fk_X9_66 : FK RX9 66 10 23 true (.array .boolean) := ⟨RX9, TX9, 62, tyX9, "WatchServerModel", ci_X9, by decide, (inA4 106 rfl rfl), Or.inl rfl, rfl, rfl⟩
theorem fp_X9_66 : FP RX9 66 10 23 (.array .boolean) := ⟨RX9, TX9, 62, tyX9, "WatchServerModel", ci_X9, by decide, (inA4 106 rfl rfl), Or.inl rfl, rfl, rfl, rfl⟩
theorem fk_X9_69 : FK RX9 69 10 24 true (.array .int) := ⟨RX9, TX9, 62, tyX9, "WatchServerModel", ci_X9, by decide, (inA4 107 rfl rfl), Or.inl rfl, rfl, rfl⟩
theorem fp_X9_69 : FP RX9 69 10 24 (.array .int) := ⟨RX9, TX9, 62, tyX9, "WatchServerModel", ci_X9, by decide, (inA4 107 rfl rfl), Or.inl rfl, rfl, rfl, rfl⟩
theorem fk_X9_72 : FK RX9 72 10 25 true (.array .int) := ⟨RX9, TX9, 62, tyX9, "WatchServerModel", ci_X9, by decide, (inA4 108 rfl rfl), Or.inl rfl, rfl, rfl⟩
theorem fp_X9_72 : FP RX9 72 10 25 (.array .int) := ⟨RX9, TX9, 62, tyX9, "WatchServerModel", ci_X9, by decide, (inA4 108 rfl rfl), Or.inl rfl, rfl, rfl, rfl⟩
theorem fk_X9_75 : FK RX9 75 10 26 true (.array .int) := ⟨RX9, TX9, 62, tyX9, "WatchServerModel", ci_X9, by decide, (inA4 109 rfl rfl), Or.inl rfl, rfl, rfl⟩
theorem fp_X9_75 : FP RX9 75 10 26 (.array .int) := ⟨RX9, TX9, 62, tyX9, "WatchServerModel", ci_X9, by decide, (inA4 109 rfl rfl), Or.inl rfl, rfl, rfl, rfl⟩
theorem fk_X9_78 : FK RX9 78 10 27 true (.array .boolean) := ⟨RX9, TX9, 62, tyX9, "WatchServerModel", ci_X9, by decide, (inA4 110 rfl rfl), Or.inl rfl, rfl, rfl⟩
theorem fp_X9_78 : FP RX9 78 10 27 (.array .boolean) := ⟨RX9, TX9, 62, tyX9, "WatchServerModel", ci_X9, by decide, (inA4 110 rfl rfl), Or.inl rfl, rfl, rfl, rfl⟩
theorem fk_X9_81 : FK RX9 81 10 28 true (.array .boolean) := ⟨RX9, TX9, 62, tyX9, "WatchServerModel", ci_X9, by decide, (inA4 111 rfl rfl), Or.inl rfl, rfl, rfl⟩
theorem fp_X9_81 : FP RX9 81 10 28 (.array .boolean) := ⟨RX9, TX9, 62, tyX9, "WatchServerModel", ci_X9, by decide, (inA4 111 rfl rfl), Or.inl rfl, rfl, rfl, rfl⟩
theorem fk_X9_84 : FK RX9 84 10 29 true (.array .int) := ⟨RX9, TX9, 62, tyX9, "WatchServerModel", ci_X9, by decide, (inA4 112 rfl rfl), Or.inl rfl, rfl, rfl⟩
theorem fp_X9_84 : FP RX9 84 10 29 (.array .int) := ⟨RX9, TX9, 62, tyX9, "WatchServerModel", ci_X9, by decide, (inA4 112 rfl rfl), Or.inl rfl, rfl, rfl, rfl⟩
theorem fk_X9_87 : FK RX9 87 10 31 true (.array .boolean) := ⟨RX9, TX9, 62, tyX9, "WatchServerModel", ci_X9, by decide, (inA4 114 rfl rfl), Or.inl rfl, rfl, rfl⟩
theorem fp_X9_87 : FP RX9 87 10 31 (.array .boolean) := ⟨RX9, TX9, 62, tyX9, "WatchServerModel", ci_X9, by decide, (inA4 114 rfl rfl), Or.inl rfl, rfl, rfl, rfl⟩
theorem fk_X9_90 : FK RX9 90 10 33 true (.array .boolean) := ⟨RX9, TX9, 62, tyX9, "WatchServerModel", ci_X9, by decide, (inA4 116 rfl rfl), Or.inl rfl, rfl, rfl⟩
theorem fp_X9_90 : FP RX9 90 10 33 (.array .boolean) := ⟨RX9, TX9, 62, tyX9, "WatchServerModel", ci_X9, by decide, (inA4 116 rfl rfl), Or.inl rfl, rfl, rfl, rfl⟩
theorem fk_X9_93 : FK RX9 93 10 34 true (.array .int) := ⟨RX9, TX9, 62, tyX9, "WatchServerModel", ci_X9, by decide, (inA4 117 rfl rfl), Or.inl rfl, rfl, rfl⟩
theorem fp_X9_93 : FP RX9 93 10 34 (.array .int) := ⟨RX9, TX9, 62, tyX9, "WatchServerModel", ci_X9, by decide, (inA4 117 rfl rfl), Or.inl rfl, rfl, rfl, rfl⟩
theorem fk_X9_96 : FK RX9 96 10 35 true (.array .int) := ⟨RX9, TX9, 62, tyX9, "WatchServerModel", ci_X9, by decide, (inA4 118 rfl rfl), Or.inl rfl, rfl, rfl⟩
theorem fp_X9_96 : FP RX9 96 10 35 (.array .int) := ⟨RX9, TX9, 62, tyX9, "WatchServerModel", ci_X9, by decide, (inA4 118 rfl rfl), Or.inl rfl, rfl, rfl, rfl⟩
theorem fk_X9_99 : FK RX9 99 10 36 true (.array .int) := ⟨RX9, TX9, 62, tyX9, "WatchServerModel", ci_X9, by decide, (inA4 119 rfl rfl), Or.inl rfl, rfl, rfl⟩
theorem fp_X9_99 : FP RX9 99 10 36 (.array .int) := ⟨RX9, TX9, 62, tyX9, "WatchServerModel", ci_X9, by decide, (inA4 119 rfl rfl), Or.inl rfl, rfl, rfl, rfl⟩
theorem fk_X9_102 : FK RX9 102 10 37 true (.array .int) := ⟨RX9, TX9, 62, tyX9, "WatchServerModel", ci_X9, by decide, (inA4 120 rfl rfl), Or.inl rfl, rfl, rfl⟩
theorem fp_X9_102 : FP RX9 102 10 37 (.array .int) := ⟨RX9, TX9, 62, tyX9, "WatchServerModel", ci_X9, by decide, (inA4 120 rfl rfl), Or.inl rfl, rfl, rfl, rfl⟩
theorem fk_X9_105 : FK RX9 105 10 38 true (.array .int) := ⟨RX9, TX9, 62, tyX9, "WatchServerModel", ci_X9, by decide, (inA4 121 rfl rfl), Or.inl rfl, rfl, rfl⟩
theorem fp_X9_105 : FP RX9 105 10 38 (.array .int) := ⟨RX9, TX9, 62, tyX9, "WatchServerModel", ci_X9, by decide, (inA4 121 rfl rfl), Or.inl rfl, rfl, rfl, rfl⟩
theorem fk_X9_108 : FK RX9 108 10 39 true (.array .boolean) := ⟨RX9, TX9, 62, tyX9, "WatchServerModel", ci_X9, by decide, (inA4 122 rfl rfl), Or.inl rfl, rfl, rfl⟩
theorem fp_X9_108 : FP RX9 108 10 39 (.array .boolean) := ⟨RX9, TX9, 62, tyX9, "WatchServerModel", ci_X9, by decide, (inA4 122 rfl rfl), Or.inl rfl, rfl, rfl, rfl⟩
theorem fk_X9_111 : FK RX9 111 10 40 true (.array .int) := ⟨RX9, TX9, 62, tyX9, "WatchServerModel", ci_X9, by decide, (inA4 123 rfl rfl), Or.inl rfl, rfl, rfl⟩
theorem fp_X9_111 : FP RX9 111 10 40 (.array .int) := ⟨RX9, TX9, 62, tyX9, "WatchServerModel", ci_X9, by decide, (inA4 123 rfl rfl), Or.inl rfl, rfl, rfl, rfl⟩
theorem fk_X9_114 : FK RX9 114 10 41 true (.array .long) := ⟨RX9, TX9, 62, tyX9, "WatchServerModel", ci_X9, by decide, (inA4 124 rfl rfl), Or.inl rfl, rfl, rfl⟩
theorem fp_X9_114 : FP RX9 114 10 41 (.array .long) := ⟨RX9, TX9, 62, tyX9, "WatchServerModel", ci_X9, by decide, (inA4 124 rfl rfl), Or.inl rfl, rfl, rfl, rfl⟩
theorem fk_X9_117 : FK RX9 117 10 42 true (.array .boolean) := ⟨RX9, TX9, 62, tyX9, "WatchServerModel", ci_X9, by decide, (inA4 125 rfl rfl), Or.inl rfl, rfl, rfl⟩
theorem fp_X9_117 : FP RX9 117 10 42 (.array .boolean) := ⟨RX9, TX9, 62, tyX9, "WatchServerModel", ci_X9, by decide, (inA4 125 rfl rfl), Or.inl rfl, rfl, rfl, rfl⟩
theorem fk_X9_120 : FK RX9 120 10 43 true (.array .long) := ⟨RX9, TX9, 62, tyX9, "WatchServerModel", ci_X9, by decide, (inA4 126 rfl rfl), Or.inl rfl, rfl, rfl⟩
theorem fp_X9_120 : FP RX9 120 10 43 (.array .long) := ⟨RX9, TX9, 62, tyX9, "WatchServerModel", ci_X9, by decide, (inA4 126 rfl rfl), Or.inl rfl, rfl, rfl, rfl⟩
theorem fk_X9_123 : FK RX9 123 10 44 true (.array .int) := ⟨RX9, TX9, 62, tyX9, "WatchServerModel", ci_X9, by decide, (inA4 127 rfl rfl), Or.inl rfl, rfl, rfl⟩
theorem fp_X9_123 : FP RX9 123 10 44 (.array .int) := ⟨RX9, TX9, 62, tyX9, "WatchServerModel", ci_X9, by decide, (inA4 127 rfl rfl), Or.inl rfl, rfl, rfl, rfl⟩
theorem fk_X9_126 : FK RX9 126 10 45 true (.array .long) := ⟨RX9, TX9, 62, tyX9, "WatchServerModel", ci_X9, by decide, (inA4 128 rfl rfl), Or.inl rfl, rfl, rfl⟩
theorem fp_X9_126 : FP RX9 126 10 45 (.array .long) := ⟨RX9, TX9, 62, tyX9, "WatchServerModel", ci_X9, by decide, (inA4 128 rfl rfl), Or.inl rfl, rfl, rfl, rfl⟩
theorem fk_X9_129 : FK RX9 129 10 46 true (.array .int) := ⟨RX9, TX9, 62, tyX9, "WatchServerModel", ci_X9, by decide, (inA4 129 rfl rfl), Or.inl rfl, rfl, rfl⟩
theorem fp_X9_129 : FP RX9 129 10 46 (.array .int) := ⟨RX9, TX9, 62, tyX9, "WatchServerModel", ci_X9, by decide, (inA4 129 rfl rfl), Or.inl rfl, rfl, rfl, rfl⟩
theorem fk_X9_132 : FK RX9 132 10 47 true (.array .int) := ⟨RX9, TX9, 62, tyX9, "WatchServerModel", ci_X9, by decide, (inA4 130 rfl rfl), Or.inl rfl, rfl, rfl⟩
theorem fp_X9_132 : FP RX9 132 10 47 (.array .int) := ⟨RX9, TX9, 62, tyX9, "WatchServerModel", ci_X9, by decide, (inA4 130 rfl rfl), Or.inl rfl, rfl, rfl, rfl⟩
theorem fk_X9_135 : FK RX9 135 10 49 true (.array .int) := ⟨RX9, TX9, 62, tyX9, "WatchServerModel", ci_X9, by decide, (inA4 132 rfl rfl), Or.inl rfl, rfl, rfl⟩
theorem fp_X9_135 : FP RX9 135 10 49 (.array .int) := ⟨RX9, TX9, 62, tyX9, "WatchServerModel", ci_X9, by decide, (inA4 132 rfl rfl), Or.inl rfl, rfl, rfl, rfl⟩
theorem fk_X9_138 : FK RX9 138 10 50 true (.array .int) := ⟨RX9, TX9, 62, tyX9, "WatchServerModel", ci_X9, by decide, (inA4 133 rfl rfl), Or.inl rfl, rfl, rfl⟩
theorem fp_X9_138 : FP RX9 138 10 50 (.array .int) := ⟨RX9, TX9, 62, tyX9, "WatchServerModel", ci_X9, by decide, (inA4 133 rfl rfl), Or.inl rfl, rfl, rfl, rfl⟩
theorem fk_X9_141 : FK RX9 141 10 51 true (.array .int) := ⟨RX9, TX9, 62, tyX9, "WatchServerModel", ci_X9, by decide, (inA4 134 rfl rfl), Or.inl rfl, rfl, rfl⟩
theorem fp_X9_141 : FP RX9 141 10 51 (.array .int) := ⟨RX9, TX9, 62, tyX9, "WatchServerModel", ci_X9, by decide, (inA4 134 rfl rfl), Or.inl rfl, rfl, rfl, rfl⟩
theorem fk_X9_144 : FK RX9 144 10 52 true (.array .boolean) := ⟨RX9, TX9, 62, tyX9, "WatchServerModel", ci_X9, by decide, (inA4 135 rfl rfl), Or.inl rfl, rfl, rfl⟩
theorem fp_X9_144 : FP RX9 144 10 52 (.array .boolean) := ⟨RX9, TX9, 62, tyX9, "WatchServerModel", ci_X9, by decide, (inA4 135 rfl rfl), Or.inl rfl, rfl, rfl, rfl⟩
theorem fk_X9_147 : FK RX9 147 10 53 true (.array .int) := ⟨RX9, TX9, 62, tyX9, "WatchServerModel", ci_X9, by decide, (inA4 136 rfl rfl), Or.inl rfl, rfl, rfl⟩
theorem fp_X9_147 : FP RX9 147 10 53 (.array .int) := ⟨RX9, TX9, 62, tyX9, "WatchServerModel", ci_X9, by decide, (inA4 136 rfl rfl), Or.inl rfl, rfl, rfl, rfl⟩
theorem fk_X9_150 : FK RX9 150 10 54 true (.array .boolean) := ⟨RX9, TX9, 62, tyX9, "WatchServerModel", ci_X9, by decide, (inA4 137 rfl rfl), Or.inl rfl, rfl, rfl⟩
theorem fp_X9_150 : FP RX9 150 10 54 (.array .boolean) := ⟨RX9, TX9, 62, tyX9, "WatchServerModel", ci_X9, by decide, (inA4 137 rfl rfl), Or.inl rfl, rfl, rfl, rfl⟩
theorem kc_X9_153 : Cond.constant RX9 153 (36000 : Int32) ∈ wsA := (inA4 82 rfl rfl)
theorem fk_X9_154 : FK RX9 154 10 55 true (.array .long) := ⟨RX9, TX9, 62, tyX9, "WatchServerModel", ci_X9, by decide, (inA4 138 rfl rfl), Or.inl rfl, rfl, rfl⟩
theorem fp_X9_154 : FP RX9 154 10 55 (.array .long) := ⟨RX9, TX9, 62, tyX9, "WatchServerModel", ci_X9, by decide, (inA4 138 rfl rfl), Or.inl rfl, rfl, rfl, rfl⟩
theorem fk_X9_157 : FK RX9 157 10 56 true (.array .int) := ⟨RX9, TX9, 62, tyX9, "WatchServerModel", ci_X9, by decide, (inA4 139 rfl rfl), Or.inl rfl, rfl, rfl⟩
theorem fp_X9_157 : FP RX9 157 10 56 (.array .int) := ⟨RX9, TX9, 62, tyX9, "WatchServerModel", ci_X9, by decide, (inA4 139 rfl rfl), Or.inl rfl, rfl, rfl, rfl⟩
theorem fk_X9_160 : FK RX9 160 10 57 true (.array .int) := ⟨RX9, TX9, 62, tyX9, "WatchServerModel", ci_X9, by decide, (inA4 140 rfl rfl), Or.inl rfl, rfl, rfl⟩
theorem fp_X9_160 : FP RX9 160 10 57 (.array .int) := ⟨RX9, TX9, 62, tyX9, "WatchServerModel", ci_X9, by decide, (inA4 140 rfl rfl), Or.inl rfl, rfl, rfl, rfl⟩
theorem fk_X9_163 : FK RX9 163 10 58 true (.array .int) := ⟨RX9, TX9, 62, tyX9, "WatchServerModel", ci_X9, by decide, (inA4 141 rfl rfl), Or.inl rfl, rfl, rfl⟩
theorem fp_X9_163 : FP RX9 163 10 58 (.array .int) := ⟨RX9, TX9, 62, tyX9, "WatchServerModel", ci_X9, by decide, (inA4 141 rfl rfl), Or.inl rfl, rfl, rfl, rfl⟩
theorem fk_X9_166 : FK RX9 166 10 61 true (.array .int) := ⟨RX9, TX9, 62, tyX9, "WatchServerModel", ci_X9, by decide, (inA4 144 rfl rfl), Or.inl rfl, rfl, rfl⟩
theorem fp_X9_166 : FP RX9 166 10 61 (.array .int) := ⟨RX9, TX9, 62, tyX9, "WatchServerModel", ci_X9, by decide, (inA4 144 rfl rfl), Or.inl rfl, rfl, rfl, rfl⟩
theorem kc_X9_169 : Cond.constantLong RX9 169 (2 : Int64) ∈ wsA := (inA5 36 rfl rfl)
theorem pn_X9_in : yX9_in.cls ≠ "java/lang/invoke/MethodHandle" ∧ yX9_in.cls ≠ "java/lang/invoke/VarHandle" ∧ (parseMethodDescriptor yX9_in.desc).map (fun d => d.parameters.length) = some 3 := by decide +kernel
theorem cd_X9_in : Cond.code yX9_in cX9_in 6 (some .boolean) ∈ wsA := (inA5 39 rfl rfl)
theorem in_X9_in : Cond.initialized yX9_in.cls ∈ wsA := (inA1 5 rfl rfl)
theorem st_X9_in : Cond.static yX9_in ∈ wsA := (inA5 38 rfl rfl)
theorem mk_X9_171 : MK RX9 171 yX9_in cX9_in 6 (some .boolean) 3 := ⟨(inA5 37 rfl rfl), in_X9_in, cd_X9_in, pn_X9_in⟩
theorem pn_X9_refuse : yX9_refuse.cls ≠ "java/lang/invoke/MethodHandle" ∧ yX9_refuse.cls ≠ "java/lang/invoke/VarHandle" ∧ (parseMethodDescriptor yX9_refuse.desc).map (fun d => d.parameters.length) = some 1 := by decide +kernel
theorem cd_X9_refuse : Cond.code yX9_refuse cX9_refuse 2 (some .int) ∈ wsA := (inA5 43 rfl rfl)
theorem in_X9_refuse : Cond.initialized yX9_refuse.cls ∈ wsA := (inA1 5 rfl rfl)
theorem iv_X9_refuse : Cond.instanceMethod yX9_refuse ∈ wsA ∧ Cond.selects yX9_refuse.cls yX9_refuse yX9_refuse ∈ wsA := ⟨(inA5 42 rfl rfl), (inQ 28 rfl rfl)⟩
theorem mk_X9_175 : MK RX9 175 yX9_refuse cX9_refuse 2 (some .int) 1 := ⟨(inA5 40 rfl rfl), in_X9_refuse, cd_X9_refuse, pn_X9_refuse⟩
theorem fk_X9_179 : FK RX9 179 10 1 false (.int) := ⟨RX9, TX9, 62, tyX9, "WatchServerModel", ci_X9, by decide, (inA4 84 rfl rfl), Or.inl rfl, rfl, rfl⟩
theorem pn_X9_isNode : yX9_isNode.cls ≠ "java/lang/invoke/MethodHandle" ∧ yX9_isNode.cls ≠ "java/lang/invoke/VarHandle" ∧ (parseMethodDescriptor yX9_isNode.desc).map (fun d => d.parameters.length) = some 1 := by decide +kernel
theorem cd_X9_isNode : Cond.code yX9_isNode cX9_isNode 2 (some .boolean) ∈ wsA := (inA5 51 rfl rfl)
theorem in_X9_isNode : Cond.initialized yX9_isNode.cls ∈ wsA := (inA1 5 rfl rfl)
theorem iv_X9_isNode : Cond.instanceMethod yX9_isNode ∈ wsA ∧ Cond.selects yX9_isNode.cls yX9_isNode yX9_isNode ∈ wsA := ⟨(inA5 50 rfl rfl), (inQ 29 rfl rfl)⟩
theorem mk_X9_183 : MK RX9 183 yX9_isNode cX9_isNode 2 (some .boolean) 1 := ⟨(inA5 48 rfl rfl), in_X9_isNode, cd_X9_isNode, pn_X9_isNode⟩
theorem kc_X9_187 : Cond.constantLong RX9 187 (7 : Int64) ∈ wsA := (inA5 52 rfl rfl)
theorem fk_X9_189 : FK RX9 189 10 4 false (.int) := ⟨RX9, TX9, 62, tyX9, "WatchServerModel", ci_X9, by decide, (inA4 87 rfl rfl), Or.inl rfl, rfl, rfl⟩
theorem pn_X9_isVariable : yX9_isVariable.cls ≠ "java/lang/invoke/MethodHandle" ∧ yX9_isVariable.cls ≠ "java/lang/invoke/VarHandle" ∧ (parseMethodDescriptor yX9_isVariable.desc).map (fun d => d.parameters.length) = some 1 := by decide +kernel
theorem cd_X9_isVariable : Cond.code yX9_isVariable cX9_isVariable 2 (some .boolean) ∈ wsA := (inA5 60 rfl rfl)
theorem in_X9_isVariable : Cond.initialized yX9_isVariable.cls ∈ wsA := (inA1 5 rfl rfl)
theorem iv_X9_isVariable : Cond.instanceMethod yX9_isVariable ∈ wsA ∧ Cond.selects yX9_isVariable.cls yX9_isVariable yX9_isVariable ∈ wsA := ⟨(inA5 59 rfl rfl), (inQ 30 rfl rfl)⟩
theorem mk_X9_192 : MK RX9 192 yX9_isVariable cX9_isVariable 2 (some .boolean) 1 := ⟨(inA5 57 rfl rfl), in_X9_isVariable, cd_X9_isVariable, pn_X9_isVariable⟩
theorem pn_X9_shift : yX9_shift.cls ≠ "java/lang/invoke/MethodHandle" ∧ yX9_shift.cls ≠ "java/lang/invoke/VarHandle" ∧ (parseMethodDescriptor yX9_shift.desc).map (fun d => d.parameters.length) = some 1 := by decide +kernel
theorem cd_X9_shift : Cond.code yX9_shift cX9_shift 3 none ∈ wsA := (inA5 78 rfl rfl)
theorem in_X9_shift : Cond.initialized yX9_shift.cls ∈ wsA := (inA1 5 rfl rfl)
theorem iv_X9_shift : Cond.instanceMethod yX9_shift ∈ wsA ∧ Cond.selects yX9_shift.cls yX9_shift yX9_shift ∈ wsA := ⟨(inA5 77 rfl rfl), (inQ 33 rfl rfl)⟩
theorem mk_X9_195 : MK RX9 195 yX9_shift cX9_shift 3 none 1 := ⟨(inA5 75 rfl rfl), in_X9_shift, cd_X9_shift, pn_X9_shift⟩
theorem fk_X9_199 : FK RX9 199 10 0 false (.int) := ⟨RX9, TX9, 62, tyX9, "WatchServerModel", ci_X9, by decide, (inA4 83 rfl rfl), Or.inl rfl, rfl, rfl⟩
theorem fk_X9_202 : FK RX9 202 10 32 false (.int) := ⟨RX9, TX9, 62, tyX9, "WatchServerModel", ci_X9, by decide, (inA4 115 rfl rfl), Or.inl rfl, rfl, rfl⟩
theorem fk_X9_205 : FK RX9 205 10 48 false (.int) := ⟨RX9, TX9, 62, tyX9, "WatchServerModel", ci_X9, by decide, (inA4 131 rfl rfl), Or.inl rfl, rfl, rfl⟩
theorem pn_X9_isReady : yX9_isReady.cls ≠ "java/lang/invoke/MethodHandle" ∧ yX9_isReady.cls ≠ "java/lang/invoke/VarHandle" ∧ (parseMethodDescriptor yX9_isReady.desc).map (fun d => d.parameters.length) = some 1 := by decide +kernel
theorem cd_X9_isReady : Cond.code yX9_isReady cX9_isReady 4 (some .boolean) ∈ wsA := (inA5 86 rfl rfl)
theorem in_X9_isReady : Cond.initialized yX9_isReady.cls ∈ wsA := (inA1 5 rfl rfl)
theorem iv_X9_isReady : Cond.instanceMethod yX9_isReady ∈ wsA ∧ Cond.selects yX9_isReady.cls yX9_isReady yX9_isReady ∈ wsA := ⟨(inA5 85 rfl rfl), (inQ 35 rfl rfl)⟩
theorem mk_X9_208 : MK RX9 208 yX9_isReady cX9_isReady 4 (some .boolean) 1 := ⟨(inA5 83 rfl rfl), in_X9_isReady, cd_X9_isReady, pn_X9_isReady⟩
theorem pn_X9_keptOf : yX9_keptOf.cls ≠ "java/lang/invoke/MethodHandle" ∧ yX9_keptOf.cls ≠ "java/lang/invoke/VarHandle" ∧ (parseMethodDescriptor yX9_keptOf.desc).map (fun d => d.parameters.length) = some 1 := by decide +kernel
theorem cd_X9_keptOf : Cond.code yX9_keptOf cX9_keptOf 4 (some .int) ∈ wsA := (inA5 110 rfl rfl)
theorem in_X9_keptOf : Cond.initialized yX9_keptOf.cls ∈ wsA := (inA1 5 rfl rfl)
theorem iv_X9_keptOf : Cond.instanceMethod yX9_keptOf ∈ wsA ∧ Cond.selects yX9_keptOf.cls yX9_keptOf yX9_keptOf ∈ wsA := ⟨(inA5 109 rfl rfl), (inQ 41 rfl rfl)⟩
theorem mk_X9_211 : MK RX9 211 yX9_keptOf cX9_keptOf 4 (some .int) 1 := ⟨(inA5 107 rfl rfl), in_X9_keptOf, cd_X9_keptOf, pn_X9_keptOf⟩
theorem pn_X9_leftOf : yX9_leftOf.cls ≠ "java/lang/invoke/MethodHandle" ∧ yX9_leftOf.cls ≠ "java/lang/invoke/VarHandle" ∧ (parseMethodDescriptor yX9_leftOf.desc).map (fun d => d.parameters.length) = some 1 := by decide +kernel
theorem cd_X9_leftOf : Cond.code yX9_leftOf cX9_leftOf 4 (some .boolean) ∈ wsA := (inA5 114 rfl rfl)
theorem in_X9_leftOf : Cond.initialized yX9_leftOf.cls ∈ wsA := (inA1 5 rfl rfl)
theorem iv_X9_leftOf : Cond.instanceMethod yX9_leftOf ∈ wsA ∧ Cond.selects yX9_leftOf.cls yX9_leftOf yX9_leftOf ∈ wsA := ⟨(inA5 113 rfl rfl), (inQ 42 rfl rfl)⟩
theorem mk_X9_214 : MK RX9 214 yX9_leftOf cX9_leftOf 4 (some .boolean) 1 := ⟨(inA5 111 rfl rfl), in_X9_leftOf, cd_X9_leftOf, pn_X9_leftOf⟩
theorem pn_X9_toMail : yX9_toMail.cls ≠ "java/lang/invoke/MethodHandle" ∧ yX9_toMail.cls ≠ "java/lang/invoke/VarHandle" ∧ (parseMethodDescriptor yX9_toMail.desc).map (fun d => d.parameters.length) = some 2 := by decide +kernel
theorem cd_X9_toMail : Cond.code yX9_toMail cX9_toMail 3 none ∈ wsA := (inA5 118 rfl rfl)
theorem in_X9_toMail : Cond.initialized yX9_toMail.cls ∈ wsA := (inA1 5 rfl rfl)
theorem iv_X9_toMail : Cond.instanceMethod yX9_toMail ∈ wsA ∧ Cond.selects yX9_toMail.cls yX9_toMail yX9_toMail ∈ wsA := ⟨(inA5 117 rfl rfl), (inQ 43 rfl rfl)⟩
theorem mk_X9_217 : MK RX9 217 yX9_toMail cX9_toMail 3 none 2 := ⟨(inA5 115 rfl rfl), in_X9_toMail, cd_X9_toMail, pn_X9_toMail⟩
theorem pn_X9_dropKept : yX9_dropKept.cls ≠ "java/lang/invoke/MethodHandle" ∧ yX9_dropKept.cls ≠ "java/lang/invoke/VarHandle" ∧ (parseMethodDescriptor yX9_dropKept.desc).map (fun d => d.parameters.length) = some 2 := by decide +kernel
theorem cd_X9_dropKept : Cond.code yX9_dropKept cX9_dropKept 4 none ∈ wsA := (inA5 102 rfl rfl)
theorem in_X9_dropKept : Cond.initialized yX9_dropKept.cls ∈ wsA := (inA1 5 rfl rfl)
theorem iv_X9_dropKept : Cond.instanceMethod yX9_dropKept ∈ wsA ∧ Cond.selects yX9_dropKept.cls yX9_dropKept yX9_dropKept ∈ wsA := ⟨(inA5 101 rfl rfl), (inQ 39 rfl rfl)⟩
theorem mk_X9_221 : MK RX9 221 yX9_dropKept cX9_dropKept 4 none 2 := ⟨(inA5 99 rfl rfl), in_X9_dropKept, cd_X9_dropKept, pn_X9_dropKept⟩
theorem fk_X9_224 : FK RX9 224 10 15 false (.int) := ⟨RX9, TX9, 62, tyX9, "WatchServerModel", ci_X9, by decide, (inA4 98 rfl rfl), Or.inl rfl, rfl, rfl⟩
theorem pn_X9_removeSub : yX9_removeSub.cls ≠ "java/lang/invoke/MethodHandle" ∧ yX9_removeSub.cls ≠ "java/lang/invoke/VarHandle" ∧ (parseMethodDescriptor yX9_removeSub.desc).map (fun d => d.parameters.length) = some 1 := by decide +kernel
theorem cd_X9_removeSub : Cond.code yX9_removeSub cX9_removeSub 3 none ∈ wsA := (inA5 98 rfl rfl)
theorem in_X9_removeSub : Cond.initialized yX9_removeSub.cls ∈ wsA := (inA1 5 rfl rfl)
theorem iv_X9_removeSub : Cond.instanceMethod yX9_removeSub ∈ wsA ∧ Cond.selects yX9_removeSub.cls yX9_removeSub yX9_removeSub ∈ wsA := ⟨(inA5 97 rfl rfl), (inQ 38 rfl rfl)⟩
theorem mk_X9_227 : MK RX9 227 yX9_removeSub cX9_removeSub 3 none 1 := ⟨(inA5 95 rfl rfl), in_X9_removeSub, cd_X9_removeSub, pn_X9_removeSub⟩
theorem fk_X9_230 : FK RX9 230 10 30 false (.int) := ⟨RX9, TX9, 62, tyX9, "WatchServerModel", ci_X9, by decide, (inA4 113 rfl rfl), Or.inl rfl, rfl, rfl⟩
theorem pn_X9_mayMake : yX9_mayMake.cls ≠ "java/lang/invoke/MethodHandle" ∧ yX9_mayMake.cls ≠ "java/lang/invoke/VarHandle" ∧ (parseMethodDescriptor yX9_mayMake.desc).map (fun d => d.parameters.length) = some 1 := by decide +kernel
theorem cd_X9_mayMake : Cond.code yX9_mayMake cX9_mayMake 2 (some .boolean) ∈ wsA := (inA5 90 rfl rfl)
theorem in_X9_mayMake : Cond.initialized yX9_mayMake.cls ∈ wsA := (inA1 5 rfl rfl)
theorem iv_X9_mayMake : Cond.instanceMethod yX9_mayMake ∈ wsA ∧ Cond.selects yX9_mayMake.cls yX9_mayMake yX9_mayMake ∈ wsA := ⟨(inA5 89 rfl rfl), (inQ 36 rfl rfl)⟩
theorem mk_X9_233 : MK RX9 233 yX9_mayMake cX9_mayMake 2 (some .boolean) 1 := ⟨(inA5 87 rfl rfl), in_X9_mayMake, cd_X9_mayMake, pn_X9_mayMake⟩
theorem pn_X9_isShort : yX9_isShort.cls ≠ "java/lang/invoke/MethodHandle" ∧ yX9_isShort.cls ≠ "java/lang/invoke/VarHandle" ∧ (parseMethodDescriptor yX9_isShort.desc).map (fun d => d.parameters.length) = some 1 := by decide +kernel
theorem cd_X9_isShort : Cond.code yX9_isShort cX9_isShort 2 none ∈ wsA := (inA5 94 rfl rfl)
theorem in_X9_isShort : Cond.initialized yX9_isShort.cls ∈ wsA := (inA1 5 rfl rfl)
theorem iv_X9_isShort : Cond.instanceMethod yX9_isShort ∈ wsA ∧ Cond.selects yX9_isShort.cls yX9_isShort yX9_isShort ∈ wsA := ⟨(inA5 93 rfl rfl), (inQ 37 rfl rfl)⟩
theorem mk_X9_236 : MK RX9 236 yX9_isShort cX9_isShort 2 none 1 := ⟨(inA5 91 rfl rfl), in_X9_isShort, cd_X9_isShort, pn_X9_isShort⟩
theorem pn_X9_make : yX9_make.cls ≠ "java/lang/invoke/MethodHandle" ∧ yX9_make.cls ≠ "java/lang/invoke/VarHandle" ∧ (parseMethodDescriptor yX9_make.desc).map (fun d => d.parameters.length) = some 1 := by decide +kernel
theorem cd_X9_make : Cond.code yX9_make cX9_make 8 none ∈ wsA := (inA5 106 rfl rfl)
theorem in_X9_make : Cond.initialized yX9_make.cls ∈ wsA := (inA1 5 rfl rfl)
theorem iv_X9_make : Cond.instanceMethod yX9_make ∈ wsA ∧ Cond.selects yX9_make.cls yX9_make yX9_make ∈ wsA := ⟨(inA5 105 rfl rfl), (inQ 40 rfl rfl)⟩
theorem mk_X9_239 : MK RX9 239 yX9_make cX9_make 8 none 1 := ⟨(inA5 103 rfl rfl), in_X9_make, cd_X9_make, pn_X9_make⟩
theorem pn_X9_sample : yX9_sample.cls ≠ "java/lang/invoke/MethodHandle" ∧ yX9_sample.cls ≠ "java/lang/invoke/VarHandle" ∧ (parseMethodDescriptor yX9_sample.desc).map (fun d => d.parameters.length) = some 1 := by decide +kernel
theorem cd_X9_sample : Cond.code yX9_sample cX9_sample 8 none ∈ wsA := (inA5 74 rfl rfl)
theorem in_X9_sample : Cond.initialized yX9_sample.cls ∈ wsA := (inA1 5 rfl rfl)
theorem iv_X9_sample : Cond.instanceMethod yX9_sample ∈ wsA ∧ Cond.selects yX9_sample.cls yX9_sample yX9_sample ∈ wsA := ⟨(inA5 73 rfl rfl), (inQ 32 rfl rfl)⟩
theorem mk_X9_242 : MK RX9 242 yX9_sample cX9_sample 8 none 1 := ⟨(inA5 71 rfl rfl), in_X9_sample, cd_X9_sample, pn_X9_sample⟩
theorem pn_X9_cycle : yX9_cycle.cls ≠ "java/lang/invoke/MethodHandle" ∧ yX9_cycle.cls ≠ "java/lang/invoke/VarHandle" ∧ (parseMethodDescriptor yX9_cycle.desc).map (fun d => d.parameters.length) = some 1 := by decide +kernel
theorem cd_X9_cycle : Cond.code yX9_cycle cX9_cycle 3 none ∈ wsA := (inA5 82 rfl rfl)
theorem in_X9_cycle : Cond.initialized yX9_cycle.cls ∈ wsA := (inA1 5 rfl rfl)
theorem iv_X9_cycle : Cond.instanceMethod yX9_cycle ∈ wsA ∧ Cond.selects yX9_cycle.cls yX9_cycle yX9_cycle ∈ wsA := ⟨(inA5 81 rfl rfl), (inQ 34 rfl rfl)⟩
theorem mk_X9_245 : MK RX9 245 yX9_cycle cX9_cycle 3 none 1 := ⟨(inA5 79 rfl rfl), in_X9_cycle, cd_X9_cycle, pn_X9_cycle⟩
theorem fk_X9_248 : FK RX9 248 10 8 false (.int) := ⟨RX9, TX9, 62, tyX9, "WatchServerModel", ci_X9, by decide, (inA4 91 rfl rfl), Or.inl rfl, rfl, rfl⟩
theorem pn_X9_shut : yX9_shut.cls ≠ "java/lang/invoke/MethodHandle" ∧ yX9_shut.cls ≠ "java/lang/invoke/VarHandle" ∧ (parseMethodDescriptor yX9_shut.desc).map (fun d => d.parameters.length) = some 1 := by decide +kernel
theorem cd_X9_shut : Cond.code yX9_shut cX9_shut 4 (some .int) ∈ wsA := (inA5 122 rfl rfl)
theorem in_X9_shut : Cond.initialized yX9_shut.cls ∈ wsA := (inA1 5 rfl rfl)
theorem iv_X9_shut : Cond.instanceMethod yX9_shut ∈ wsA ∧ Cond.selects yX9_shut.cls yX9_shut yX9_shut ∈ wsA := ⟨(inA5 121 rfl rfl), (inQ 44 rfl rfl)⟩
theorem mk_X9_251 : MK RX9 251 yX9_shut cX9_shut 4 (some .int) 1 := ⟨(inA5 119 rfl rfl), in_X9_shut, cd_X9_shut, pn_X9_shut⟩
theorem kc_X9_254 : Cond.constantLong RX9 254 (1000 : Int64) ∈ wsA := (inA5 65 rfl rfl)
theorem kc_X9_256 : Cond.constant RX9 256 (100000 : Int32) ∈ wsA := (inA5 66 rfl rfl)
theorem pn_X9_step : yX9_step.cls ≠ "java/lang/invoke/MethodHandle" ∧ yX9_step.cls ≠ "java/lang/invoke/VarHandle" ∧ (parseMethodDescriptor yX9_step.desc).map (fun d => d.parameters.length) = some 0 := by decide +kernel
theorem cd_X9_step : Cond.code yX9_step cX9_step 3 none ∈ wsA := (inA5 70 rfl rfl)
theorem in_X9_step : Cond.initialized yX9_step.cls ∈ wsA := (inA1 5 rfl rfl)
theorem iv_X9_step : Cond.instanceMethod yX9_step ∈ wsA ∧ Cond.selects yX9_step.cls yX9_step yX9_step ∈ wsA := ⟨(inA5 69 rfl rfl), (inQ 31 rfl rfl)⟩
theorem mk_X9_257 : MK RX9 257 yX9_step cX9_step 3 none 0 := ⟨(inA5 67 rfl rfl), in_X9_step, cd_X9_step, pn_X9_step⟩
theorem pn_X9_lacks : yX9_lacks.cls ≠ "java/lang/invoke/MethodHandle" ∧ yX9_lacks.cls ≠ "java/lang/invoke/VarHandle" ∧ (parseMethodDescriptor yX9_lacks.desc).map (fun d => d.parameters.length) = some 1 := by decide +kernel
theorem cd_X9_lacks : Cond.code yX9_lacks cX9_lacks 2 (some .int) ∈ wsA := (inA5 138 rfl rfl)
theorem in_X9_lacks : Cond.initialized yX9_lacks.cls ∈ wsA := (inA1 5 rfl rfl)
theorem iv_X9_lacks : Cond.instanceMethod yX9_lacks ∈ wsA ∧ Cond.selects yX9_lacks.cls yX9_lacks yX9_lacks ∈ wsA := ⟨(inA5 137 rfl rfl), (inQ 45 rfl rfl)⟩
theorem mk_X9_260 : MK RX9 260 yX9_lacks cX9_lacks 2 (some .int) 1 := ⟨(inA5 135 rfl rfl), in_X9_lacks, cd_X9_lacks, pn_X9_lacks⟩
theorem fk_X9_263 : FK RX9 263 10 59 false (.long) := ⟨RX9, TX9, 62, tyX9, "WatchServerModel", ci_X9, by decide, (inA4 142 rfl rfl), Or.inl rfl, rfl, rfl⟩
theorem kc_X9_267 : Cond.constantLong RX9 267 (100 : Int64) ∈ wsA := (inA5 162 rfl rfl)
theorem kc_X9_269 : Cond.constantLong RX9 269 (20 : Int64) ∈ wsA := (inA5 163 rfl rfl)
theorem kc_X9_271 : Cond.constantLong RX9 271 (3 : Int64) ∈ wsA := (inA5 164 rfl rfl)
theorem kc_X9_273 : Cond.constantLong RX9 273 (10 : Int64) ∈ wsA := (inA5 165 rfl rfl)
theorem pn_X9_areRight : yX9_areRight.cls ≠ "java/lang/invoke/MethodHandle" ∧ yX9_areRight.cls ≠ "java/lang/invoke/VarHandle" ∧ (parseMethodDescriptor yX9_areRight.desc).map (fun d => d.parameters.length) = some 4 := by decide +kernel
theorem cd_X9_areRight : Cond.code yX9_areRight cX9_areRight 4 (some .boolean) ∈ wsA := (inA5 161 rfl rfl)
theorem in_X9_areRight : Cond.initialized yX9_areRight.cls ∈ wsA := (inA1 5 rfl rfl)
theorem st_X9_areRight : Cond.static yX9_areRight ∈ wsA := (inA5 160 rfl rfl)
theorem mk_X9_275 : MK RX9 275 yX9_areRight cX9_areRight 4 (some .boolean) 4 := ⟨(inA5 159 rfl rfl), in_X9_areRight, cd_X9_areRight, pn_X9_areRight⟩
theorem pn_X9_set : yX9_set.cls ≠ "java/lang/invoke/MethodHandle" ∧ yX9_set.cls ≠ "java/lang/invoke/VarHandle" ∧ (parseMethodDescriptor yX9_set.desc).map (fun d => d.parameters.length) = some 5 := by decide +kernel
theorem cd_X9_set : Cond.code yX9_set cX9_set 6 none ∈ wsA := (inA5 169 rfl rfl)
theorem in_X9_set : Cond.initialized yX9_set.cls ∈ wsA := (inA1 5 rfl rfl)
theorem iv_X9_set : Cond.instanceMethod yX9_set ∈ wsA ∧ Cond.selects yX9_set.cls yX9_set yX9_set ∈ wsA := ⟨(inA5 168 rfl rfl), (inQ 46 rfl rfl)⟩
theorem mk_X9_279 : MK RX9 279 yX9_set cX9_set 6 none 5 := ⟨(inA5 166 rfl rfl), in_X9_set, cd_X9_set, pn_X9_set⟩
theorem pn_X9_lacksSub : yX9_lacksSub.cls ≠ "java/lang/invoke/MethodHandle" ∧ yX9_lacksSub.cls ≠ "java/lang/invoke/VarHandle" ∧ (parseMethodDescriptor yX9_lacksSub.desc).map (fun d => d.parameters.length) = some 2 := by decide +kernel
theorem cd_X9_lacksSub : Cond.code yX9_lacksSub cX9_lacksSub 4 (some .int) ∈ wsA := (inA5 177 rfl rfl)
theorem in_X9_lacksSub : Cond.initialized yX9_lacksSub.cls ∈ wsA := (inA1 5 rfl rfl)
theorem iv_X9_lacksSub : Cond.instanceMethod yX9_lacksSub ∈ wsA ∧ Cond.selects yX9_lacksSub.cls yX9_lacksSub yX9_lacksSub ∈ wsA := ⟨(inA5 176 rfl rfl), (inQ 47 rfl rfl)⟩
theorem mk_X9_283 : MK RX9 283 yX9_lacksSub cX9_lacksSub 4 (some .int) 2 := ⟨(inA5 174 rfl rfl), in_X9_lacksSub, cd_X9_lacksSub, pn_X9_lacksSub⟩
theorem kc_X9_287 : Cond.constantLong RX9 287 (8 : Int64) ∈ wsA := (inA5 194 rfl rfl)
theorem pn_X9_lacksItem : yX9_lacksItem.cls ≠ "java/lang/invoke/MethodHandle" ∧ yX9_lacksItem.cls ≠ "java/lang/invoke/VarHandle" ∧ (parseMethodDescriptor yX9_lacksItem.desc).map (fun d => d.parameters.length) = some 2 := by decide +kernel
theorem cd_X9_lacksItem : Cond.code yX9_lacksItem cX9_lacksItem 4 (some .int) ∈ wsA := (inA5 202 rfl rfl)
theorem in_X9_lacksItem : Cond.initialized yX9_lacksItem.cls ∈ wsA := (inA1 5 rfl rfl)
theorem iv_X9_lacksItem : Cond.instanceMethod yX9_lacksItem ∈ wsA ∧ Cond.selects yX9_lacksItem.cls yX9_lacksItem yX9_lacksItem ∈ wsA := ⟨(inA5 201 rfl rfl), (inQ 48 rfl rfl)⟩
theorem mk_X9_289 : MK RX9 289 yX9_lacksItem cX9_lacksItem 4 (some .int) 2 := ⟨(inA5 199 rfl rfl), in_X9_lacksItem, cd_X9_lacksItem, pn_X9_lacksItem⟩
theorem pn_X9_findKept : yX9_findKept.cls ≠ "java/lang/invoke/MethodHandle" ∧ yX9_findKept.cls ≠ "java/lang/invoke/VarHandle" ∧ (parseMethodDescriptor yX9_findKept.desc).map (fun d => d.parameters.length) = some 2 := by decide +kernel
theorem cd_X9_findKept : Cond.code yX9_findKept cX9_findKept 4 (some .int) ∈ wsA := (inA5 218 rfl rfl)
theorem in_X9_findKept : Cond.initialized yX9_findKept.cls ∈ wsA := (inA1 5 rfl rfl)
theorem iv_X9_findKept : Cond.instanceMethod yX9_findKept ∈ wsA ∧ Cond.selects yX9_findKept.cls yX9_findKept yX9_findKept ∈ wsA := ⟨(inA5 217 rfl rfl), (inQ 50 rfl rfl)⟩
theorem mk_X9_292 : MK RX9 292 yX9_findKept cX9_findKept 4 (some .int) 2 := ⟨(inA5 215 rfl rfl), in_X9_findKept, cd_X9_findKept, pn_X9_findKept⟩
theorem pn_X9_acknowledge : yX9_acknowledge.cls ≠ "java/lang/invoke/MethodHandle" ∧ yX9_acknowledge.cls ≠ "java/lang/invoke/VarHandle" ∧ (parseMethodDescriptor yX9_acknowledge.desc).map (fun d => d.parameters.length) = some 3 := by decide +kernel
theorem cd_X9_acknowledge : Cond.code yX9_acknowledge cX9_acknowledge 5 (some .int) ∈ wsA := (inA5 214 rfl rfl)
theorem in_X9_acknowledge : Cond.initialized yX9_acknowledge.cls ∈ wsA := (inA1 5 rfl rfl)
theorem iv_X9_acknowledge : Cond.instanceMethod yX9_acknowledge ∈ wsA ∧ Cond.selects yX9_acknowledge.cls yX9_acknowledge yX9_acknowledge ∈ wsA := ⟨(inA5 213 rfl rfl), (inQ 49 rfl rfl)⟩
theorem mk_X9_295 : MK RX9 295 yX9_acknowledge cX9_acknowledge 5 (some .int) 3 := ⟨(inA5 211 rfl rfl), in_X9_acknowledge, cd_X9_acknowledge, pn_X9_acknowledge⟩
theorem fk_X9_299 : FK RX9 299 10 60 false (.int) := ⟨RX9, TX9, 62, tyX9, "WatchServerModel", ci_X9, by decide, (inA4 143 rfl rfl), Or.inl rfl, rfl, rfl⟩
theorem kc_X9_302 : Cond.constantLong RX9 302 (-9 : Int64) ∈ wsA := (inA5 239 rfl rfl)
theorem kc_X9_304 : Cond.constantLong RX9 304 (11 : Int64) ∈ wsA := (inA6 16 rfl rfl)
theorem kc_X9_306 : Cond.constantLong RX9 306 (19 : Int64) ∈ wsA := (inA6 17 rfl rfl)
theorem ob_i : Cond.instanceMethod Lib.objectInit ∈ wsA := (inA1 26 rfl rfl)
theorem ob_c : Cond.code Lib.objectInit ⟨#[0xb1]⟩ 1 none ∈ wsA := (inA1 27 rfl rfl)
theorem ar_int : Cond.arrayClass .int ∈ wsA := (inA1 88 rfl rfl)
theorem ar_long : Cond.arrayClass .long ∈ wsA := (inA5 30 rfl rfl)
theorem ar_boolean : Cond.arrayClass .boolean ∈ wsA := (inA5 31 rfl rfl)
theorem cw_X0 : vwCl[1]? = some (RX0, TX0, 4) := rfl
end
