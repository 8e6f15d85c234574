section
-- ===== PART A: goes FIRST, ahead of the names: the tables' words, and 'selects' of the private methods out of them =====
/-- a private method of a class that the tables say can be made, by its rows of tables_1 -/
def lw_okq (q : MethodName × Nat) : Prop := (q.1.cls ≠ "java/lang/invoke/MethodHandle" ∧ q.1.cls ≠ "java/lang/invoke/VarHandle") ∧ Cond.instantiable q.1.cls q.2 ∈ tables_1 ∧ Cond.privateMethod q.1 ∈ tables_1 ∧ Cond.instanceMethod q.1 ∈ tables_1
theorem lw_p0 : lw_okq (⟨"WatchServer", "refuse", "(I)I"⟩, 11) := ⟨⟨by decide +kernel, by decide +kernel⟩, List.mem_of_getElem? (i := 21) (by decide +kernel), List.mem_of_getElem? (i := 97) (by decide +kernel), List.mem_of_getElem? (i := 98) (by decide +kernel)⟩
theorem lw_p1 : lw_okq (⟨"java/util/ArrayList", "add", "(Ljava/lang/Object;[Ljava/lang/Object;I)V"⟩, 3) := ⟨⟨by decide +kernel, by decide +kernel⟩, List.mem_of_getElem? (i := 29) (by decide +kernel), List.mem_of_getElem? (i := 129) (by decide +kernel), List.mem_of_getElem? (i := 130) (by decide +kernel)⟩
theorem lw_p2 : lw_okq (⟨"java/util/ArrayList", "grow", "()[Ljava/lang/Object;"⟩, 3) := ⟨⟨by decide +kernel, by decide +kernel⟩, List.mem_of_getElem? (i := 29) (by decide +kernel), List.mem_of_getElem? (i := 133) (by decide +kernel), List.mem_of_getElem? (i := 134) (by decide +kernel)⟩
theorem lw_p3 : lw_okq (⟨"java/util/ArrayList", "grow", "(I)[Ljava/lang/Object;"⟩, 3) := ⟨⟨by decide +kernel, by decide +kernel⟩, List.mem_of_getElem? (i := 29) (by decide +kernel), List.mem_of_getElem? (i := 137) (by decide +kernel), List.mem_of_getElem? (i := 138) (by decide +kernel)⟩
theorem lw_p4 : lw_okq (⟨"WatchServer", "nodeAt", "(I)LWatchServer$Node;"⟩, 11) := ⟨⟨by decide +kernel, by decide +kernel⟩, List.mem_of_getElem? (i := 21) (by decide +kernel), List.mem_of_getElem? (i := 187) (by decide +kernel), List.mem_of_getElem? (i := 188) (by decide +kernel)⟩
theorem lw_p5 : lw_okq (⟨"WatchServer", "variableAt", "(I)LWatchServer$Node;"⟩, 11) := ⟨⟨by decide +kernel, by decide +kernel⟩, List.mem_of_getElem? (i := 21) (by decide +kernel), List.mem_of_getElem? (i := 225) (by decide +kernel), List.mem_of_getElem? (i := 226) (by decide +kernel)⟩
theorem lw_p6 : lw_okq (⟨"WatchServer", "sampleItems", "()V"⟩, 11) := ⟨⟨by decide +kernel, by decide +kernel⟩, List.mem_of_getElem? (i := 21) (by decide +kernel), List.mem_of_getElem? (i := 234) (by decide +kernel), List.mem_of_getElem? (i := 235) (by decide +kernel)⟩
theorem lw_p7 : lw_okq (⟨"java/util/ArrayList", "fastRemove", "([Ljava/lang/Object;I)V"⟩, 3) := ⟨⟨by decide +kernel, by decide +kernel⟩, List.mem_of_getElem? (i := 29) (by decide +kernel), List.mem_of_getElem? (i := 294) (by decide +kernel), List.mem_of_getElem? (i := 295) (by decide +kernel)⟩
theorem lw_p8 : lw_okq (⟨"WatchServer", "serveSubscriptions", "()V"⟩, 11) := ⟨⟨by decide +kernel, by decide +kernel⟩, List.mem_of_getElem? (i := 21) (by decide +kernel), List.mem_of_getElem? (i := 301) (by decide +kernel), List.mem_of_getElem? (i := 302) (by decide +kernel)⟩
theorem lw_p9 : lw_okq (⟨"WatchServer", "answerRequests", "(LWatchServer$Subscription;)V"⟩, 11) := ⟨⟨by decide +kernel, by decide +kernel⟩, List.mem_of_getElem? (i := 21) (by decide +kernel), List.mem_of_getElem? (i := 321) (by decide +kernel), List.mem_of_getElem? (i := 322) (by decide +kernel)⟩
theorem lw_p10 : lw_okq (⟨"WatchServer", "fallShort", "(LWatchServer$Subscription;)V"⟩, 11) := ⟨⟨by decide +kernel, by decide +kernel⟩, List.mem_of_getElem? (i := 21) (by decide +kernel), List.mem_of_getElem? (i := 325) (by decide +kernel), List.mem_of_getElem? (i := 326) (by decide +kernel)⟩
theorem lw_p11 : lw_okq (⟨"WatchServer", "send", "(LWatchServer$Subscription;)V"⟩, 11) := ⟨⟨by decide +kernel, by decide +kernel⟩, List.mem_of_getElem? (i := 21) (by decide +kernel), List.mem_of_getElem? (i := 338) (by decide +kernel), List.mem_of_getElem? (i := 339) (by decide +kernel)⟩
theorem lw_p12 : lw_okq (⟨"WatchServer", "closeTimedOut", "()V"⟩, 11) := ⟨⟨by decide +kernel, by decide +kernel⟩, List.mem_of_getElem? (i := 21) (by decide +kernel), List.mem_of_getElem? (i := 393) (by decide +kernel), List.mem_of_getElem? (i := 394) (by decide +kernel)⟩
theorem lw_p13 : lw_okq (⟨"WatchServer", "shut", "(LWatchServer$Session;)I"⟩, 11) := ⟨⟨by decide +kernel, by decide +kernel⟩, List.mem_of_getElem? (i := 21) (by decide +kernel), List.mem_of_getElem? (i := 398) (by decide +kernel), List.mem_of_getElem? (i := 399) (by decide +kernel)⟩
theorem lw_p14 : lw_okq (⟨"WatchServer", "sessionAt", "(I)LWatchServer$Session;"⟩, 11) := ⟨⟨by decide +kernel, by decide +kernel⟩, List.mem_of_getElem? (i := 21) (by decide +kernel), List.mem_of_getElem? (i := 441) (by decide +kernel), List.mem_of_getElem? (i := 442) (by decide +kernel)⟩
theorem lw_p15 : lw_okq (⟨"WatchServer", "refuseSession", "(I)I"⟩, 11) := ⟨⟨by decide +kernel, by decide +kernel⟩, List.mem_of_getElem? (i := 21) (by decide +kernel), List.mem_of_getElem? (i := 445) (by decide +kernel), List.mem_of_getElem? (i := 446) (by decide +kernel)⟩
def lw_privs_1 : List (MethodName × Nat) := [(⟨"WatchServer", "refuse", "(I)I"⟩, 11), (⟨"java/util/ArrayList", "add", "(Ljava/lang/Object;[Ljava/lang/Object;I)V"⟩, 3), (⟨"java/util/ArrayList", "grow", "()[Ljava/lang/Object;"⟩, 3), (⟨"java/util/ArrayList", "grow", "(I)[Ljava/lang/Object;"⟩, 3), (⟨"WatchServer", "nodeAt", "(I)LWatchServer$Node;"⟩, 11), (⟨"WatchServer", "variableAt", "(I)LWatchServer$Node;"⟩, 11), (⟨"WatchServer", "sampleItems", "()V"⟩, 11), (⟨"java/util/ArrayList", "fastRemove", "([Ljava/lang/Object;I)V"⟩, 3), (⟨"WatchServer", "serveSubscriptions", "()V"⟩, 11), (⟨"WatchServer", "answerRequests", "(LWatchServer$Subscription;)V"⟩, 11), (⟨"WatchServer", "fallShort", "(LWatchServer$Subscription;)V"⟩, 11), (⟨"WatchServer", "send", "(LWatchServer$Subscription;)V"⟩, 11), (⟨"WatchServer", "closeTimedOut", "()V"⟩, 11), (⟨"WatchServer", "shut", "(LWatchServer$Session;)I"⟩, 11), (⟨"WatchServer", "sessionAt", "(I)LWatchServer$Session;"⟩, 11), (⟨"WatchServer", "refuseSession", "(I)I"⟩, 11)]
theorem lw_r1 : ∀ q ∈ lw_privs_1, lw_okq q := List.forall_mem_cons.mpr ⟨lw_p0, List.forall_mem_cons.mpr ⟨lw_p1, List.forall_mem_cons.mpr ⟨lw_p2, List.forall_mem_cons.mpr ⟨lw_p3, List.forall_mem_cons.mpr ⟨lw_p4, List.forall_mem_cons.mpr ⟨lw_p5, List.forall_mem_cons.mpr ⟨lw_p6, List.forall_mem_cons.mpr ⟨lw_p7, List.forall_mem_cons.mpr ⟨lw_p8, List.forall_mem_cons.mpr ⟨lw_p9, List.forall_mem_cons.mpr ⟨lw_p10, List.forall_mem_cons.mpr ⟨lw_p11, List.forall_mem_cons.mpr ⟨lw_p12, List.forall_mem_cons.mpr ⟨lw_p13, List.forall_mem_cons.mpr ⟨lw_p14, List.forall_mem_cons.mpr ⟨lw_p15, fun _ h => absurd h List.not_mem_nil⟩⟩⟩⟩⟩⟩⟩⟩⟩⟩⟩⟩⟩⟩⟩⟩
theorem lw_p16 : lw_okq (⟨"WatchServer", "enter", "(I)LWatchServer$Session;"⟩, 11) := ⟨⟨by decide +kernel, by decide +kernel⟩, List.mem_of_getElem? (i := 21) (by decide +kernel), List.mem_of_getElem? (i := 457) (by decide +kernel), List.mem_of_getElem? (i := 458) (by decide +kernel)⟩
theorem lw_p17 : lw_okq (⟨"WatchServer", "subscriptionOf", "(LWatchServer$Session;I)LWatchServer$Subscription;"⟩, 11) := ⟨⟨by decide +kernel, by decide +kernel⟩, List.mem_of_getElem? (i := 21) (by decide +kernel), List.mem_of_getElem? (i := 584) (by decide +kernel), List.mem_of_getElem? (i := 585) (by decide +kernel)⟩
theorem lw_p18 : lw_okq (⟨"WatchServer", "subscriptionAt", "(I)LWatchServer$Subscription;"⟩, 11) := ⟨⟨by decide +kernel, by decide +kernel⟩, List.mem_of_getElem? (i := 21) (by decide +kernel), List.mem_of_getElem? (i := 588) (by decide +kernel), List.mem_of_getElem? (i := 589) (by decide +kernel)⟩
theorem lw_p19 : lw_okq (⟨"WatchServer", "itemOfClient", "(LWatchServer$Session;I)LWatchServer$Item;"⟩, 11) := ⟨⟨by decide +kernel, by decide +kernel⟩, List.mem_of_getElem? (i := 21) (by decide +kernel), List.mem_of_getElem? (i := 696) (by decide +kernel), List.mem_of_getElem? (i := 697) (by decide +kernel)⟩
theorem lw_p20 : lw_okq (⟨"WatchServer", "itemAt", "(I)LWatchServer$Item;"⟩, 11) := ⟨⟨by decide +kernel, by decide +kernel⟩, List.mem_of_getElem? (i := 21) (by decide +kernel), List.mem_of_getElem? (i := 700) (by decide +kernel), List.mem_of_getElem? (i := 701) (by decide +kernel)⟩
theorem lw_p21 : lw_okq (⟨"WatchServer", "countSubscriptions", "(LWatchServer$Session;)I"⟩, 11) := ⟨⟨by decide +kernel, by decide +kernel⟩, List.mem_of_getElem? (i := 21) (by decide +kernel), List.mem_of_getElem? (i := 716) (by decide +kernel), List.mem_of_getElem? (i := 717) (by decide +kernel)⟩
theorem lw_p22 : lw_okq (⟨"WatchServer", "acknowledge", "(LWatchServer$Session;II)I"⟩, 11) := ⟨⟨by decide +kernel, by decide +kernel⟩, List.mem_of_getElem? (i := 21) (by decide +kernel), List.mem_of_getElem? (i := 720) (by decide +kernel), List.mem_of_getElem? (i := 721) (by decide +kernel)⟩
theorem lw_p23 : lw_okq (⟨"WatchServer", "longestLate", "(LWatchServer$Session;)LWatchServer$Subscription;"⟩, 11) := ⟨⟨by decide +kernel, by decide +kernel⟩, List.mem_of_getElem? (i := 21) (by decide +kernel), List.mem_of_getElem? (i := 728) (by decide +kernel), List.mem_of_getElem? (i := 729) (by decide +kernel)⟩
theorem lw_p24 : lw_okq (⟨"WatchServer", "firstWithMore", "(LWatchServer$Session;)LWatchServer$Subscription;"⟩, 11) := ⟨⟨by decide +kernel, by decide +kernel⟩, List.mem_of_getElem? (i := 21) (by decide +kernel), List.mem_of_getElem? (i := 732) (by decide +kernel), List.mem_of_getElem? (i := 733) (by decide +kernel)⟩
theorem lw_p25 : lw_okq (⟨"WatchServer", "messageAt", "(I)LWatchServer$Message;"⟩, 11) := ⟨⟨by decide +kernel, by decide +kernel⟩, List.mem_of_getElem? (i := 21) (by decide +kernel), List.mem_of_getElem? (i := 756) (by decide +kernel), List.mem_of_getElem? (i := 757) (by decide +kernel)⟩
theorem lw_p26 : lw_okq (⟨"WatchServer", "countOpenSessions", "()I"⟩, 11) := ⟨⟨by decide +kernel, by decide +kernel⟩, List.mem_of_getElem? (i := 21) (by decide +kernel), List.mem_of_getElem? (i := 789) (by decide +kernel), List.mem_of_getElem? (i := 790) (by decide +kernel)⟩
theorem lw_p27 : lw_okq (⟨"WatchServer", "countItems", "()I"⟩, 11) := ⟨⟨by decide +kernel, by decide +kernel⟩, List.mem_of_getElem? (i := 21) (by decide +kernel), List.mem_of_getElem? (i := 793) (by decide +kernel), List.mem_of_getElem? (i := 794) (by decide +kernel)⟩
theorem lw_p28 : lw_okq (⟨"WatchServerModel", "refuse", "(I)I"⟩, 62) := ⟨⟨by decide +kernel, by decide +kernel⟩, List.mem_of_getElem? (i := 797) (by decide +kernel), List.mem_of_getElem? (i := 1001) (by decide +kernel), List.mem_of_getElem? (i := 1002) (by decide +kernel)⟩
theorem lw_p29 : lw_okq (⟨"WatchServerModel", "isNode", "(I)Z"⟩, 62) := ⟨⟨by decide +kernel, by decide +kernel⟩, List.mem_of_getElem? (i := 797) (by decide +kernel), List.mem_of_getElem? (i := 1009) (by decide +kernel), List.mem_of_getElem? (i := 1010) (by decide +kernel)⟩
theorem lw_p30 : lw_okq (⟨"WatchServerModel", "isVariable", "(I)Z"⟩, 62) := ⟨⟨by decide +kernel, by decide +kernel⟩, List.mem_of_getElem? (i := 797) (by decide +kernel), List.mem_of_getElem? (i := 1018) (by decide +kernel), List.mem_of_getElem? (i := 1019) (by decide +kernel)⟩
theorem lw_p31 : lw_okq (⟨"WatchServerModel", "step", "()V"⟩, 62) := ⟨⟨by decide +kernel, by decide +kernel⟩, List.mem_of_getElem? (i := 797) (by decide +kernel), List.mem_of_getElem? (i := 1028) (by decide +kernel), List.mem_of_getElem? (i := 1029) (by decide +kernel)⟩
def lw_privs_2 : List (MethodName × Nat) := [(⟨"WatchServer", "enter", "(I)LWatchServer$Session;"⟩, 11), (⟨"WatchServer", "subscriptionOf", "(LWatchServer$Session;I)LWatchServer$Subscription;"⟩, 11), (⟨"WatchServer", "subscriptionAt", "(I)LWatchServer$Subscription;"⟩, 11), (⟨"WatchServer", "itemOfClient", "(LWatchServer$Session;I)LWatchServer$Item;"⟩, 11), (⟨"WatchServer", "itemAt", "(I)LWatchServer$Item;"⟩, 11), (⟨"WatchServer", "countSubscriptions", "(LWatchServer$Session;)I"⟩, 11), (⟨"WatchServer", "acknowledge", "(LWatchServer$Session;II)I"⟩, 11), (⟨"WatchServer", "longestLate", "(LWatchServer$Session;)LWatchServer$Subscription;"⟩, 11), (⟨"WatchServer", "firstWithMore", "(LWatchServer$Session;)LWatchServer$Subscription;"⟩, 11), (⟨"WatchServer", "messageAt", "(I)LWatchServer$Message;"⟩, 11), (⟨"WatchServer", "countOpenSessions", "()I"⟩, 11), (⟨"WatchServer", "countItems", "()I"⟩, 11), (⟨"WatchServerModel", "refuse", "(I)I"⟩, 62), (⟨"WatchServerModel", "isNode", "(I)Z"⟩, 62), (⟨"WatchServerModel", "isVariable", "(I)Z"⟩, 62), (⟨"WatchServerModel", "step", "()V"⟩, 62)]
theorem lw_r2 : ∀ q ∈ lw_privs_2, lw_okq q := List.forall_mem_cons.mpr ⟨lw_p16, List.forall_mem_cons.mpr ⟨lw_p17, List.forall_mem_cons.mpr ⟨lw_p18, List.forall_mem_cons.mpr ⟨lw_p19, List.forall_mem_cons.mpr ⟨lw_p20, List.forall_mem_cons.mpr ⟨lw_p21, List.forall_mem_cons.mpr ⟨lw_p22, List.forall_mem_cons.mpr ⟨lw_p23, List.forall_mem_cons.mpr ⟨lw_p24, List.forall_mem_cons.mpr ⟨lw_p25, List.forall_mem_cons.mpr ⟨lw_p26, List.forall_mem_cons.mpr ⟨lw_p27, List.forall_mem_cons.mpr ⟨lw_p28, List.forall_mem_cons.mpr ⟨lw_p29, List.forall_mem_cons.mpr ⟨lw_p30, List.forall_mem_cons.mpr ⟨lw_p31, fun _ h => absurd h List.not_mem_nil⟩⟩⟩⟩⟩⟩⟩⟩⟩⟩⟩⟩⟩⟩⟩⟩
theorem lw_p32 : lw_okq (⟨"WatchServerModel", "sample", "(I)V"⟩, 62) := ⟨⟨by decide +kernel, by decide +kernel⟩, List.mem_of_getElem? (i := 797) (by decide +kernel), List.mem_of_getElem? (i := 1032) (by decide +kernel), List.mem_of_getElem? (i := 1033) (by decide +kernel)⟩
theorem lw_p33 : lw_okq (⟨"WatchServerModel", "shift", "(I)V"⟩, 62) := ⟨⟨by decide +kernel, by decide +kernel⟩, List.mem_of_getElem? (i := 797) (by decide +kernel), List.mem_of_getElem? (i := 1036) (by decide +kernel), List.mem_of_getElem? (i := 1037) (by decide +kernel)⟩
theorem lw_p34 : lw_okq (⟨"WatchServerModel", "cycle", "(I)V"⟩, 62) := ⟨⟨by decide +kernel, by decide +kernel⟩, List.mem_of_getElem? (i := 797) (by decide +kernel), List.mem_of_getElem? (i := 1040) (by decide +kernel), List.mem_of_getElem? (i := 1041) (by decide +kernel)⟩
theorem lw_p35 : lw_okq (⟨"WatchServerModel", "isReady", "(I)Z"⟩, 62) := ⟨⟨by decide +kernel, by decide +kernel⟩, List.mem_of_getElem? (i := 797) (by decide +kernel), List.mem_of_getElem? (i := 1044) (by decide +kernel), List.mem_of_getElem? (i := 1045) (by decide +kernel)⟩
theorem lw_p36 : lw_okq (⟨"WatchServerModel", "mayMake", "(I)Z"⟩, 62) := ⟨⟨by decide +kernel, by decide +kernel⟩, List.mem_of_getElem? (i := 797) (by decide +kernel), List.mem_of_getElem? (i := 1048) (by decide +kernel), List.mem_of_getElem? (i := 1049) (by decide +kernel)⟩
theorem lw_p37 : lw_okq (⟨"WatchServerModel", "isShort", "(I)V"⟩, 62) := ⟨⟨by decide +kernel, by decide +kernel⟩, List.mem_of_getElem? (i := 797) (by decide +kernel), List.mem_of_getElem? (i := 1052) (by decide +kernel), List.mem_of_getElem? (i := 1053) (by decide +kernel)⟩
theorem lw_p38 : lw_okq (⟨"WatchServerModel", "removeSub", "(I)V"⟩, 62) := ⟨⟨by decide +kernel, by decide +kernel⟩, List.mem_of_getElem? (i := 797) (by decide +kernel), List.mem_of_getElem? (i := 1056) (by decide +kernel), List.mem_of_getElem? (i := 1057) (by decide +kernel)⟩
theorem lw_p39 : lw_okq (⟨"WatchServerModel", "dropKept", "(II)V"⟩, 62) := ⟨⟨by decide +kernel, by decide +kernel⟩, List.mem_of_getElem? (i := 797) (by decide +kernel), List.mem_of_getElem? (i := 1060) (by decide +kernel), List.mem_of_getElem? (i := 1061) (by decide +kernel)⟩
theorem lw_p40 : lw_okq (⟨"WatchServerModel", "make", "(I)V"⟩, 62) := ⟨⟨by decide +kernel, by decide +kernel⟩, List.mem_of_getElem? (i := 797) (by decide +kernel), List.mem_of_getElem? (i := 1064) (by decide +kernel), List.mem_of_getElem? (i := 1065) (by decide +kernel)⟩
theorem lw_p41 : lw_okq (⟨"WatchServerModel", "keptOf", "(I)I"⟩, 62) := ⟨⟨by decide +kernel, by decide +kernel⟩, List.mem_of_getElem? (i := 797) (by decide +kernel), List.mem_of_getElem? (i := 1068) (by decide +kernel), List.mem_of_getElem? (i := 1069) (by decide +kernel)⟩
theorem lw_p42 : lw_okq (⟨"WatchServerModel", "leftOf", "(I)Z"⟩, 62) := ⟨⟨by decide +kernel, by decide +kernel⟩, List.mem_of_getElem? (i := 797) (by decide +kernel), List.mem_of_getElem? (i := 1072) (by decide +kernel), List.mem_of_getElem? (i := 1073) (by decide +kernel)⟩
theorem lw_p43 : lw_okq (⟨"WatchServerModel", "toMail", "(II)V"⟩, 62) := ⟨⟨by decide +kernel, by decide +kernel⟩, List.mem_of_getElem? (i := 797) (by decide +kernel), List.mem_of_getElem? (i := 1076) (by decide +kernel), List.mem_of_getElem? (i := 1077) (by decide +kernel)⟩
theorem lw_p44 : lw_okq (⟨"WatchServerModel", "shut", "(I)I"⟩, 62) := ⟨⟨by decide +kernel, by decide +kernel⟩, List.mem_of_getElem? (i := 797) (by decide +kernel), List.mem_of_getElem? (i := 1080) (by decide +kernel), List.mem_of_getElem? (i := 1081) (by decide +kernel)⟩
theorem lw_p45 : lw_okq (⟨"WatchServerModel", "lacks", "(I)I"⟩, 62) := ⟨⟨by decide +kernel, by decide +kernel⟩, List.mem_of_getElem? (i := 797) (by decide +kernel), List.mem_of_getElem? (i := 1096) (by decide +kernel), List.mem_of_getElem? (i := 1097) (by decide +kernel)⟩
theorem lw_p46 : lw_okq (⟨"WatchServerModel", "set", "(IIIII)V"⟩, 62) := ⟨⟨by decide +kernel, by decide +kernel⟩, List.mem_of_getElem? (i := 797) (by decide +kernel), List.mem_of_getElem? (i := 1127) (by decide +kernel), List.mem_of_getElem? (i := 1128) (by decide +kernel)⟩
theorem lw_p47 : lw_okq (⟨"WatchServerModel", "lacksSub", "(II)I"⟩, 62) := ⟨⟨by decide +kernel, by decide +kernel⟩, List.mem_of_getElem? (i := 797) (by decide +kernel), List.mem_of_getElem? (i := 1135) (by decide +kernel), List.mem_of_getElem? (i := 1136) (by decide +kernel)⟩
def lw_privs_3 : List (MethodName × Nat) := [(⟨"WatchServerModel", "sample", "(I)V"⟩, 62), (⟨"WatchServerModel", "shift", "(I)V"⟩, 62), (⟨"WatchServerModel", "cycle", "(I)V"⟩, 62), (⟨"WatchServerModel", "isReady", "(I)Z"⟩, 62), (⟨"WatchServerModel", "mayMake", "(I)Z"⟩, 62), (⟨"WatchServerModel", "isShort", "(I)V"⟩, 62), (⟨"WatchServerModel", "removeSub", "(I)V"⟩, 62), (⟨"WatchServerModel", "dropKept", "(II)V"⟩, 62), (⟨"WatchServerModel", "make", "(I)V"⟩, 62), (⟨"WatchServerModel", "keptOf", "(I)I"⟩, 62), (⟨"WatchServerModel", "leftOf", "(I)Z"⟩, 62), (⟨"WatchServerModel", "toMail", "(II)V"⟩, 62), (⟨"WatchServerModel", "shut", "(I)I"⟩, 62), (⟨"WatchServerModel", "lacks", "(I)I"⟩, 62), (⟨"WatchServerModel", "set", "(IIIII)V"⟩, 62), (⟨"WatchServerModel", "lacksSub", "(II)I"⟩, 62)]
theorem lw_r3 : ∀ q ∈ lw_privs_3, lw_okq q := List.forall_mem_cons.mpr ⟨lw_p32, List.forall_mem_cons.mpr ⟨lw_p33, List.forall_mem_cons.mpr ⟨lw_p34, List.forall_mem_cons.mpr ⟨lw_p35, List.forall_mem_cons.mpr ⟨lw_p36, List.forall_mem_cons.mpr ⟨lw_p37, List.forall_mem_cons.mpr ⟨lw_p38, List.forall_mem_cons.mpr ⟨lw_p39, List.forall_mem_cons.mpr ⟨lw_p40, List.forall_mem_cons.mpr ⟨lw_p41, List.forall_mem_cons.mpr ⟨lw_p42, List.forall_mem_cons.mpr ⟨lw_p43, List.forall_mem_cons.mpr ⟨lw_p44, List.forall_mem_cons.mpr ⟨lw_p45, List.forall_mem_cons.mpr ⟨lw_p46, List.forall_mem_cons.mpr ⟨lw_p47, fun _ h => absurd h List.not_mem_nil⟩⟩⟩⟩⟩⟩⟩⟩⟩⟩⟩⟩⟩⟩⟩⟩
theorem lw_p48 : lw_okq (⟨"WatchServerModel", "lacksItem", "(II)I"⟩, 62) := ⟨⟨by decide +kernel, by decide +kernel⟩, List.mem_of_getElem? (i := 797) (by decide +kernel), List.mem_of_getElem? (i := 1160) (by decide +kernel), List.mem_of_getElem? (i := 1161) (by decide +kernel)⟩
theorem lw_p49 : lw_okq (⟨"WatchServerModel", "acknowledge", "(III)I"⟩, 62) := ⟨⟨by decide +kernel, by decide +kernel⟩, List.mem_of_getElem? (i := 797) (by decide +kernel), List.mem_of_getElem? (i := 1172) (by decide +kernel), List.mem_of_getElem? (i := 1173) (by decide +kernel)⟩
theorem lw_p50 : lw_okq (⟨"WatchServerModel", "findKept", "(II)I"⟩, 62) := ⟨⟨by decide +kernel, by decide +kernel⟩, List.mem_of_getElem? (i := 797) (by decide +kernel), List.mem_of_getElem? (i := 1176) (by decide +kernel), List.mem_of_getElem? (i := 1177) (by decide +kernel)⟩
def lw_privs_4 : List (MethodName × Nat) := [(⟨"WatchServerModel", "lacksItem", "(II)I"⟩, 62), (⟨"WatchServerModel", "acknowledge", "(III)I"⟩, 62), (⟨"WatchServerModel", "findKept", "(II)I"⟩, 62)]
theorem lw_r4 : ∀ q ∈ lw_privs_4, lw_okq q := List.forall_mem_cons.mpr ⟨lw_p48, List.forall_mem_cons.mpr ⟨lw_p49, List.forall_mem_cons.mpr ⟨lw_p50, fun _ h => absurd h List.not_mem_nil⟩⟩⟩
def lw_privs : List (MethodName × Nat) := lw_privs_1 ++ (lw_privs_2 ++ (lw_privs_3 ++ (lw_privs_4)))
def lw_tbl : List Cond := k2_sels lw_privs ++ tables_1
theorem lw_privs_ok : ∀ q ∈ lw_privs, lw_okq q := by
  show ∀ q ∈ lw_privs_1 ++ (lw_privs_2 ++ (lw_privs_3 ++ (lw_privs_4))), lw_okq q
  exact List.forall_mem_append.mpr ⟨lw_r1, List.forall_mem_append.mpr ⟨lw_r2, List.forall_mem_append.mpr ⟨lw_r3, lw_r4⟩⟩⟩
end
section
/-! ===== BEGIN words of one list among another's, by their places ===== -/
theorem goodIn_r {big : List Cond} (ws : List Cond) (ps : List Nat) (hp : ws = ps.filterMap (fun i => big[i]?)) (h : ws.all goodWord = true) : GoodIn big ws := by
  intro w hw
  have h1 := List.all_eq_true.mp h w hw
  rw [hp] at hw
  obtain ⟨i, -, hi⟩ := List.mem_filterMap.mp hw
  have hm : w ∈ big := by first | exact List.mem_of_getElem? hi | exact List.getElem?_mem hi
  exact ⟨hm, good_of_word h1⟩
theorem goodIn_app {big a b : List Cond} (ha : GoodIn big a) (hb : GoodIn big b) : GoodIn big (a ++ b) := fun w h => (List.mem_append.mp h).elim (ha w) (hb w)
theorem goodIn_ca {big a b : List Cond} {c : Cond} (ha : GoodIn big (c :: a)) (hb : GoodIn big b) : GoodIn big (c :: (a ++ b)) := fun w h => (List.mem_cons.mp h).elim (fun e => ha w (List.mem_cons.mpr (Or.inl e))) (fun h => (List.mem_append.mp h).elim (fun h => ha w (List.mem_cons.mpr (Or.inr h))) (hb w))
theorem goodIn_sub {big ws : List Cond} (hm : ∀ w ∈ ws, w ∈ big) (h : ws.all goodWord = true) : GoodIn big ws := fun w hw => ⟨hm w hw, good_of_word (List.all_eq_true.mp h w hw)⟩
/-! ===== END ===== -/

/-! ===== BEGIN printed: names, fields, word lists, decode rows ===== -/
def RX0 : String := "WatchServer$Entry"
def TX0 : u_T := fun k => match k with
  | 0 => ("WatchServer$Entry", "value", "J", true)
  | 1 => ("WatchServer$Entry", "item", "I", true)
  | 2 => ("WatchServer$Entry", "time", "I", true)
  | _ => ("WatchServer$Entry", "bit", "Z", false)
def tyX0 : Nat → FieldType := fun k => match k with
  | 0 => .long
  | 1 => .int
  | 2 => .int
  | _ => .boolean
abbrev wsX00 : List Cond := u_ws RX0 TX0 4
theorem nmX0 : ∀ a, a < 4 → ∀ b, b < 4 → a ≠ b → (TX0 a).2.1 ≠ (TX0 b).2.1 := by decide +kernel
theorem tyX0_ok : ∀ k, k < 4 → parseFieldDescriptor (TX0 k).2.2.1 = some (tyX0 k) := by decide +kernel
abbrev cX0_init : ByteArray := prog_2_method_1_code
def yX0_init : MethodName := ⟨RX0, "<init>", "(JII)V"⟩
def RX1 : String := "WatchServer$Item"
def TX1 : u_T := fun k => match k with
  | 0 => ("WatchServer$Item", "number", "I", true)
  | 1 => ("WatchServer$Item", "owner", "LWatchServer$Subscription;", true)
  | 2 => ("WatchServer$Item", "variable", "LWatchServer$Node;", true)
  | 3 => ("WatchServer$Item", "born", "I", true)
  | 4 => ("WatchServer$Item", "interval", "I", true)
  | 5 => ("WatchServer$Item", "band", "J", true)
  | 6 => ("WatchServer$Item", "queue", "LWatchServer$Queue;", true)
  | 7 => ("WatchServer$Item", "mode", "I", false)
  | 8 => ("WatchServer$Item", "hasTaken", "Z", false)
  | 9 => ("WatchServer$Item", "taken", "J", false)
  | _ => ("WatchServer$Item", "gone", "Z", false)
def tyX1 : Nat → FieldType := fun k => match k with
  | 0 => .int
  | 1 => .object "WatchServer$Subscription"
  | 2 => .object "WatchServer$Node"
  | 3 => .int
  | 4 => .int
  | 5 => .long
  | 6 => .object "WatchServer$Queue"
  | 7 => .int
  | 8 => .boolean
  | 9 => .long
  | _ => .boolean
abbrev wsX10 : List Cond := u_ws RX1 TX1 11
theorem nmX1 : ∀ a, a < 11 → ∀ b, b < 11 → a ≠ b → (TX1 a).2.1 ≠ (TX1 b).2.1 := by decide +kernel
theorem tyX1_ok : ∀ k, k < 11 → parseFieldDescriptor (TX1 k).2.2.1 = some (tyX1 k) := by decide +kernel
abbrev cX1_init : ByteArray := prog_3_method_1_code
def yX1_init : MethodName := ⟨RX1, "<init>", "(ILWatchServer$Subscription;LWatchServer$Node;IIJLWatchServer$Queue;)V"⟩
abbrev cX1_mayHave : ByteArray := prog_3_method_2_code
def yX1_mayHave : MethodName := ⟨RX1, "mayHave", "(IIIJ)Z"⟩
abbrev cX1_switchTo : ByteArray := prog_3_method_3_code
def yX1_switchTo : MethodName := ⟨RX1, "switchTo", "(II)V"⟩
abbrev cX1_sample : ByteArray := prog_3_method_4_code
def yX1_sample : MethodName := ⟨RX1, "sample", "(I)V"⟩
abbrev cX1_isBeyondBand : ByteArray := prog_3_method_5_code
def yX1_isBeyondBand : MethodName := ⟨RX1, "isBeyondBand", "(J)Z"⟩
def RX2 : String := "WatchServer$Message"
def TX2 : u_T := fun k => match k with
  | 0 => ("WatchServer$Message", "place", "I", true)
  | 1 => ("WatchServer$Message", "subscription", "I", true)
  | 2 => ("WatchServer$Message", "number", "I", true)
  | 3 => ("WatchServer$Message", "time", "I", true)
  | 4 => ("WatchServer$Message", "entries", "[LWatchServer$Entry;", true)
  | 5 => ("WatchServer$Message", "more", "Z", false)
  | _ => ("WatchServer$Message", "kept", "Z", false)
def tyX2 : Nat → FieldType := fun k => match k with
  | 0 => .int
  | 1 => .int
  | 2 => .int
  | 3 => .int
  | 4 => .array (.object "WatchServer$Entry")
  | 5 => .boolean
  | _ => .boolean
abbrev wsX20 : List Cond := u_ws RX2 TX2 7
theorem nmX2 : ∀ a, a < 7 → ∀ b, b < 7 → a ≠ b → (TX2 a).2.1 ≠ (TX2 b).2.1 := by decide +kernel
theorem tyX2_ok : ∀ k, k < 7 → parseFieldDescriptor (TX2 k).2.2.1 = some (tyX2 k) := by decide +kernel
abbrev cX2_init : ByteArray := prog_4_method_1_code
def yX2_init : MethodName := ⟨RX2, "<init>", "(IIII[LWatchServer$Entry;)V"⟩
def RX3 : String := "WatchServer$Node"
def TX3 : u_T := fun k => match k with
  | 0 => ("WatchServer$Node", "number", "I", true)
  | 1 => ("WatchServer$Node", "kind", "I", true)
  | _ => ("WatchServer$Node", "value", "J", false)
def tyX3 : Nat → FieldType := fun k => match k with
  | 0 => .int
  | 1 => .int
  | _ => .long
abbrev wsX30 : List Cond := u_ws RX3 TX3 3
theorem nmX3 : ∀ a, a < 3 → ∀ b, b < 3 → a ≠ b → (TX3 a).2.1 ≠ (TX3 b).2.1 := by decide +kernel
theorem tyX3_ok : ∀ k, k < 3 → parseFieldDescriptor (TX3 k).2.2.1 = some (tyX3 k) := by decide +kernel
abbrev cX3_init : ByteArray := prog_5_method_1_code
def yX3_init : MethodName := ⟨RX3, "<init>", "(II)V"⟩
def RX4 : String := "WatchServer$Queue"
def TX4 : u_T := fun k => match k with
  | 0 => ("WatchServer$Queue", "size", "I", true)
  | 1 => ("WatchServer$Queue", "oldest", "Z", true)
  | _ => ("WatchServer$Queue", "entries", "Ljava/util/ArrayList;", true)
def tyX4 : Nat → FieldType := fun k => match k with
  | 0 => .int
  | 1 => .boolean
  | _ => .object "java/util/ArrayList"
abbrev wsX40 : List Cond := u_ws RX4 TX4 3
theorem nmX4 : ∀ a, a < 3 → ∀ b, b < 3 → a ≠ b → (TX4 a).2.1 ≠ (TX4 b).2.1 := by decide +kernel
theorem tyX4_ok : ∀ k, k < 3 → parseFieldDescriptor (TX4 k).2.2.1 = some (tyX4 k) := by decide +kernel
abbrev cX4_init : ByteArray := prog_6_method_1_code
def yX4_init : MethodName := ⟨RX4, "<init>", "(IZ)V"⟩
abbrev cX4_put : ByteArray := prog_6_method_2_code
def yX4_put : MethodName := ⟨RX4, "put", "(LWatchServer$Entry;)V"⟩
abbrev cX4_firstHasBit : ByteArray := prog_6_method_3_code
def yX4_firstHasBit : MethodName := ⟨RX4, "firstHasBit", "()Z"⟩
def RX5 : String := "WatchServer$Reference"
def TX5 : u_T := fun k => match k with
  | 0 => ("WatchServer$Reference", "from", "I", true)
  | 1 => ("WatchServer$Reference", "to", "I", true)
  | _ => ("WatchServer$Reference", "type", "I", true)
def tyX5 : Nat → FieldType := fun k => match k with
  | 0 => .int
  | 1 => .int
  | _ => .int
abbrev wsX50 : List Cond := u_ws RX5 TX5 3
theorem nmX5 : ∀ a, a < 3 → ∀ b, b < 3 → a ≠ b → (TX5 a).2.1 ≠ (TX5 b).2.1 := by decide +kernel
theorem tyX5_ok : ∀ k, k < 3 → parseFieldDescriptor (TX5 k).2.2.1 = some (tyX5 k) := by decide +kernel
abbrev cX5_init : ByteArray := prog_7_method_1_code
def yX5_init : MethodName := ⟨RX5, "<init>", "(III)V"⟩
abbrev cX5_touches : ByteArray := prog_7_method_2_code
def yX5_touches : MethodName := ⟨RX5, "touches", "(II)Z"⟩
abbrev cX5_isAmong : ByteArray := prog_7_method_3_code
def yX5_isAmong : MethodName := ⟨RX5, "isAmong", "(I)Z"⟩
abbrev cX5_otherEnd : ByteArray := prog_7_method_4_code
def yX5_otherEnd : MethodName := ⟨RX5, "otherEnd", "(I)I"⟩
def RX6 : String := "WatchServer$Session"
def TX6 : u_T := fun k => match k with
  | 0 => ("WatchServer$Session", "number", "I", true)
  | 1 => ("WatchServer$Session", "timeout", "I", true)
  | 2 => ("WatchServer$Session", "mail", "Ljava/util/ArrayList;", true)
  | 3 => ("WatchServer$Session", "state", "I", false)
  | 4 => ("WatchServer$Session", "end", "I", false)
  | _ => ("WatchServer$Session", "requests", "I", false)
def tyX6 : Nat → FieldType := fun k => match k with
  | 0 => .int
  | 1 => .int
  | 2 => .object "java/util/ArrayList"
  | 3 => .int
  | 4 => .int
  | _ => .int
abbrev wsX60 : List Cond := u_ws RX6 TX6 6
theorem nmX6 : ∀ a, a < 6 → ∀ b, b < 6 → a ≠ b → (TX6 a).2.1 ≠ (TX6 b).2.1 := by decide +kernel
theorem tyX6_ok : ∀ k, k < 6 → parseFieldDescriptor (TX6 k).2.2.1 = some (tyX6 k) := by decide +kernel
abbrev cX6_init : ByteArray := prog_8_method_1_code
def yX6_init : MethodName := ⟨RX6, "<init>", "(III)V"⟩
abbrev cX6_renew : ByteArray := prog_8_method_2_code
def yX6_renew : MethodName := ⟨RX6, "renew", "(I)V"⟩
def RX7 : String := "WatchServer$Subscription"
def TX7 : u_T := fun k => match k with
  | 0 => ("WatchServer$Subscription", "number", "I", true)
  | 1 => ("WatchServer$Subscription", "items", "Ljava/util/ArrayList;", true)
  | 2 => ("WatchServer$Subscription", "kept", "Ljava/util/ArrayList;", true)
  | 3 => ("WatchServer$Subscription", "owner", "LWatchServer$Session;", false)
  | 4 => ("WatchServer$Subscription", "born", "I", false)
  | 5 => ("WatchServer$Subscription", "period", "I", false)
  | 6 => ("WatchServer$Subscription", "keep", "I", false)
  | 7 => ("WatchServer$Subscription", "life", "I", false)
  | 8 => ("WatchServer$Subscription", "most", "I", false)
  | 9 => ("WatchServer$Subscription", "on", "Z", false)
  | 10 => ("WatchServer$Subscription", "next", "I", false)
  | 11 => ("WatchServer$Subscription", "keepLeft", "I", false)
  | 12 => ("WatchServer$Subscription", "lifeLeft", "I", false)
  | 13 => ("WatchServer$Subscription", "sent", "Z", false)
  | 14 => ("WatchServer$Subscription", "more", "Z", false)
  | 15 => ("WatchServer$Subscription", "late", "Z", false)
  | 16 => ("WatchServer$Subscription", "lateOrder", "I", false)
  | _ => ("WatchServer$Subscription", "gone", "Z", false)
def tyX7 : Nat → FieldType := fun k => match k with
  | 0 => .int
  | 1 => .object "java/util/ArrayList"
  | 2 => .object "java/util/ArrayList"
  | 3 => .object "WatchServer$Session"
  | 4 => .int
  | 5 => .int
  | 6 => .int
  | 7 => .int
  | 8 => .int
  | 9 => .boolean
  | 10 => .int
  | 11 => .int
  | 12 => .int
  | 13 => .boolean
  | 14 => .boolean
  | 15 => .boolean
  | 16 => .int
  | _ => .boolean
abbrev wsX70 : List Cond := u_ws RX7 TX7 18
theorem nmX7 : ∀ a, a < 18 → ∀ b, b < 18 → a ≠ b → (TX7 a).2.1 ≠ (TX7 b).2.1 := by decide +kernel
theorem tyX7_ok : ∀ k, k < 18 → parseFieldDescriptor (TX7 k).2.2.1 = some (tyX7 k) := by decide +kernel
abbrev cX7_init : ByteArray := prog_9_method_1_code
def yX7_init : MethodName := ⟨RX7, "<init>", "(ILWatchServer$Session;)V"⟩
abbrev cX7_mayHave : ByteArray := prog_9_method_2_code
def yX7_mayHave : MethodName := ⟨RX7, "mayHave", "(IIII)Z"⟩
abbrev cX7_begin : ByteArray := prog_9_method_3_code
def yX7_begin : MethodName := ⟨RX7, "begin", "(IIIII)V"⟩
abbrev cX7_isReady : ByteArray := prog_9_method_4_code
def yX7_isReady : MethodName := ⟨RX7, "isReady", "()Z"⟩
abbrev cX7_wantsToSend : ByteArray := prog_9_method_5_code
def yX7_wantsToSend : MethodName := ⟨RX7, "wantsToSend", "()Z"⟩
abbrev cX7_countEntries : ByteArray := prog_9_method_6_code
def yX7_countEntries : MethodName := ⟨RX7, "countEntries", "()I"⟩
abbrev cX7_takeEntries : ByteArray := prog_9_method_7_code
def yX7_takeEntries : MethodName := ⟨RX7, "takeEntries", "()[LWatchServer$Entry;"⟩
abbrev cX7_keepMessage : ByteArray := prog_9_method_8_code
def yX7_keepMessage : MethodName := ⟨RX7, "keepMessage", "(LWatchServer$Message;)V"⟩
abbrev cX7_keptOf : ByteArray := prog_9_method_9_code
def yX7_keptOf : MethodName := ⟨RX7, "keptOf", "(I)LWatchServer$Message;"⟩
abbrev cX7_forget : ByteArray := prog_9_method_10_code
def yX7_forget : MethodName := ⟨RX7, "forget", "(I)Z"⟩
abbrev cX7_remove : ByteArray := prog_9_method_11_code
def yX7_remove : MethodName := ⟨RX7, "remove", "(LWatchServer$Item;)V"⟩
abbrev cX7_end : ByteArray := prog_9_method_12_code
def yX7_end : MethodName := ⟨RX7, "end", "()V"⟩
def RX8 : String := "WatchServer"
def TX8 : u_T := fun k => match k with
  | 0 => ("WatchServer", "nodes", "Ljava/util/ArrayList;", true)
  | 1 => ("WatchServer", "references", "Ljava/util/ArrayList;", true)
  | 2 => ("WatchServer", "sessions", "Ljava/util/ArrayList;", true)
  | 3 => ("WatchServer", "subscriptions", "Ljava/util/ArrayList;", true)
  | 4 => ("WatchServer", "items", "Ljava/util/ArrayList;", true)
  | 5 => ("WatchServer", "messages", "Ljava/util/ArrayList;", true)
  | 6 => ("WatchServer", "refusals", "[I", true)
  | 7 => ("WatchServer", "time", "I", false)
  | 8 => ("WatchServer", "valueRead", "J", false)
  | 9 => ("WatchServer", "acknowledgement", "I", false)
  | _ => ("WatchServer", "latenesses", "I", false)
def tyX8 : Nat → FieldType := fun k => match k with
  | 0 => .object "java/util/ArrayList"
  | 1 => .object "java/util/ArrayList"
  | 2 => .object "java/util/ArrayList"
  | 3 => .object "java/util/ArrayList"
  | 4 => .object "java/util/ArrayList"
  | 5 => .object "java/util/ArrayList"
  | 6 => .array .int
  | 7 => .int
  | 8 => .long
  | 9 => .int
  | _ => .int
abbrev wsX80 : List Cond := u_ws RX8 TX8 11
theorem nmX8 : ∀ a, a < 11 → ∀ b, b < 11 → a ≠ b → (TX8 a).2.1 ≠ (TX8 b).2.1 := by decide +kernel
theorem tyX8_ok : ∀ k, k < 11 → parseFieldDescriptor (TX8 k).2.2.1 = some (tyX8 k) := by decide +kernel
abbrev cX8_init : ByteArray := prog_1_method_1_code
def yX8_init : MethodName := ⟨RX8, "<init>", "()V"⟩
abbrev cX8_node : ByteArray := prog_1_method_2_code
def yX8_node : MethodName := ⟨RX8, "node", "(I)I"⟩
abbrev cX8_refer : ByteArray := prog_1_method_3_code
def yX8_refer : MethodName := ⟨RX8, "refer", "(III)I"⟩
abbrev cX8_change : ByteArray := prog_1_method_4_code
def yX8_change : MethodName := ⟨RX8, "change", "(IJ)I"⟩
abbrev cX8_tick : ByteArray := prog_1_method_5_code
def yX8_tick : MethodName := ⟨RX8, "tick", "(I)I"⟩
abbrev cX8_session : ByteArray := prog_1_method_6_code
def yX8_session : MethodName := ⟨RX8, "session", "(I)I"⟩
abbrev cX8_activate : ByteArray := prog_1_method_7_code
def yX8_activate : MethodName := ⟨RX8, "activate", "(I)I"⟩
abbrev cX8_close : ByteArray := prog_1_method_8_code
def yX8_close : MethodName := ⟨RX8, "close", "(I)I"⟩
abbrev cX8_browse : ByteArray := prog_1_method_9_code
def yX8_browse : MethodName := ⟨RX8, "browse", "(IIIII)I"⟩
abbrev cX8_read : ByteArray := prog_1_method_10_code
def yX8_read : MethodName := ⟨RX8, "read", "(II)I"⟩
abbrev cX8_value : ByteArray := prog_1_method_11_code
def yX8_value : MethodName := ⟨RX8, "value", "()J"⟩
abbrev cX8_write : ByteArray := prog_1_method_12_code
def yX8_write : MethodName := ⟨RX8, "write", "(IIJ)I"⟩
abbrev cX8_subscribe : ByteArray := prog_1_method_13_code
def yX8_subscribe : MethodName := ⟨RX8, "subscribe", "(IIIII)I"⟩
abbrev cX8_modify : ByteArray := prog_1_method_14_code
def yX8_modify : MethodName := ⟨RX8, "modify", "(IIIIII)I"⟩
abbrev cX8_turn : ByteArray := prog_1_method_15_code
def yX8_turn : MethodName := ⟨RX8, "turn", "(IIZ)I"⟩
abbrev cX8_transfer : ByteArray := prog_1_method_16_code
def yX8_transfer : MethodName := ⟨RX8, "transfer", "(II)I"⟩
abbrev cX8_unsubscribe : ByteArray := prog_1_method_17_code
def yX8_unsubscribe : MethodName := ⟨RX8, "unsubscribe", "(II)I"⟩
abbrev cX8_item : ByteArray := prog_1_method_18_code
def yX8_item : MethodName := ⟨RX8, "item", "(IIIIIZIJ)I"⟩
abbrev cX8_mode : ByteArray := prog_1_method_19_code
def yX8_mode : MethodName := ⟨RX8, "mode", "(III)I"⟩
abbrev cX8_drop : ByteArray := prog_1_method_20_code
def yX8_drop : MethodName := ⟨RX8, "drop", "(II)I"⟩
abbrev cX8_publish : ByteArray := prog_1_method_21_code
def yX8_publish : MethodName := ⟨RX8, "publish", "(III)I"⟩
abbrev cX8_acknowledged : ByteArray := prog_1_method_22_code
def yX8_acknowledged : MethodName := ⟨RX8, "acknowledged", "()I"⟩
abbrev cX8_again : ByteArray := prog_1_method_23_code
def yX8_again : MethodName := ⟨RX8, "again", "(III)I"⟩
abbrev cX8_mail : ByteArray := prog_1_method_24_code
def yX8_mail : MethodName := ⟨RX8, "mail", "(II)I"⟩
abbrev cX8_message : ByteArray := prog_1_method_25_code
def yX8_message : MethodName := ⟨RX8, "message", "(II)I"⟩
abbrev cX8_entry : ByteArray := prog_1_method_26_code
def yX8_entry : MethodName := ⟨RX8, "entry", "(III)J"⟩
abbrev cX8_sessionOf : ByteArray := prog_1_method_27_code
def yX8_sessionOf : MethodName := ⟨RX8, "sessionOf", "(II)I"⟩
abbrev cX8_subscription : ByteArray := prog_1_method_28_code
def yX8_subscription : MethodName := ⟨RX8, "subscription", "(II)I"⟩
abbrev cX8_itemOf : ByteArray := prog_1_method_29_code
def yX8_itemOf : MethodName := ⟨RX8, "itemOf", "(II)I"⟩
abbrev cX8_status : ByteArray := prog_1_method_30_code
def yX8_status : MethodName := ⟨RX8, "status", "(I)I"⟩
abbrev cX8_isWithin : ByteArray := prog_1_method_31_code
def yX8_isWithin : MethodName := ⟨RX8, "isWithin", "(III)Z"⟩
abbrev cX8_isMultiple : ByteArray := prog_1_method_32_code
def yX8_isMultiple : MethodName := ⟨RX8, "isMultiple", "(II)Z"⟩
abbrev cX8_asNumber : ByteArray := prog_1_method_33_code
def yX8_asNumber : MethodName := ⟨RX8, "asNumber", "(Z)I"⟩
abbrev cX8_refuse : ByteArray := prog_1_method_34_code
def yX8_refuse : MethodName := ⟨RX8, "refuse", "(I)I"⟩
abbrev cX8_refuseSession : ByteArray := prog_1_method_35_code
def yX8_refuseSession : MethodName := ⟨RX8, "refuseSession", "(I)I"⟩
abbrev cX8_enter : ByteArray := prog_1_method_36_code
def yX8_enter : MethodName := ⟨RX8, "enter", "(I)LWatchServer$Session;"⟩
abbrev cX8_nodeAt : ByteArray := prog_1_method_37_code
def yX8_nodeAt : MethodName := ⟨RX8, "nodeAt", "(I)LWatchServer$Node;"⟩
abbrev cX8_variableAt : ByteArray := prog_1_method_38_code
def yX8_variableAt : MethodName := ⟨RX8, "variableAt", "(I)LWatchServer$Node;"⟩
abbrev cX8_sessionAt : ByteArray := prog_1_method_39_code
def yX8_sessionAt : MethodName := ⟨RX8, "sessionAt", "(I)LWatchServer$Session;"⟩
abbrev cX8_messageAt : ByteArray := prog_1_method_40_code
def yX8_messageAt : MethodName := ⟨RX8, "messageAt", "(I)LWatchServer$Message;"⟩
abbrev cX8_subscriptionAt : ByteArray := prog_1_method_41_code
def yX8_subscriptionAt : MethodName := ⟨RX8, "subscriptionAt", "(I)LWatchServer$Subscription;"⟩
abbrev cX8_subscriptionOf : ByteArray := prog_1_method_42_code
def yX8_subscriptionOf : MethodName := ⟨RX8, "subscriptionOf", "(LWatchServer$Session;I)LWatchServer$Subscription;"⟩
abbrev cX8_itemAt : ByteArray := prog_1_method_43_code
def yX8_itemAt : MethodName := ⟨RX8, "itemAt", "(I)LWatchServer$Item;"⟩
abbrev cX8_itemOfClient : ByteArray := prog_1_method_44_code
def yX8_itemOfClient : MethodName := ⟨RX8, "itemOfClient", "(LWatchServer$Session;I)LWatchServer$Item;"⟩
abbrev cX8_countOpenSessions : ByteArray := prog_1_method_45_code
def yX8_countOpenSessions : MethodName := ⟨RX8, "countOpenSessions", "()I"⟩
abbrev cX8_countSubscriptions : ByteArray := prog_1_method_46_code
def yX8_countSubscriptions : MethodName := ⟨RX8, "countSubscriptions", "(LWatchServer$Session;)I"⟩
abbrev cX8_countItems : ByteArray := prog_1_method_47_code
def yX8_countItems : MethodName := ⟨RX8, "countItems", "()I"⟩
abbrev cX8_sampleItems : ByteArray := prog_1_method_48_code
def yX8_sampleItems : MethodName := ⟨RX8, "sampleItems", "()V"⟩
abbrev cX8_serveSubscriptions : ByteArray := prog_1_method_49_code
def yX8_serveSubscriptions : MethodName := ⟨RX8, "serveSubscriptions", "()V"⟩
abbrev cX8_answerRequests : ByteArray := prog_1_method_50_code
def yX8_answerRequests : MethodName := ⟨RX8, "answerRequests", "(LWatchServer$Subscription;)V"⟩
abbrev cX8_fallShort : ByteArray := prog_1_method_51_code
def yX8_fallShort : MethodName := ⟨RX8, "fallShort", "(LWatchServer$Subscription;)V"⟩
abbrev cX8_send : ByteArray := prog_1_method_52_code
def yX8_send : MethodName := ⟨RX8, "send", "(LWatchServer$Subscription;)V"⟩
abbrev cX8_closeTimedOut : ByteArray := prog_1_method_53_code
def yX8_closeTimedOut : MethodName := ⟨RX8, "closeTimedOut", "()V"⟩
abbrev cX8_shut : ByteArray := prog_1_method_54_code
def yX8_shut : MethodName := ⟨RX8, "shut", "(LWatchServer$Session;)I"⟩
abbrev cX8_acknowledge : ByteArray := prog_1_method_55_code
def yX8_acknowledge : MethodName := ⟨RX8, "acknowledge", "(LWatchServer$Session;II)I"⟩
abbrev cX8_longestLate : ByteArray := prog_1_method_56_code
def yX8_longestLate : MethodName := ⟨RX8, "longestLate", "(LWatchServer$Session;)LWatchServer$Subscription;"⟩
abbrev cX8_firstWithMore : ByteArray := prog_1_method_57_code
def yX8_firstWithMore : MethodName := ⟨RX8, "firstWithMore", "(LWatchServer$Session;)LWatchServer$Subscription;"⟩
def RX9 : String := "WatchServerModel"
def TX9 : u_T := fun k => match k with
  | 0 => ("WatchServerModel", "time", "I", false)
  | 1 => ("WatchServerModel", "nodes", "I", false)
  | 2 => ("WatchServerModel", "kind", "[I", true)
  | 3 => ("WatchServerModel", "values", "[J", true)
  | 4 => ("WatchServerModel", "references", "I", false)
  | 5 => ("WatchServerModel", "refFrom", "[I", true)
  | 6 => ("WatchServerModel", "refTo", "[I", true)
  | 7 => ("WatchServerModel", "refType", "[I", true)
  | 8 => ("WatchServerModel", "sessions", "I", false)
  | 9 => ("WatchServerModel", "timeout", "[I", true)
  | 10 => ("WatchServerModel", "end", "[I", true)
  | 11 => ("WatchServerModel", "state", "[I", true)
  | 12 => ("WatchServerModel", "requests", "[I", true)
  | 13 => ("WatchServerModel", "mailMany", "[I", true)
  | 14 => ("WatchServerModel", "mails", "[I", true)
  | 15 => ("WatchServerModel", "subs", "I", false)
  | 16 => ("WatchServerModel", "subThere", "[Z", true)
  | 17 => ("WatchServerModel", "subSession", "[I", true)
  | 18 => ("WatchServerModel", "subBorn", "[I", true)
  | 19 => ("WatchServerModel", "period", "[I", true)
  | 20 => ("WatchServerModel", "keep", "[I", true)
  | 21 => ("WatchServerModel", "life", "[I", true)
  | 22 => ("WatchServerModel", "most", "[I", true)
  | 23 => ("WatchServerModel", "on", "[Z", true)
  | 24 => ("WatchServerModel", "next", "[I", true)
  | 25 => ("WatchServerModel", "keepLeft", "[I", true)
  | 26 => ("WatchServerModel", "lifeLeft", "[I", true)
  | 27 => ("WatchServerModel", "sent", "[Z", true)
  | 28 => ("WatchServerModel", "late", "[Z", true)
  | 29 => ("WatchServerModel", "lateOrder", "[I", true)
  | 30 => ("WatchServerModel", "lateCount", "I", false)
  | 31 => ("WatchServerModel", "hadMore", "[Z", true)
  | 32 => ("WatchServerModel", "items", "I", false)
  | 33 => ("WatchServerModel", "itemThere", "[Z", true)
  | 34 => ("WatchServerModel", "itemSub", "[I", true)
  | 35 => ("WatchServerModel", "itemNode", "[I", true)
  | 36 => ("WatchServerModel", "itemBorn", "[I", true)
  | 37 => ("WatchServerModel", "interval", "[I", true)
  | 38 => ("WatchServerModel", "size", "[I", true)
  | 39 => ("WatchServerModel", "oldest", "[Z", true)
  | 40 => ("WatchServerModel", "mode", "[I", true)
  | 41 => ("WatchServerModel", "band", "[J", true)
  | 42 => ("WatchServerModel", "taken", "[Z", true)
  | 43 => ("WatchServerModel", "last", "[J", true)
  | 44 => ("WatchServerModel", "queued", "[I", true)
  | 45 => ("WatchServerModel", "queue", "[J", true)
  | 46 => ("WatchServerModel", "queueTime", "[I", true)
  | 47 => ("WatchServerModel", "queueBit", "[I", true)
  | 48 => ("WatchServerModel", "messages", "I", false)
  | 49 => ("WatchServerModel", "messageSub", "[I", true)
  | 50 => ("WatchServerModel", "messageNumber", "[I", true)
  | 51 => ("WatchServerModel", "messageMany", "[I", true)
  | 52 => ("WatchServerModel", "messageMore", "[Z", true)
  | 53 => ("WatchServerModel", "messageTime", "[I", true)
  | 54 => ("WatchServerModel", "kept", "[Z", true)
  | 55 => ("WatchServerModel", "entryValue", "[J", true)
  | 56 => ("WatchServerModel", "entryItem", "[I", true)
  | 57 => ("WatchServerModel", "entryTime", "[I", true)
  | 58 => ("WatchServerModel", "entryBit", "[I", true)
  | 59 => ("WatchServerModel", "told", "J", false)
  | 60 => ("WatchServerModel", "acknowledged", "I", false)
  | _ => ("WatchServerModel", "refused", "[I", true)
def tyX9 : Nat → FieldType := fun k => match k with
  | 0 => .int
  | 1 => .int
  | 2 => .array .int
  | 3 => .array .long
  | 4 => .int
  | 5 => .array .int
  | 6 => .array .int
  | 7 => .array .int
  | 8 => .int
  | 9 => .array .int
  | 10 => .array .int
  | 11 => .array .int
  | 12 => .array .int
  | 13 => .array .int
  | 14 => .array .int
  | 15 => .int
  | 16 => .array .boolean
  | 17 => .array .int
  | 18 => .array .int
  | 19 => .array .int
  | 20 => .array .int
  | 21 => .array .int
  | 22 => .array .int
  | 23 => .array .boolean
  | 24 => .array .int
  | 25 => .array .int
  | 26 => .array .int
  | 27 => .array .boolean
  | 28 => .array .boolean
  | 29 => .array .int
  | 30 => .int
  | 31 => .array .boolean
  | 32 => .int
  | 33 => .array .boolean
  | 34 => .array .int
  | 35 => .array .int
  | 36 => .array .int
  | 37 => .array .int
  | 38 => .array .int
  | 39 => .array .boolean
  | 40 => .array .int
  | 41 => .array .long
  | 42 => .array .boolean
  | 43 => .array .long
  | 44 => .array .int
  | 45 => .array .long
  | 46 => .array .int
  | 47 => .array .int
  | 48 => .int
  | 49 => .array .int
  | 50 => .array .int
  | 51 => .array .int
  | 52 => .array .boolean
  | 53 => .array .int
  | 54 => .array .boolean
  | 55 => .array .long
  | 56 => .array .int
  | 57 => .array .int
  | 58 => .array .int
  | 59 => .long
  | 60 => .int
  | _ => .array .int
abbrev wsX90 : List Cond := u_ws RX9 TX9 62
theorem nmX9 : ∀ a, a < 62 → ∀ b, b < 62 → a ≠ b → (TX9 a).2.1 ≠ (TX9 b).2.1 := by decide +kernel
theorem tyX9_ok : ∀ k, k < 62 → parseFieldDescriptor (TX9 k).2.2.1 = some (tyX9 k) := by decide +kernel
abbrev cX9_init : ByteArray := prog_11_method_1_code
def yX9_init : MethodName := ⟨RX9, "<init>", "()V"⟩
abbrev cX9_in : ByteArray := prog_11_method_3_code
def yX9_in : MethodName := ⟨RX9, "in", "(JJJ)Z"⟩
abbrev cX9_refuse : ByteArray := prog_11_method_4_code
def yX9_refuse : MethodName := ⟨RX9, "refuse", "(I)I"⟩
abbrev cX9_node : ByteArray := prog_11_method_5_code
def yX9_node : MethodName := ⟨RX9, "node", "(I)I"⟩
abbrev cX9_isNode : ByteArray := prog_11_method_6_code
def yX9_isNode : MethodName := ⟨RX9, "isNode", "(I)Z"⟩
abbrev cX9_isVariable : ByteArray := prog_11_method_7_code
def yX9_isVariable : MethodName := ⟨RX9, "isVariable", "(I)Z"⟩
abbrev cX9_refer : ByteArray := prog_11_method_8_code
def yX9_refer : MethodName := ⟨RX9, "refer", "(III)I"⟩
abbrev cX9_change : ByteArray := prog_11_method_9_code
def yX9_change : MethodName := ⟨RX9, "change", "(IJ)I"⟩
abbrev cX9_sample : ByteArray := prog_11_method_10_code
def yX9_sample : MethodName := ⟨RX9, "sample", "(I)V"⟩
abbrev cX9_isReady : ByteArray := prog_11_method_11_code
def yX9_isReady : MethodName := ⟨RX9, "isReady", "(I)Z"⟩
abbrev cX9_toMail : ByteArray := prog_11_method_12_code
def yX9_toMail : MethodName := ⟨RX9, "toMail", "(II)V"⟩
abbrev cX9_dropKept : ByteArray := prog_11_method_13_code
def yX9_dropKept : MethodName := ⟨RX9, "dropKept", "(II)V"⟩
abbrev cX9_keptOf : ByteArray := prog_11_method_14_code
def yX9_keptOf : MethodName := ⟨RX9, "keptOf", "(I)I"⟩
abbrev cX9_shift : ByteArray := prog_11_method_15_code
def yX9_shift : MethodName := ⟨RX9, "shift", "(I)V"⟩
abbrev cX9_make : ByteArray := prog_11_method_16_code
def yX9_make : MethodName := ⟨RX9, "make", "(I)V"⟩
abbrev cX9_leftOf : ByteArray := prog_11_method_17_code
def yX9_leftOf : MethodName := ⟨RX9, "leftOf", "(I)Z"⟩
abbrev cX9_removeSub : ByteArray := prog_11_method_18_code
def yX9_removeSub : MethodName := ⟨RX9, "removeSub", "(I)V"⟩
abbrev cX9_shut : ByteArray := prog_11_method_19_code
def yX9_shut : MethodName := ⟨RX9, "shut", "(I)I"⟩
abbrev cX9_isShort : ByteArray := prog_11_method_20_code
def yX9_isShort : MethodName := ⟨RX9, "isShort", "(I)V"⟩
abbrev cX9_mayMake : ByteArray := prog_11_method_21_code
def yX9_mayMake : MethodName := ⟨RX9, "mayMake", "(I)Z"⟩
abbrev cX9_cycle : ByteArray := prog_11_method_22_code
def yX9_cycle : MethodName := ⟨RX9, "cycle", "(I)V"⟩
abbrev cX9_step : ByteArray := prog_11_method_23_code
def yX9_step : MethodName := ⟨RX9, "step", "()V"⟩
abbrev cX9_tick : ByteArray := prog_11_method_24_code
def yX9_tick : MethodName := ⟨RX9, "tick", "(I)I"⟩
abbrev cX9_session : ByteArray := prog_11_method_25_code
def yX9_session : MethodName := ⟨RX9, "session", "(I)I"⟩
abbrev cX9_activate : ByteArray := prog_11_method_26_code
def yX9_activate : MethodName := ⟨RX9, "activate", "(I)I"⟩
abbrev cX9_lacks : ByteArray := prog_11_method_27_code
def yX9_lacks : MethodName := ⟨RX9, "lacks", "(I)I"⟩
abbrev cX9_close : ByteArray := prog_11_method_28_code
def yX9_close : MethodName := ⟨RX9, "close", "(I)I"⟩
abbrev cX9_browse : ByteArray := prog_11_method_29_code
def yX9_browse : MethodName := ⟨RX9, "browse", "(IIIII)I"⟩
abbrev cX9_read : ByteArray := prog_11_method_30_code
def yX9_read : MethodName := ⟨RX9, "read", "(II)I"⟩
abbrev cX9_value : ByteArray := prog_11_method_31_code
def yX9_value : MethodName := ⟨RX9, "value", "()J"⟩
abbrev cX9_write : ByteArray := prog_11_method_32_code
def yX9_write : MethodName := ⟨RX9, "write", "(IIJ)I"⟩
abbrev cX9_areRight : ByteArray := prog_11_method_33_code
def yX9_areRight : MethodName := ⟨RX9, "areRight", "(IIII)Z"⟩
abbrev cX9_set : ByteArray := prog_11_method_34_code
def yX9_set : MethodName := ⟨RX9, "set", "(IIIII)V"⟩
abbrev cX9_subscribe : ByteArray := prog_11_method_35_code
def yX9_subscribe : MethodName := ⟨RX9, "subscribe", "(IIIII)I"⟩
abbrev cX9_lacksSub : ByteArray := prog_11_method_36_code
def yX9_lacksSub : MethodName := ⟨RX9, "lacksSub", "(II)I"⟩
abbrev cX9_modify : ByteArray := prog_11_method_37_code
def yX9_modify : MethodName := ⟨RX9, "modify", "(IIIIII)I"⟩
abbrev cX9_turn : ByteArray := prog_11_method_38_code
def yX9_turn : MethodName := ⟨RX9, "turn", "(IIZ)I"⟩
abbrev cX9_transfer : ByteArray := prog_11_method_39_code
def yX9_transfer : MethodName := ⟨RX9, "transfer", "(II)I"⟩
abbrev cX9_unsubscribe : ByteArray := prog_11_method_40_code
def yX9_unsubscribe : MethodName := ⟨RX9, "unsubscribe", "(II)I"⟩
abbrev cX9_item : ByteArray := prog_11_method_41_code
def yX9_item : MethodName := ⟨RX9, "item", "(IIIIIZIJ)I"⟩
abbrev cX9_lacksItem : ByteArray := prog_11_method_42_code
def yX9_lacksItem : MethodName := ⟨RX9, "lacksItem", "(II)I"⟩
abbrev cX9_mode : ByteArray := prog_11_method_43_code
def yX9_mode : MethodName := ⟨RX9, "mode", "(III)I"⟩
abbrev cX9_drop : ByteArray := prog_11_method_44_code
def yX9_drop : MethodName := ⟨RX9, "drop", "(II)I"⟩
abbrev cX9_findKept : ByteArray := prog_11_method_45_code
def yX9_findKept : MethodName := ⟨RX9, "findKept", "(II)I"⟩
abbrev cX9_acknowledge : ByteArray := prog_11_method_46_code
def yX9_acknowledge : MethodName := ⟨RX9, "acknowledge", "(III)I"⟩
abbrev cX9_publish : ByteArray := prog_11_method_47_code
def yX9_publish : MethodName := ⟨RX9, "publish", "(III)I"⟩
abbrev cX9_acknowledged : ByteArray := prog_11_method_48_code
def yX9_acknowledged : MethodName := ⟨RX9, "acknowledged", "()I"⟩
abbrev cX9_again : ByteArray := prog_11_method_49_code
def yX9_again : MethodName := ⟨RX9, "again", "(III)I"⟩
abbrev cX9_mail : ByteArray := prog_11_method_50_code
def yX9_mail : MethodName := ⟨RX9, "mail", "(II)I"⟩
abbrev cX9_message : ByteArray := prog_11_method_51_code
def yX9_message : MethodName := ⟨RX9, "message", "(II)I"⟩
abbrev cX9_entry : ByteArray := prog_11_method_52_code
def yX9_entry : MethodName := ⟨RX9, "entry", "(III)J"⟩
abbrev cX9_sessionOf : ByteArray := prog_11_method_53_code
def yX9_sessionOf : MethodName := ⟨RX9, "sessionOf", "(II)I"⟩
abbrev cX9_subscription : ByteArray := prog_11_method_54_code
def yX9_subscription : MethodName := ⟨RX9, "subscription", "(II)I"⟩
abbrev cX9_itemOf : ByteArray := prog_11_method_55_code
def yX9_itemOf : MethodName := ⟨RX9, "itemOf", "(II)I"⟩
abbrev cX9_status : ByteArray := prog_11_method_56_code
def yX9_status : MethodName := ⟨RX9, "status", "(I)I"⟩
def RJx145de : String := "java/io/Serializable"
def TJx145de : u_T := fun k => match k with
  | _ => ("", "", "", false)
def tyJx145de : Nat → FieldType := fun k => match k with
  | _ => .int
abbrev wsJx145de0 : List Cond := u_ws RJx145de TJx145de 0
theorem nmJx145de : ∀ a, a < 0 → ∀ b, b < 0 → a ≠ b → (TJx145de a).2.1 ≠ (TJx145de b).2.1 := by decide +kernel
theorem tyJx145de_ok : ∀ k, k < 0 → parseFieldDescriptor (TJx145de k).2.2.1 = some (tyJx145de k) := by decide +kernel
def RJx8e188 : String := "java/lang/Cloneable"
def TJx8e188 : u_T := fun k => match k with
  | _ => ("", "", "", false)
def tyJx8e188 : Nat → FieldType := fun k => match k with
  | _ => .int
abbrev wsJx8e1880 : List Cond := u_ws RJx8e188 TJx8e188 0
theorem nmJx8e188 : ∀ a, a < 0 → ∀ b, b < 0 → a ≠ b → (TJx8e188 a).2.1 ≠ (TJx8e188 b).2.1 := by decide +kernel
theorem tyJx8e188_ok : ∀ k, k < 0 → parseFieldDescriptor (TJx8e188 k).2.2.1 = some (tyJx8e188 k) := by decide +kernel
def RJxab1ab : String := "java/lang/Iterable"
def TJxab1ab : u_T := fun k => match k with
  | _ => ("", "", "", false)
def tyJxab1ab : Nat → FieldType := fun k => match k with
  | _ => .int
abbrev wsJxab1ab0 : List Cond := u_ws RJxab1ab TJxab1ab 0
theorem nmJxab1ab : ∀ a, a < 0 → ∀ b, b < 0 → a ≠ b → (TJxab1ab a).2.1 ≠ (TJxab1ab b).2.1 := by decide +kernel
theorem tyJxab1ab_ok : ∀ k, k < 0 → parseFieldDescriptor (TJxab1ab k).2.2.1 = some (tyJxab1ab k) := by decide +kernel
def RJ9 : String := "java/lang/Math"
def TJ9 : u_T := fun k => match k with
  | _ => ("", "", "", false)
def tyJ9 : Nat → FieldType := fun k => match k with
  | _ => .int
abbrev wsJ90 : List Cond := u_ws RJ9 TJ9 0
theorem nmJ9 : ∀ a, a < 0 → ∀ b, b < 0 → a ≠ b → (TJ9 a).2.1 ≠ (TJ9 b).2.1 := by decide +kernel
theorem tyJ9_ok : ∀ k, k < 0 → parseFieldDescriptor (TJ9 k).2.2.1 = some (tyJ9 k) := by decide +kernel
abbrev cJ9_max_7cf53 : ByteArray := prog_15_method_65_code
def yJ9_max_7cf53 : MethodName := ⟨RJ9, "max", "(II)I"⟩
abbrev cJ9_max_f86c9 : ByteArray := prog_15_method_66_code
def yJ9_max_f86c9 : MethodName := ⟨RJ9, "max", "(JJ)J"⟩
abbrev cJ9_min_7cf53 : ByteArray := prog_15_method_69_code
def yJ9_min_7cf53 : MethodName := ⟨RJ9, "min", "(II)I"⟩
abbrev cJ9_min_f86c9 : ByteArray := prog_15_method_70_code
def yJ9_min_f86c9 : MethodName := ⟨RJ9, "min", "(JJ)J"⟩
def RJ10 : String := "java/lang/System"
def TJ10 : u_T := fun k => match k with
  | _ => ("", "", "", false)
def tyJ10 : Nat → FieldType := fun k => match k with
  | _ => .int
abbrev wsJ100 : List Cond := u_ws RJ10 TJ10 0
theorem nmJ10 : ∀ a, a < 0 → ∀ b, b < 0 → a ≠ b → (TJ10 a).2.1 ≠ (TJ10 b).2.1 := by decide +kernel
theorem tyJ10_ok : ∀ k, k < 0 → parseFieldDescriptor (TJ10 k).2.2.1 = some (tyJ10 k) := by decide +kernel
def RJxa1e45 : String := "java/util/AbstractCollection"
def TJxa1e45 : u_T := fun k => match k with
  | _ => ("", "", "", false)
def tyJxa1e45 : Nat → FieldType := fun k => match k with
  | _ => .int
abbrev wsJxa1e450 : List Cond := u_ws RJxa1e45 TJxa1e45 0
theorem nmJxa1e45 : ∀ a, a < 0 → ∀ b, b < 0 → a ≠ b → (TJxa1e45 a).2.1 ≠ (TJxa1e45 b).2.1 := by decide +kernel
theorem tyJxa1e45_ok : ∀ k, k < 0 → parseFieldDescriptor (TJxa1e45 k).2.2.1 = some (tyJxa1e45 k) := by decide +kernel
abbrev cJxa1e45_init_da8c8 : ByteArray := prog_17_method_1_code
def yJxa1e45_init_da8c8 : MethodName := ⟨RJxa1e45, "<init>", "()V"⟩
def RJxc12de : String := "java/util/AbstractList"
def TJxc12de : u_T := fun k => match k with
  | _ => ("", "", "", false)
def tyJxc12de : Nat → FieldType := fun k => match k with
  | _ => .int
abbrev wsJxc12de0 : List Cond := u_ws RJxc12de TJxc12de 0
theorem nmJxc12de : ∀ a, a < 0 → ∀ b, b < 0 → a ≠ b → (TJxc12de a).2.1 ≠ (TJxc12de b).2.1 := by decide +kernel
theorem tyJxc12de_ok : ∀ k, k < 0 → parseFieldDescriptor (TJxc12de k).2.2.1 = some (tyJxc12de k) := by decide +kernel
abbrev cJxc12de_init_da8c8 : ByteArray := prog_18_method_1_code
def yJxc12de_init_da8c8 : MethodName := ⟨RJxc12de, "<init>", "()V"⟩
def RJx4a65c : String := "java/util/ArrayList"
def TJx4a65c : u_T := fun k => match k with
  | 0 => ("java/util/AbstractList", "modCount", "I", false)
  | 1 => ("java/util/ArrayList", "elementData", "[Ljava/lang/Object;", false)
  | _ => ("java/util/ArrayList", "size", "I", false)
def tyJx4a65c : Nat → FieldType := fun k => match k with
  | 0 => .int
  | 1 => .array (.object "java/lang/Object")
  | _ => .int
abbrev wsJx4a65c0 : List Cond := u_ws RJx4a65c TJx4a65c 3
theorem nmJx4a65c : ∀ a, a < 3 → ∀ b, b < 3 → a ≠ b → (TJx4a65c a).2.1 ≠ (TJx4a65c b).2.1 := by decide +kernel
theorem tyJx4a65c_ok : ∀ k, k < 3 → parseFieldDescriptor (TJx4a65c k).2.2.1 = some (tyJx4a65c k) := by decide +kernel
abbrev cJx4a65c_init_da8c8 : ByteArray := prog_19_method_2_code
def yJx4a65c_init_da8c8 : MethodName := ⟨RJx4a65c, "<init>", "()V"⟩
abbrev cJx4a65c_grow_92f84 : ByteArray := prog_19_method_6_code
def yJx4a65c_grow_92f84 : MethodName := ⟨RJx4a65c, "grow", "(I)[Ljava/lang/Object;"⟩
abbrev cJx4a65c_grow_d5877 : ByteArray := prog_19_method_7_code
def yJx4a65c_grow_d5877 : MethodName := ⟨RJx4a65c, "grow", "()[Ljava/lang/Object;"⟩
abbrev cJx4a65c_size_8abf5 : ByteArray := prog_19_method_8_code
def yJx4a65c_size_8abf5 : MethodName := ⟨RJx4a65c, "size", "()I"⟩
abbrev cJx4a65c_isEmpty_aae02 : ByteArray := prog_19_method_9_code
def yJx4a65c_isEmpty_aae02 : MethodName := ⟨RJx4a65c, "isEmpty", "()Z"⟩
abbrev cJx4a65c_elementData_915e3 : ByteArray := prog_19_method_18_code
def yJx4a65c_elementData_915e3 : MethodName := ⟨RJx4a65c, "elementData", "(I)Ljava/lang/Object;"⟩
abbrev cJx4a65c_get_915e3 : ByteArray := prog_19_method_20_code
def yJx4a65c_get_915e3 : MethodName := ⟨RJx4a65c, "get", "(I)Ljava/lang/Object;"⟩
abbrev cJx4a65c_set_bcc79 : ByteArray := prog_19_method_23_code
def yJx4a65c_set_bcc79 : MethodName := ⟨RJx4a65c, "set", "(ILjava/lang/Object;)Ljava/lang/Object;"⟩
abbrev cJx4a65c_add_72be8 : ByteArray := prog_19_method_24_code
def yJx4a65c_add_72be8 : MethodName := ⟨RJx4a65c, "add", "(Ljava/lang/Object;[Ljava/lang/Object;I)V"⟩
abbrev cJx4a65c_add_9ea2d : ByteArray := prog_19_method_25_code
def yJx4a65c_add_9ea2d : MethodName := ⟨RJx4a65c, "add", "(Ljava/lang/Object;)Z"⟩
abbrev cJx4a65c_remove_915e3 : ByteArray := prog_19_method_29_code
def yJx4a65c_remove_915e3 : MethodName := ⟨RJx4a65c, "remove", "(I)Ljava/lang/Object;"⟩
abbrev cJx4a65c_fastRemove_b59b0 : ByteArray := prog_19_method_39_code
def yJx4a65c_fastRemove_b59b0 : MethodName := ⟨RJx4a65c, "fastRemove", "([Ljava/lang/Object;I)V"⟩
abbrev cJx4a65c_clear_da8c8 : ByteArray := prog_19_method_40_code
def yJx4a65c_clear_da8c8 : MethodName := ⟨RJx4a65c, "clear", "()V"⟩
def RJ7 : String := "java/util/Arrays"
def TJ7 : u_T := fun k => match k with
  | _ => ("", "", "", false)
def tyJ7 : Nat → FieldType := fun k => match k with
  | _ => .int
abbrev wsJ70 : List Cond := u_ws RJ7 TJ7 0
theorem nmJ7 : ∀ a, a < 0 → ∀ b, b < 0 → a ≠ b → (TJ7 a).2.1 ≠ (TJ7 b).2.1 := by decide +kernel
theorem tyJ7_ok : ∀ k, k < 0 → parseFieldDescriptor (TJ7 k).2.2.1 = some (tyJ7 k) := by decide +kernel
abbrev cJ7_copyOf_1904c : ByteArray := prog_20_method_119_code
def yJ7_copyOf_1904c : MethodName := ⟨RJ7, "copyOf", "([Ljava/lang/Object;I)[Ljava/lang/Object;"⟩
abbrev cJ7_copyOf_6403c : ByteArray := prog_20_method_120_code
def yJ7_copyOf_6403c : MethodName := ⟨RJ7, "copyOf", "([Ljava/lang/Object;ILjava/lang/Class;)[Ljava/lang/Object;"⟩
def RJx5ef63 : String := "java/util/Collection"
def TJx5ef63 : u_T := fun k => match k with
  | _ => ("", "", "", false)
def tyJx5ef63 : Nat → FieldType := fun k => match k with
  | _ => .int
abbrev wsJx5ef630 : List Cond := u_ws RJx5ef63 TJx5ef63 0
theorem nmJx5ef63 : ∀ a, a < 0 → ∀ b, b < 0 → a ≠ b → (TJx5ef63 a).2.1 ≠ (TJx5ef63 b).2.1 := by decide +kernel
theorem tyJx5ef63_ok : ∀ k, k < 0 → parseFieldDescriptor (TJx5ef63 k).2.2.1 = some (tyJx5ef63 k) := by decide +kernel
def RJxbd725 : String := "java/util/List"
def TJxbd725 : u_T := fun k => match k with
  | _ => ("", "", "", false)
def tyJxbd725 : Nat → FieldType := fun k => match k with
  | _ => .int
abbrev wsJxbd7250 : List Cond := u_ws RJxbd725 TJxbd725 0
theorem nmJxbd725 : ∀ a, a < 0 → ∀ b, b < 0 → a ≠ b → (TJxbd725 a).2.1 ≠ (TJxbd725 b).2.1 := by decide +kernel
theorem tyJxbd725_ok : ∀ k, k < 0 → parseFieldDescriptor (TJxbd725 k).2.2.1 = some (tyJxbd725 k) := by decide +kernel
def RJ15 : String := "java/util/Objects"
def TJ15 : u_T := fun k => match k with
  | _ => ("", "", "", false)
def tyJ15 : Nat → FieldType := fun k => match k with
  | _ => .int
abbrev wsJ150 : List Cond := u_ws RJ15 TJ15 0
theorem nmJ15 : ∀ a, a < 0 → ∀ b, b < 0 → a ≠ b → (TJ15 a).2.1 ≠ (TJ15 b).2.1 := by decide +kernel
theorem tyJ15_ok : ∀ k, k < 0 → parseFieldDescriptor (TJ15 k).2.2.1 = some (tyJ15 k) := by decide +kernel
abbrev cJ15_checkIndex_7cf53 : ByteArray := prog_23_method_17_code
def yJ15_checkIndex_7cf53 : MethodName := ⟨RJ15, "checkIndex", "(II)I"⟩
def RJxf0a74 : String := "java/util/RandomAccess"
def TJxf0a74 : u_T := fun k => match k with
  | _ => ("", "", "", false)
def tyJxf0a74 : Nat → FieldType := fun k => match k with
  | _ => .int
abbrev wsJxf0a740 : List Cond := u_ws RJxf0a74 TJxf0a74 0
theorem nmJxf0a74 : ∀ a, a < 0 → ∀ b, b < 0 → a ≠ b → (TJxf0a74 a).2.1 ≠ (TJxf0a74 b).2.1 := by decide +kernel
theorem tyJxf0a74_ok : ∀ k, k < 0 → parseFieldDescriptor (TJxf0a74 k).2.2.1 = some (tyJxf0a74 k) := by decide +kernel
def RJxa66e6 : String := "java/util/SequencedCollection"
def TJxa66e6 : u_T := fun k => match k with
  | _ => ("", "", "", false)
def tyJxa66e6 : Nat → FieldType := fun k => match k with
  | _ => .int
abbrev wsJxa66e60 : List Cond := u_ws RJxa66e6 TJxa66e6 0
theorem nmJxa66e6 : ∀ a, a < 0 → ∀ b, b < 0 → a ≠ b → (TJxa66e6 a).2.1 ≠ (TJxa66e6 b).2.1 := by decide +kernel
theorem tyJxa66e6_ok : ∀ k, k < 0 → parseFieldDescriptor (TJxa66e6 k).2.2.1 = some (tyJxa66e6 k) := by decide +kernel
def RJ8 : String := "jdk/internal/util/ArraysSupport"
def TJ8 : u_T := fun k => match k with
  | _ => ("", "", "", false)
def tyJ8 : Nat → FieldType := fun k => match k with
  | _ => .int
abbrev wsJ80 : List Cond := u_ws RJ8 TJ8 0
theorem nmJ8 : ∀ a, a < 0 → ∀ b, b < 0 → a ≠ b → (TJ8 a).2.1 ≠ (TJ8 b).2.1 := by decide +kernel
theorem tyJ8_ok : ∀ k, k < 0 → parseFieldDescriptor (TJ8 k).2.2.1 = some (tyJ8 k) := by decide +kernel
abbrev cJ8_newLength_cabcc : ByteArray := prog_26_method_27_code
def yJ8_newLength_cabcc : MethodName := ⟨RJ8, "newLength", "(III)I"⟩
abbrev cJ8_hugeLength_7cf53 : ByteArray := prog_26_method_28_code
def yJ8_hugeLength_7cf53 : MethodName := ⟨RJ8, "hugeLength", "(II)I"⟩
def RJ3 : String := "jdk/internal/util/Preconditions"
def TJ3 : u_T := fun k => match k with
  | _ => ("", "", "", false)
def tyJ3 : Nat → FieldType := fun k => match k with
  | _ => .int
abbrev wsJ30 : List Cond := u_ws RJ3 TJ3 0
theorem nmJ3 : ∀ a, a < 0 → ∀ b, b < 0 → a ≠ b → (TJ3 a).2.1 ≠ (TJ3 b).2.1 := by decide +kernel
theorem tyJ3_ok : ∀ k, k < 0 → parseFieldDescriptor (TJ3 k).2.2.1 = some (tyJ3 k) := by decide +kernel
abbrev cJ3_checkIndex_8e157 : ByteArray := prog_27_method_11_code
def yJ3_checkIndex_8e157 : MethodName := ⟨RJ3, "checkIndex", "(IILjava/util/function/BiFunction;)I"⟩
def RL : String := "WatchServerLaw"
abbrev cL_law : ByteArray := code
def yL_law : MethodName := ⟨RL, "law", "([I)Z"⟩
abbrev vwCl : List vw_C := [(RJx4a65c, TJx4a65c, 3), (RX0, TX0, 4), (RX1, TX1, 11), (RX2, TX2, 7), (RX3, TX3, 3), (RX4, TX4, 3), (RX5, TX5, 3), (RX6, TX6, 6), (RX7, TX7, 18), (RX8, TX8, 11), (RX9, TX9, 62)]
end
section
/-! THE WORDS: all of the tables' that keep over a call -/
def wsA : List Cond := lw_tbl.filter goodWord
theorem inA {w : Cond} (h : w ∈ tables_1) (g : goodWord w = true) : w ∈ wsA := List.mem_filter.mpr ⟨List.mem_append_right _ h, g⟩
theorem inP {w : Cond} (h : w ∈ k2_sels lw_privs) (g : goodWord w = true) : w ∈ wsA := List.mem_filter.mpr ⟨List.mem_append_left _ h, g⟩
theorem inA1 {w : Cond} (i : Nat) (h : tables_1_1[i]? = some w) (g : goodWord w = true) : w ∈ wsA := inA (List.mem_append_left _ (List.mem_of_getElem? h)) g
theorem inA2 {w : Cond} (i : Nat) (h : tables_1_2[i]? = some w) (g : goodWord w = true) : w ∈ wsA := inA (List.mem_append_right _ (List.mem_append_left _ (List.mem_of_getElem? h))) g
theorem inA3 {w : Cond} (i : Nat) (h : tables_1_3[i]? = some w) (g : goodWord w = true) : w ∈ wsA := inA (List.mem_append_right _ (List.mem_append_right _ (List.mem_append_left _ (List.mem_of_getElem? h)))) g
theorem inA4 {w : Cond} (i : Nat) (h : tables_1_4[i]? = some w) (g : goodWord w = true) : w ∈ wsA := inA (List.mem_append_right _ (List.mem_append_right _ (List.mem_append_right _ (List.mem_append_left _ (List.mem_of_getElem? h))))) g
theorem inA5 {w : Cond} (i : Nat) (h : tables_1_5[i]? = some w) (g : goodWord w = true) : w ∈ wsA := inA (List.mem_append_right _ (List.mem_append_right _ (List.mem_append_right _ (List.mem_append_right _ (List.mem_append_left _ (List.mem_of_getElem? h)))))) g
theorem inA6 {w : Cond} (i : Nat) (h : tables_1_6[i]? = some w) (g : goodWord w = true) : w ∈ wsA := inA (List.mem_append_right _ (List.mem_append_right _ (List.mem_append_right _ (List.mem_append_right _ (List.mem_append_right _ (List.mem_of_getElem? h)))))) g
theorem inQ {w : Cond} (i : Nat) (h : (k2_sels lw_privs)[i]? = some w) (g : goodWord w = true) : w ∈ wsA := inP (List.mem_of_getElem? h) g
theorem wsA_good : GoodIn wsA wsA := fun w h => ⟨h, good_of_word (List.mem_filter.mp h).2⟩
theorem wsA_code {w : Cond} (h : w ∈ wsA) : GoodIn wsA (w :: wsA) := fun u hu => (List.mem_cons.mp hu).elim (fun e => e ▸ wsA_good w h) (wsA_good u)
/-! THE IDEAL HEAP. Objects and arrays stand at ideal addresses kd kind index generation; a renaming ρ takes them to the machine's. -/
theorem kd_pw : ∀ (a b x y : Nat), 2 ^ a * (2 * x + 1) = 2 ^ b * (2 * y + 1) → a = b ∧ x = y
  | 0, 0, x, y, h => by simp at h; omega
  | 0, b + 1, x, y, h => by
    exfalso
    have e : 2 ^ (b + 1) * (2 * y + 1) = 2 * (2 ^ b * (2 * y + 1)) := by rw [Nat.pow_succ, Nat.mul_comm (2 ^ b) 2, Nat.mul_assoc]
    rw [e] at h
    simp at h
    omega
  | a + 1, 0, x, y, h => by
    exfalso
    have e : 2 ^ (a + 1) * (2 * x + 1) = 2 * (2 ^ a * (2 * x + 1)) := by rw [Nat.pow_succ, Nat.mul_comm (2 ^ a) 2, Nat.mul_assoc]
    rw [e] at h
    simp at h
    omega
  | a + 1, b + 1, x, y, h => by
    have e : 2 ^ (a + 1) * (2 * x + 1) = 2 * (2 ^ a * (2 * x + 1)) := by rw [Nat.pow_succ, Nat.mul_comm (2 ^ a) 2, Nat.mul_assoc]
    have f : 2 ^ (b + 1) * (2 * y + 1) = 2 * (2 ^ b * (2 * y + 1)) := by rw [Nat.pow_succ, Nat.mul_comm (2 ^ b) 2, Nat.mul_assoc]
    rw [e, f] at h
    obtain ⟨h1, h2⟩ := kd_pw a b x y (Nat.eq_of_mul_eq_mul_left (by decide) h)
    exact ⟨by rw [h1], h2⟩
def kd (k i g : Nat) : Nat := 2 ^ k * (2 * (2 ^ i * (2 * g + 1)) + 1)
theorem kd_eq {k i g k' i' g' : Nat} : kd k i g = kd k' i' g' ↔ k = k' ∧ i = i' ∧ g = g' := by
  constructor
  · intro h
    obtain ⟨h1, h2⟩ := kd_pw _ _ _ _ h
    obtain ⟨h3, h4⟩ := kd_pw _ _ _ _ h2
    exact ⟨h1, h3, h4⟩
  · rintro ⟨rfl, rfl, rfl⟩
    rfl
theorem kd_ne {k i g k' i' g' : Nat} (h : ¬ (k = k' ∧ i = i' ∧ g = g')) : kd k i g ≠ kd k' i' g' := fun q => h (kd_eq.mp q)
theorem kd_nk {k i g k' i' g' : Nat} (h : k ≠ k') : kd k i g ≠ kd k' i' g' := kd_ne fun q => h q.1
theorem kd_ni {k i g k' i' g' : Nat} (h : i ≠ i') : kd k i g ≠ kd k' i' g' := kd_ne fun q => h q.2.1
theorem kd_ng {k i g k' i' g' : Nat} (h : g ≠ g') : kd k i g ≠ kd k' i' g' := kd_ne fun q => h q.2.2
abbrev aO : Type := (Nat × vp_A) ⊕ (Nat × List Value)
abbrev aH : Type := Nat → Option aO
/-- a heap with one more, or another, cell -/
def hu (I : aH) (α : Nat) (o : aO) : aH := fun β => if β = α then some o else I β
theorem hu_s {I : aH} {α : Nat} {o : aO} : hu I α o α = some o := if_pos rfl
theorem hu_n {I : aH} {α β : Nat} {o : aO} (h : β ≠ α) : hu I α o β = I β := if_neg h
def zed : Nat := kd 0 0 0
def mirr : Nat := kd 0 1 0
def scr : Nat := kd 0 2 0
def ro (α : Nat) : Prop := α = zed ∨ α = scr
theorem ro_k {k i g : Nat} (h : k ≠ 0) : ¬ ro (kd k i g) := fun q => q.elim (kd_nk h) (kd_nk h)
def cv (ρ : Nat → Nat) : Value → Value
  | .ref a => .ref (ρ a)
  | v => v
def cA (ρ : Nat → Nat) (a : vp_A) : vp_A := (a.1, match a.2 with
  | .inr (.inr (.inr (.inr f))) => .inr (.inr (.inr (.inr (fun j => (f j).map ρ))))
  | x => x)
def cE (tC : Nat → ClassId) (ρ : Nat → Nat) : aO → va_E
  | .inl a => .inl (tC a.1, cA ρ a.2)
  | .inr o => .inr (o.1, o.2.map (cv ρ))
def dm (I : aH) (α : Nat) : Prop := I α ≠ none ∨ α = mirr
def clV (I : aH) (v : Value) : Prop := ∀ α, v = .ref α → dm I α
def clO (I : aH) (o : aO) : Prop := (∀ (t n : Nat) (f : Nat → Option Nat), o = .inl (t, n, .inr (.inr (.inr (.inr f)))) → ∀ (j α : Nat), f j = some α → dm I α) ∧ (∀ (c : Nat) (fs : List Value), o = .inr (c, fs) → ∀ v ∈ fs, clV I v)
abbrev aR (n : Nat) (f : Nat → Option Nat) : vp_A := (n, .inr (.inr (.inr (.inr f))))
abbrev aI (n : Nat) (f : Nat → Int32) : vp_A := (n, .inl f)
abbrev aL (n : Nat) (f : Nat → Int64) : vp_A := (n, .inr (.inl f))
abbrev sOb : String := "java/lang/Object"
def tyL (tC : Nat → ClassId) : List (ClassId × FieldType) := [(tC 0, .int), (tC 1, .long), (tC 2, .boolean), (tC 3, .object sOb), (tC 4, .object RX0)]
def nwL : List Cond := [.castable RX0 sOb, .castable RX1 sOb, .castable RX2 sOb, .castable RX3 sOb, .castable RX5 sOb, .castable RX6 sOb, .castable RX7 sOb, .methodLinkNest RX7 49 yX8_isWithin RX8, .methodLinkNest RX1 48 yX8_isWithin RX8, .declares ⟨sOb, "getClass", "()Ljava/lang/Class;"⟩]
/-- what the machine's tables say, at any state -/
def okU (D : va_G) (tC : Nat → ClassId) (mi : Nat) (U : State) : Prop := va_K D vwCl (tyL tC) U ∧ (∀ w ∈ nwL, va_Nw w U) ∧ va_AO sOb U ∧ va_AO RX0 U ∧ va_Mi "[Ljava/lang/Object;" mi U
theorem okU.warm {D : va_G} {tC : Nat → ClassId} {mi : Nat} {s U : State} (hW : s.WarmedH U.vm) (h : okU D tC mi s) : okU D tC mi U := by
  obtain ⟨h1, h2, h3, h4, h5⟩ := h
  refine ⟨va_K.moved hW.alike h1, ?_, va_AO.moved hW.alike h3, va_AO.moved hW.alike h4, va_Mi.moved hW.alike h5⟩
  intro w hw
  have hz := h2 w hw
  simp only [nwL, List.mem_cons, List.not_mem_nil, or_false] at hw
  rcases hw with rfl | rfl | rfl | rfl | rfl | rfl | rfl | rfl | rfl | rfl
  · exact va_Nw.warmC hW hz
  · exact va_Nw.warmC hW hz
  · exact va_Nw.warmC hW hz
  · exact va_Nw.warmC hW hz
  · exact va_Nw.warmC hW hz
  · exact va_Nw.warmC hW hz
  · exact va_Nw.warmC hW hz
  · exact va_Nw.warmM hW hz
  · exact va_Nw.warmM hW hz
  · exact va_Nw.warmD hW hz
abbrev vaZ (ρ : Nat → Nat) (A : Nat → Prop) (U : State) (H : Heap) : Prop := va_Z "java/util/ArrayList" "DEFAULTCAPACITY_EMPTY_ELEMENTDATA" "[Ljava/lang/Object;" (.ref (ρ zed)) A U H
/-- the machine's heap H is the ideal heap I, by ρ; what may be written lies in A -/
def okH (D : va_G) (tC : Nat → ClassId) (A : Nat → Prop) (ρ : Nat → Nat) (I : aH) (U : State) (H : Heap) : Prop :=
  (∀ α o, I α = some o → va_at D vwCl (ρ α, cE tC ρ o) H) ∧ (∀ α β, I α ≠ none → I β ≠ none → ρ α = ρ β → α = β) ∧ (∀ α o, I α = some o → clO I o) ∧
  (∀ α, I α ≠ none → ro α ∨ A (ρ α)) ∧ (∀ q, H.size ≤ q → A q) ∧ vaZ ρ A U H ∧ I zed = some (.inl (3, aR 0 (fun _ => none))) ∧ I mirr = none
/-- ρ, I go on from ρ0, I0 -/
def ext (ρ0 : Nat → Nat) (I0 : aH) (ρ : Nat → Nat) (I : aH) : Prop := (∀ α, dm I0 α → ρ α = ρ0 α) ∧ (∀ α, I0 α ≠ none → I α ≠ none) ∧ (∀ α, ro α → I α = I0 α)
theorem ext.rf {ρ : Nat → Nat} {I : aH} : ext ρ I ρ I := ⟨fun _ _ => rfl, fun _ h => h, fun _ _ => rfl⟩
theorem ext.tr {ρ0 ρ1 ρ2 : Nat → Nat} {I0 I1 I2 : aH} (h : ext ρ0 I0 ρ1 I1) (k : ext ρ1 I1 ρ2 I2) : ext ρ0 I0 ρ2 I2 := by
  refine ⟨fun α hα => ?_, fun α hα => k.2.1 α (h.2.1 α hα), fun α hα => (k.2.2 α hα).trans (h.2.2 α hα)⟩
  rw [k.1 α (hα.elim (fun q => Or.inl (h.2.1 α q)) Or.inr), h.1 α hα]
def hasL (ρ : Nat → Nat) (nL : Nat) (ls : Array Slot) (lv : List (Option Value)) : Prop := ls.size = nL ∧ lv_wf ls ∧ ∀ (k : Nat) (v : Value), lv[k]? = some (some v) → ls[k]? = some (.val (cv ρ v))
def clL (I : aH) (lv : List (Option Value)) : Prop := ∀ v, some v ∈ lv → clV I v
def clS (I : aH) (st : List Value) : Prop := ∀ v ∈ st, clV I v
abbrev Zt : Type := Program × Launch × Env × Room × State × MethodId × Array Value × List Frame × Method × Code × (State → Prop) × va_G × (Nat → ClassId) × (Nat → Prop) × (Nat → Nat) × aH
/-- the machine comes to Z's end from here, whatever the real heap is that I stands for -/
def V (Z : Zt) (nL : Nat) (I : aH) (lv : List (Option Value)) (st : List Value) (cells slots pc : Nat) : Prop :=
  match Z with
  | (p, l, e, R, s, m, args, below, meth, c, Q, D, tC, A, ρ0, I0) => ∀ (ρ : Nat → Nat) (H : Heap) (locs : List Loc) (ls : Array Slot), okH D tC A ρ I s H → ext ρ0 I0 ρ I → (∀ q ∈ locs, A q.base) → hasL ρ nL ls lv → clL I lv → clS I st →
    W p l e R s m args below meth c H locs cells slots Q (F0 m pc ls (st.map (cv ρ)))
/-- a method's end -/
def QcV (D : va_G) (tC : Nat → ClassId) (A : Nat → Prop) (ρ0 : Nat → Nat) (I0 : aH) (Post : Option Value → aH → Prop) : Array Value → State → Outcome → State → Prop := fun _ _ o t =>
  ∃ (r : Option Value) (I : aH) (ρ : Nat → Nat), o = .returned (r.map (cv ρ)) ∧ Post r I ∧ okH D tC A ρ I t t.heap ∧ ext ρ0 I0 ρ I ∧ (∀ v, r = some v → clV I v)
/-- what stands fast in a method's walk -/
def Fx (Z : Zt) (l0 : Launch) (R0 : Room) (cc : ByteArray) (nL : Nat) (own : String) (ret : Option FieldType) (Post : Option Value → aH → Prop) : Prop :=
  match Z with
  | (p, l, _, R, s, m, args, below, meth, c, Q, D, tC, A, ρ0, I0) => (p.tables.exec = Jvm.exec ∧ c.code = cc ∧ c.maxLocals = nL ∧ s.vm.findClass own = some m.cls ∧ ∀ w ∈ wsA, w.before args s = true) ∧ okU D tC (ρ0 mirr) s ∧ meth.locks = false ∧ meth.sig.returnType = ret ∧ l = l0 ∧ R = R0 ∧
    Q = MQ below (QcV D tC A ρ0 I0 Post) args s R0.cells R0.slots A
/-- the contract of a method at given arguments and heap -/
def AM (l : Launch) (y : MethodName) (cc : ByteArray) (maxL : Nat) (ret : Option FieldType) (rm : Room) (av : List Value) (I0 : aH) (Post : Option Value → aH → Prop) : Prop :=
  ∀ (D : va_G) (tC : Nat → ClassId) (A : Nat → Prop) (ρ0 : Nat → Nat), clS I0 av → Met l y (.code y cc maxL ret :: wsA) rm (fun a U => a = (av.map (cv ρ0)).toArray ∧ okH D tC A ρ0 I0 U U.heap ∧ okU D tC (ρ0 mirr) U) (QcV D tC A ρ0 I0 Post) rm.cells rm.slots A
theorem cv_cat (ρ : Nat → Nat) (v : Value) : (cv ρ v).category = v.category := by cases v <;> rfl
theorem clS_tl {I : aH} {v : Value} {st : List Value} (h : clS I (v :: st)) : clS I st := fun w hw => h w (List.mem_cons_of_mem _ hw)
theorem clS_hd {I : aH} {v : Value} {st : List Value} (h : clS I (v :: st)) : clV I v := h v List.mem_cons_self
theorem clS_cons {I : aH} {v : Value} {st : List Value} (h1 : clV I v) (h : clS I st) : clS I (v :: st) := fun w hw => (List.mem_cons.mp hw).elim (fun e => e ▸ h1) (h w)
theorem clV_i {I : aH} {x : Int32} : clV I (.int x) := fun _ h => by cases h
theorem clV_l {I : aH} {x : Int64} : clV I (.long x) := fun _ h => by cases h
theorem clV_n {I : aH} : clV I .null := fun _ h => by cases h
theorem clV_r {I : aH} {α : Nat} (h : I α ≠ none) : clV I (.ref α) := fun _ q => by cases q; exact Or.inl h
theorem clL_at {I : aH} {lv : List (Option Value)} {k : Nat} {v : Value} (h : clL I lv) (hk : lv[k]? = some (some v)) : clV I v := h v (List.mem_of_getElem? hk)
end
section
def isR : Value → Bool
  | .ref _ => true
  | .null => true
  | _ => false
theorem isR_or {v : Value} (h : isR v = true) : v = .null ∨ ∃ a, v = .ref a := by
  cases v <;> first | exact Or.inl rfl | exact Or.inr ⟨_, rfl⟩ | cases h
section Rows
variable {Z : Zt} {l0 : Launch} {R0 : Room} {cc : ByteArray} {nL : Nat} {own : String} {ret : Option FieldType} {Post : Option Value → aH → Prop} {I : aH} {lv : List (Option Value)} {st : List Value} {cells slots pc : Nat}
theorem V_iconst {n : Int} {v : Int32} (X : Fx Z l0 R0 cc nL own ret Post) (d : decode cc pc = .ok (.iconst n, 1)) (hv : Int32.ofInt n = v) (k : V Z nL I lv (.int v :: st) cells slots (pc + 1)) : V Z nL I lv st cells slots pc := by
  obtain ⟨p, l, e, R, s, m, args, below, meth, c, Q, D, tC, A, ρ0, I0⟩ := Z
  obtain ⟨⟨hx, hb, hml, hown, hts⟩, hU, hlk, hret, rfl, rfl, rfl⟩ := X
  intro ρ H locs ls hH hE hlo hL hcL hcS
  exact lv_iconst hx hb d hv (k ρ H locs ls hH hE hlo hL hcL (clS_cons clV_i hcS))
theorem V_bipush {n : Int} {v : Int32} (X : Fx Z l0 R0 cc nL own ret Post) (d : decode cc pc = .ok (.bipush n, 2)) (hv : (Int8.ofInt n).toInt32 = v) (k : V Z nL I lv (.int v :: st) cells slots (pc + 2)) : V Z nL I lv st cells slots pc := by
  obtain ⟨p, l, e, R, s, m, args, below, meth, c, Q, D, tC, A, ρ0, I0⟩ := Z
  obtain ⟨⟨hx, hb, hml, hown, hts⟩, hU, hlk, hret, rfl, rfl, rfl⟩ := X
  intro ρ H locs ls hH hE hlo hL hcL hcS
  exact lv_bipush hx hb d hv (k ρ H locs ls hH hE hlo hL hcL (clS_cons clV_i hcS))
theorem V_sipush {n : Int} {v : Int32} (X : Fx Z l0 R0 cc nL own ret Post) (d : decode cc pc = .ok (.sipush n, 3)) (hv : (Int16.ofInt n).toInt32 = v) (k : V Z nL I lv (.int v :: st) cells slots (pc + 3)) : V Z nL I lv st cells slots pc := by
  obtain ⟨p, l, e, R, s, m, args, below, meth, c, Q, D, tC, A, ρ0, I0⟩ := Z
  obtain ⟨⟨hx, hb, hml, hown, hts⟩, hU, hlk, hret, rfl, rfl, rfl⟩ := X
  intro ρ H locs ls hH hE hlo hL hcL hcS
  exact lv_sipush hx hb d hv (k ρ H locs ls hH hE hlo hL hcL (clS_cons clV_i hcS))
theorem V_lconst {n : Fin 2} {v : Int64} (X : Fx Z l0 R0 cc nL own ret Post) (d : decode cc pc = .ok (.lconst n, 1)) (hv : Int64.ofNat (n : Nat) = v) (k : V Z nL I lv (.long v :: st) cells slots (pc + 1)) : V Z nL I lv st cells slots pc := by
  obtain ⟨p, l, e, R, s, m, args, below, meth, c, Q, D, tC, A, ρ0, I0⟩ := Z
  obtain ⟨⟨hx, hb, hml, hown, hts⟩, hU, hlk, hret, rfl, rfl, rfl⟩ := X
  intro ρ H locs ls hH hE hlo hL hcL hcS
  exact lv_lconst hx hb d hv (k ρ H locs ls hH hE hlo hL hcL (clS_cons clV_l hcS))
theorem V_ldc {i : Nat} {v : Int32} (X : Fx Z l0 R0 cc nL own ret Post) (d : decode cc pc = .ok (.ldc i, 2)) (hc : Cond.constant own i v ∈ wsA) (k : V Z nL I lv (.int v :: st) cells slots (pc + 2)) : V Z nL I lv st cells slots pc := by
  obtain ⟨p, l, e, R, s, m, args, below, meth, c, Q, D, tC, A, ρ0, I0⟩ := Z
  obtain ⟨⟨hx, hb, hml, hown, hts⟩, hU, hlk, hret, rfl, rfl, rfl⟩ := X
  intro ρ H locs ls hH hE hlo hL hcL hcS
  exact lv_ldc hx hb hown (hts _ hc) d (k ρ H locs ls hH hE hlo hL hcL (clS_cons clV_i hcS))
theorem V_ldcw {i : Nat} {v : Int32} (X : Fx Z l0 R0 cc nL own ret Post) (d : decode cc pc = .ok (.ldc_w i, 3)) (hc : Cond.constant own i v ∈ wsA) (k : V Z nL I lv (.int v :: st) cells slots (pc + 3)) : V Z nL I lv st cells slots pc := by
  obtain ⟨p, l, e, R, s, m, args, below, meth, c, Q, D, tC, A, ρ0, I0⟩ := Z
  obtain ⟨⟨hx, hb, hml, hown, hts⟩, hU, hlk, hret, rfl, rfl, rfl⟩ := X
  intro ρ H locs ls hH hE hlo hL hcL hcS
  exact lv_ldcw hx hb hown (hts _ hc) d (k ρ H locs ls hH hE hlo hL hcL (clS_cons clV_i hcS))
theorem V_ldc2 {i : Nat} {v : Int64} (X : Fx Z l0 R0 cc nL own ret Post) (d : decode cc pc = .ok (.ldc2_w i, 3)) (hc : Cond.constantLong own i v ∈ wsA) (k : V Z nL I lv (.long v :: st) cells slots (pc + 3)) : V Z nL I lv st cells slots pc := by
  obtain ⟨p, l, e, R, s, m, args, below, meth, c, Q, D, tC, A, ρ0, I0⟩ := Z
  obtain ⟨⟨hx, hb, hml, hown, hts⟩, hU, hlk, hret, rfl, rfl, rfl⟩ := X
  intro ρ H locs ls hH hE hlo hL hcL hcS
  exact lv_ldc2 hx hb hown (hts _ hc) d (k ρ H locs ls hH hE hlo hL hcL (clS_cons clV_l hcS))
theorem V_null  (X : Fx Z l0 R0 cc nL own ret Post) (d : decode cc pc = .ok (.aconst_null, 1))  (k : V Z nL I lv (.null :: st) cells slots (pc + 1)) : V Z nL I lv st cells slots pc := by
  obtain ⟨p, l, e, R, s, m, args, below, meth, c, Q, D, tC, A, ρ0, I0⟩ := Z
  obtain ⟨⟨hx, hb, hml, hown, hts⟩, hU, hlk, hret, rfl, rfl, rfl⟩ := X
  intro ρ H locs ls hH hE hlo hL hcL hcS
  exact lv_null hx hb d (k ρ H locs ls hH hE hlo hL hcL (clS_cons clV_n hcS))
theorem V_iload_n {j : Fin 4} {x : Int32} (X : Fx Z l0 R0 cc nL own ret Post) (d : decode cc pc = .ok (.iload_n j, 1)) (h : lv[(j : Nat)]? = some (some (.int x))) (k : V Z nL I lv (.int x :: st) cells slots (pc + 1)) : V Z nL I lv st cells slots pc := by
  obtain ⟨p, l, e, R, s, m, args, below, meth, c, Q, D, tC, A, ρ0, I0⟩ := Z
  obtain ⟨⟨hx, hb, hml, hown, hts⟩, hU, hlk, hret, rfl, rfl, rfl⟩ := X
  intro ρ H locs ls hH hE hlo hL hcL hcS
  exact lv_iload_n hx hb d rfl (hL.2.2 _ _ h) (k ρ H locs ls hH hE hlo hL hcL (clS_cons clV_i hcS))
theorem V_iload {i : Nat} {x : Int32} (X : Fx Z l0 R0 cc nL own ret Post) (d : decode cc pc = .ok (.iload i, 2)) (h : lv[i]? = some (some (.int x))) (k : V Z nL I lv (.int x :: st) cells slots (pc + 2)) : V Z nL I lv st cells slots pc := by
  obtain ⟨p, l, e, R, s, m, args, below, meth, c, Q, D, tC, A, ρ0, I0⟩ := Z
  obtain ⟨⟨hx, hb, hml, hown, hts⟩, hU, hlk, hret, rfl, rfl, rfl⟩ := X
  intro ρ H locs ls hH hE hlo hL hcL hcS
  exact lv_iload hx hb d (hL.2.2 _ _ h) (k ρ H locs ls hH hE hlo hL hcL (clS_cons clV_i hcS))
theorem V_lload_n {j : Fin 4} {x : Int64} (X : Fx Z l0 R0 cc nL own ret Post) (d : decode cc pc = .ok (.lload_n j, 1)) (h : lv[(j : Nat)]? = some (some (.long x))) (k : V Z nL I lv (.long x :: st) cells slots (pc + 1)) : V Z nL I lv st cells slots pc := by
  obtain ⟨p, l, e, R, s, m, args, below, meth, c, Q, D, tC, A, ρ0, I0⟩ := Z
  obtain ⟨⟨hx, hb, hml, hown, hts⟩, hU, hlk, hret, rfl, rfl, rfl⟩ := X
  intro ρ H locs ls hH hE hlo hL hcL hcS
  exact lv_lload_n hx hb d rfl (hL.2.2 _ _ h) (k ρ H locs ls hH hE hlo hL hcL (clS_cons clV_l hcS))
theorem V_lload {i : Nat} {x : Int64} (X : Fx Z l0 R0 cc nL own ret Post) (d : decode cc pc = .ok (.lload i, 2)) (h : lv[i]? = some (some (.long x))) (k : V Z nL I lv (.long x :: st) cells slots (pc + 2)) : V Z nL I lv st cells slots pc := by
  obtain ⟨p, l, e, R, s, m, args, below, meth, c, Q, D, tC, A, ρ0, I0⟩ := Z
  obtain ⟨⟨hx, hb, hml, hown, hts⟩, hU, hlk, hret, rfl, rfl, rfl⟩ := X
  intro ρ H locs ls hH hE hlo hL hcL hcS
  exact lv_lload hx hb d (hL.2.2 _ _ h) (k ρ H locs ls hH hE hlo hL hcL (clS_cons clV_l hcS))
theorem V_aload_n {j : Fin 4} {v : Value} (X : Fx Z l0 R0 cc nL own ret Post) (d : decode cc pc = .ok (.aload_n j, 1)) (h : lv[(j : Nat)]? = some (some v)) (hr : isR v = true) (k : V Z nL I lv (v :: st) cells slots (pc + 1)) : V Z nL I lv st cells slots pc := by
  obtain ⟨p, l, e, R, s, m, args, below, meth, c, Q, D, tC, A, ρ0, I0⟩ := Z
  obtain ⟨⟨hx, hb, hml, hown, hts⟩, hU, hlk, hret, rfl, rfl, rfl⟩ := X
  intro ρ H locs ls hH hE hlo hL hcL hcS
  have h1 := hL.2.2 _ _ h
  have k1 := k ρ H locs ls hH hE hlo hL hcL (clS_cons (clL_at hcL h) hcS)
  rcases isR_or hr with rfl | ⟨a, rfl⟩
  · exact lv_aload_nN hx hb d rfl h1 k1
  · exact lv_aload_n hx hb d rfl h1 k1
theorem V_aload {i : Nat} {v : Value} (X : Fx Z l0 R0 cc nL own ret Post) (d : decode cc pc = .ok (.aload i, 2)) (h : lv[i]? = some (some v)) (hr : isR v = true) (k : V Z nL I lv (v :: st) cells slots (pc + 2)) : V Z nL I lv st cells slots pc := by
  obtain ⟨p, l, e, R, s, m, args, below, meth, c, Q, D, tC, A, ρ0, I0⟩ := Z
  obtain ⟨⟨hx, hb, hml, hown, hts⟩, hU, hlk, hret, rfl, rfl, rfl⟩ := X
  intro ρ H locs ls hH hE hlo hL hcL hcS
  have h1 := hL.2.2 _ _ h
  have k1 := k ρ H locs ls hH hE hlo hL hcL (clS_cons (clL_at hcL h) hcS)
  rcases isR_or hr with rfl | ⟨a, rfl⟩
  · exact lv_aloadN hx hb d h1 k1
  · exact lv_aload hx hb d h1 k1
theorem V_iadd {x y : Int32} (X : Fx Z l0 R0 cc nL own ret Post) (d : decode cc pc = .ok (.iadd, 1))  (k : V Z nL I lv (.int (x + y) :: st) cells slots (pc + 1)) : V Z nL I lv (.int y :: .int x :: st) cells slots pc := by
  obtain ⟨p, l, e, R, s, m, args, below, meth, c, Q, D, tC, A, ρ0, I0⟩ := Z
  obtain ⟨⟨hx, hb, hml, hown, hts⟩, hU, hlk, hret, rfl, rfl, rfl⟩ := X
  intro ρ H locs ls hH hE hlo hL hcL hcS
  exact lv_iadd hx hb d (k ρ H locs ls hH hE hlo hL hcL (clS_cons clV_i (clS_tl (clS_tl hcS))))
theorem V_isub {x y : Int32} (X : Fx Z l0 R0 cc nL own ret Post) (d : decode cc pc = .ok (.isub, 1))  (k : V Z nL I lv (.int (x - y) :: st) cells slots (pc + 1)) : V Z nL I lv (.int y :: .int x :: st) cells slots pc := by
  obtain ⟨p, l, e, R, s, m, args, below, meth, c, Q, D, tC, A, ρ0, I0⟩ := Z
  obtain ⟨⟨hx, hb, hml, hown, hts⟩, hU, hlk, hret, rfl, rfl, rfl⟩ := X
  intro ρ H locs ls hH hE hlo hL hcL hcS
  exact lv_isub hx hb d (k ρ H locs ls hH hE hlo hL hcL (clS_cons clV_i (clS_tl (clS_tl hcS))))
theorem V_imul {x y : Int32} (X : Fx Z l0 R0 cc nL own ret Post) (d : decode cc pc = .ok (.imul, 1))  (k : V Z nL I lv (.int (x * y) :: st) cells slots (pc + 1)) : V Z nL I lv (.int y :: .int x :: st) cells slots pc := by
  obtain ⟨p, l, e, R, s, m, args, below, meth, c, Q, D, tC, A, ρ0, I0⟩ := Z
  obtain ⟨⟨hx, hb, hml, hown, hts⟩, hU, hlk, hret, rfl, rfl, rfl⟩ := X
  intro ρ H locs ls hH hE hlo hL hcL hcS
  exact lv_imul hx hb d (k ρ H locs ls hH hE hlo hL hcL (clS_cons clV_i (clS_tl (clS_tl hcS))))
theorem V_iand {x y : Int32} (X : Fx Z l0 R0 cc nL own ret Post) (d : decode cc pc = .ok (.iand, 1))  (k : V Z nL I lv (.int (x &&& y) :: st) cells slots (pc + 1)) : V Z nL I lv (.int y :: .int x :: st) cells slots pc := by
  obtain ⟨p, l, e, R, s, m, args, below, meth, c, Q, D, tC, A, ρ0, I0⟩ := Z
  obtain ⟨⟨hx, hb, hml, hown, hts⟩, hU, hlk, hret, rfl, rfl, rfl⟩ := X
  intro ρ H locs ls hH hE hlo hL hcL hcS
  exact lv_iand hx hb d (k ρ H locs ls hH hE hlo hL hcL (clS_cons clV_i (clS_tl (clS_tl hcS))))
theorem V_ishr {x y : Int32} (X : Fx Z l0 R0 cc nL own ret Post) (d : decode cc pc = .ok (.ishr, 1))  (k : V Z nL I lv (.int (x >>> (y &&& 31)) :: st) cells slots (pc + 1)) : V Z nL I lv (.int y :: .int x :: st) cells slots pc := by
  obtain ⟨p, l, e, R, s, m, args, below, meth, c, Q, D, tC, A, ρ0, I0⟩ := Z
  obtain ⟨⟨hx, hb, hml, hown, hts⟩, hU, hlk, hret, rfl, rfl, rfl⟩ := X
  intro ρ H locs ls hH hE hlo hL hcL hcS
  exact lv_ishr hx hb d (k ρ H locs ls hH hE hlo hL hcL (clS_cons clV_i (clS_tl (clS_tl hcS))))
theorem V_irem {x y : Int32} (X : Fx Z l0 R0 cc nL own ret Post) (d : decode cc pc = .ok (.irem, 1)) (hne : ¬ y = 0) (k : V Z nL I lv (.int (x - x / y * y) :: st) cells slots (pc + 1)) : V Z nL I lv (.int y :: .int x :: st) cells slots pc := by
  obtain ⟨p, l, e, R, s, m, args, below, meth, c, Q, D, tC, A, ρ0, I0⟩ := Z
  obtain ⟨⟨hx, hb, hml, hown, hts⟩, hU, hlk, hret, rfl, rfl, rfl⟩ := X
  intro ρ H locs ls hH hE hlo hL hcL hcS
  exact lv_irem hx hb d hne (k ρ H locs ls hH hE hlo hL hcL (clS_cons clV_i (clS_tl (clS_tl hcS))))
theorem V_iushr {x y : Int32} (X : Fx Z l0 R0 cc nL own ret Post) (d : decode cc pc = .ok (.iushr, 1))  (k : V Z nL I lv (.int ((x.toUInt32 >>> (y.toUInt32 &&& Int32.toUInt32 31)).toInt32) :: st) cells slots (pc + 1)) : V Z nL I lv (.int y :: .int x :: st) cells slots pc := by
  obtain ⟨p, l, e, R, s, m, args, below, meth, c, Q, D, tC, A, ρ0, I0⟩ := Z
  obtain ⟨⟨hx, hb, hml, hown, hts⟩, hU, hlk, hret, rfl, rfl, rfl⟩ := X
  intro ρ H locs ls hH hE hlo hL hcL hcS
  exact lv_iushr hx hb d rfl (k ρ H locs ls hH hE hlo hL hcL (clS_cons clV_i (clS_tl (clS_tl hcS))))
theorem V_ineg {x : Int32} (X : Fx Z l0 R0 cc nL own ret Post) (d : decode cc pc = .ok (.ineg, 1))  (k : V Z nL I lv (.int (-x) :: st) cells slots (pc + 1)) : V Z nL I lv (.int x :: st) cells slots pc := by
  obtain ⟨p, l, e, R, s, m, args, below, meth, c, Q, D, tC, A, ρ0, I0⟩ := Z
  obtain ⟨⟨hx, hb, hml, hown, hts⟩, hU, hlk, hret, rfl, rfl, rfl⟩ := X
  intro ρ H locs ls hH hE hlo hL hcL hcS
  exact lv_ineg hx hb d (k ρ H locs ls hH hE hlo hL hcL (clS_cons clV_i (clS_tl hcS)))
theorem V_lsub {x y : Int64} (X : Fx Z l0 R0 cc nL own ret Post) (d : decode cc pc = .ok (.lsub, 1))  (k : V Z nL I lv (.long (x - y) :: st) cells slots (pc + 1)) : V Z nL I lv (.long y :: .long x :: st) cells slots pc := by
  obtain ⟨p, l, e, R, s, m, args, below, meth, c, Q, D, tC, A, ρ0, I0⟩ := Z
  obtain ⟨⟨hx, hb, hml, hown, hts⟩, hU, hlk, hret, rfl, rfl, rfl⟩ := X
  intro ρ H locs ls hH hE hlo hL hcL hcS
  exact lv_lsub hx hb d (k ρ H locs ls hH hE hlo hL hcL (clS_cons clV_l (clS_tl (clS_tl hcS))))
theorem V_ladd {x y : Int64} (X : Fx Z l0 R0 cc nL own ret Post) (d : decode cc pc = .ok (.ladd, 1))  (k : V Z nL I lv (.long (x + y) :: st) cells slots (pc + 1)) : V Z nL I lv (.long y :: .long x :: st) cells slots pc := by
  obtain ⟨p, l, e, R, s, m, args, below, meth, c, Q, D, tC, A, ρ0, I0⟩ := Z
  obtain ⟨⟨hx, hb, hml, hown, hts⟩, hU, hlk, hret, rfl, rfl, rfl⟩ := X
  intro ρ H locs ls hH hE hlo hL hcL hcS
  exact lv_ladd hx hb d (k ρ H locs ls hH hE hlo hL hcL (clS_cons clV_l (clS_tl (clS_tl hcS))))
theorem V_land {x y : Int64} (X : Fx Z l0 R0 cc nL own ret Post) (d : decode cc pc = .ok (.land, 1))  (k : V Z nL I lv (.long (x &&& y) :: st) cells slots (pc + 1)) : V Z nL I lv (.long y :: .long x :: st) cells slots pc := by
  obtain ⟨p, l, e, R, s, m, args, below, meth, c, Q, D, tC, A, ρ0, I0⟩ := Z
  obtain ⟨⟨hx, hb, hml, hown, hts⟩, hU, hlk, hret, rfl, rfl, rfl⟩ := X
  intro ρ H locs ls hH hE hlo hL hcL hcS
  exact lv_land hx hb d (k ρ H locs ls hH hE hlo hL hcL (clS_cons clV_l (clS_tl (clS_tl hcS))))
theorem V_lor {x y : Int64} (X : Fx Z l0 R0 cc nL own ret Post) (d : decode cc pc = .ok (.lor, 1))  (k : V Z nL I lv (.long (x ||| y) :: st) cells slots (pc + 1)) : V Z nL I lv (.long y :: .long x :: st) cells slots pc := by
  obtain ⟨p, l, e, R, s, m, args, below, meth, c, Q, D, tC, A, ρ0, I0⟩ := Z
  obtain ⟨⟨hx, hb, hml, hown, hts⟩, hU, hlk, hret, rfl, rfl, rfl⟩ := X
  intro ρ H locs ls hH hE hlo hL hcL hcS
  exact lv_lor hx hb d (k ρ H locs ls hH hE hlo hL hcL (clS_cons clV_l (clS_tl (clS_tl hcS))))
theorem V_lshl {x : Int64} {y : Int32} (X : Fx Z l0 R0 cc nL own ret Post) (d : decode cc pc = .ok (.lshl, 1))  (k : V Z nL I lv (.long (x <<< (y.toInt64 &&& 63)) :: st) cells slots (pc + 1)) : V Z nL I lv (.int y :: .long x :: st) cells slots pc := by
  obtain ⟨p, l, e, R, s, m, args, below, meth, c, Q, D, tC, A, ρ0, I0⟩ := Z
  obtain ⟨⟨hx, hb, hml, hown, hts⟩, hU, hlk, hret, rfl, rfl, rfl⟩ := X
  intro ρ H locs ls hH hE hlo hL hcL hcS
  exact lv_lshl hx hb d rfl (k ρ H locs ls hH hE hlo hL hcL (clS_cons clV_l (clS_tl (clS_tl hcS))))
theorem V_i2l {x : Int32} (X : Fx Z l0 R0 cc nL own ret Post) (d : decode cc pc = .ok (.i2l, 1))  (k : V Z nL I lv (.long x.toInt64 :: st) cells slots (pc + 1)) : V Z nL I lv (.int x :: st) cells slots pc := by
  obtain ⟨p, l, e, R, s, m, args, below, meth, c, Q, D, tC, A, ρ0, I0⟩ := Z
  obtain ⟨⟨hx, hb, hml, hown, hts⟩, hU, hlk, hret, rfl, rfl, rfl⟩ := X
  intro ρ H locs ls hH hE hlo hL hcL hcS
  exact lv_i2l hx hb d rfl (k ρ H locs ls hH hE hlo hL hcL (clS_cons clV_l (clS_tl hcS)))
theorem V_dup {v : Value} (X : Fx Z l0 R0 cc nL own ret Post) (d : decode cc pc = .ok (.dup, 1)) (h1 : v.category = 1) (k : V Z nL I lv (v :: v :: st) cells slots (pc + 1)) : V Z nL I lv (v :: st) cells slots pc := by
  obtain ⟨p, l, e, R, s, m, args, below, meth, c, Q, D, tC, A, ρ0, I0⟩ := Z
  obtain ⟨⟨hx, hb, hml, hown, hts⟩, hU, hlk, hret, rfl, rfl, rfl⟩ := X
  intro ρ H locs ls hH hE hlo hL hcL hcS
  exact lv_dup hx hb d ((cv_cat ρ _).trans h1) (k ρ H locs ls hH hE hlo hL hcL (clS_cons (clS_hd hcS) hcS))
theorem V_pop {v : Value} (X : Fx Z l0 R0 cc nL own ret Post) (d : decode cc pc = .ok (.pop, 1)) (h1 : v.category = 1) (k : V Z nL I lv st cells slots (pc + 1)) : V Z nL I lv (v :: st) cells slots pc := by
  obtain ⟨p, l, e, R, s, m, args, below, meth, c, Q, D, tC, A, ρ0, I0⟩ := Z
  obtain ⟨⟨hx, hb, hml, hown, hts⟩, hU, hlk, hret, rfl, rfl, rfl⟩ := X
  intro ρ H locs ls hH hE hlo hL hcL hcS
  exact lv_pop hx hb d ((cv_cat ρ _).trans h1) (k ρ H locs ls hH hE hlo hL hcL (clS_tl hcS))
theorem V_dup_x1 {v u : Value} (X : Fx Z l0 R0 cc nL own ret Post) (d : decode cc pc = .ok (.dup_x1, 1)) (h1 : v.category = 1) (h2 : u.category = 1) (k : V Z nL I lv (v :: u :: v :: st) cells slots (pc + 1)) : V Z nL I lv (v :: u :: st) cells slots pc := by
  obtain ⟨p, l, e, R, s, m, args, below, meth, c, Q, D, tC, A, ρ0, I0⟩ := Z
  obtain ⟨⟨hx, hb, hml, hown, hts⟩, hU, hlk, hret, rfl, rfl, rfl⟩ := X
  intro ρ H locs ls hH hE hlo hL hcL hcS
  exact lv_dup_x1 hx hb d ((cv_cat ρ _).trans h1) ((cv_cat ρ _).trans h2) (k ρ H locs ls hH hE hlo hL hcL (clS_cons (clS_hd hcS) (clS_cons (clS_hd (clS_tl hcS)) (clS_cons (clS_hd hcS) (clS_tl (clS_tl hcS))))))
theorem V_dup2 {v u : Value} (X : Fx Z l0 R0 cc nL own ret Post) (d : decode cc pc = .ok (.dup2, 1)) (h1 : v.category = 1) (h2 : u.category = 1) (k : V Z nL I lv (v :: u :: v :: u :: st) cells slots (pc + 1)) : V Z nL I lv (v :: u :: st) cells slots pc := by
  obtain ⟨p, l, e, R, s, m, args, below, meth, c, Q, D, tC, A, ρ0, I0⟩ := Z
  obtain ⟨⟨hx, hb, hml, hown, hts⟩, hU, hlk, hret, rfl, rfl, rfl⟩ := X
  intro ρ H locs ls hH hE hlo hL hcL hcS
  exact lv_dup2_11 hx hb d ((cv_cat ρ _).trans h1) ((cv_cat ρ _).trans h2) (k ρ H locs ls hH hE hlo hL hcL (clS_cons (clS_hd hcS) (clS_cons (clS_hd (clS_tl hcS)) hcS)))
theorem V_dup2l {v : Value} (X : Fx Z l0 R0 cc nL own ret Post) (d : decode cc pc = .ok (.dup2, 1)) (h1 : v.category = 2) (k : V Z nL I lv (v :: v :: st) cells slots (pc + 1)) : V Z nL I lv (v :: st) cells slots pc := by
  obtain ⟨p, l, e, R, s, m, args, below, meth, c, Q, D, tC, A, ρ0, I0⟩ := Z
  obtain ⟨⟨hx, hb, hml, hown, hts⟩, hU, hlk, hret, rfl, rfl, rfl⟩ := X
  intro ρ H locs ls hH hE hlo hL hcL hcS
  exact lv_dup2_2 hx hb d ((cv_cat ρ _).trans h1) (k ρ H locs ls hH hE hlo hL hcL (clS_cons (clS_hd hcS) hcS))
theorem V_if_eq {x : Int32} {off : Int} (X : Fx Z l0 R0 cc nL own ret Post) (d : decode cc pc = .ok (.ifCond .eq off, 3)) (tgt : Nat) (ht : (pc : Int) + off = (tgt : Int)) (kt : x = 0 → V Z nL I lv st cells slots tgt) (kf : ¬ x = 0 → V Z nL I lv st cells slots (pc + 3)) : V Z nL I lv (.int x :: st) cells slots pc := by
  obtain ⟨p, l, e, R, s, m, args, below, meth, c, Q, D, tC, A, ρ0, I0⟩ := Z
  obtain ⟨⟨hx, hb, hml, hown, hts⟩, hU, hlk, hret, rfl, rfl, rfl⟩ := X
  intro ρ H locs ls hH hE hlo hL hcL hcS
  exact lv_if_eq hx hb d ht (fun q => kt q ρ H locs ls hH hE hlo hL hcL (clS_tl hcS)) (fun q => kf q ρ H locs ls hH hE hlo hL hcL (clS_tl hcS))
theorem V_icmp_eq {x y : Int32} {off : Int} (X : Fx Z l0 R0 cc nL own ret Post) (d : decode cc pc = .ok (.if_icmp .eq off, 3)) (tgt : Nat) (ht : (pc : Int) + off = (tgt : Int)) (kt : x = y → V Z nL I lv st cells slots tgt) (kf : ¬ x = y → V Z nL I lv st cells slots (pc + 3)) : V Z nL I lv (.int y :: .int x :: st) cells slots pc := by
  obtain ⟨p, l, e, R, s, m, args, below, meth, c, Q, D, tC, A, ρ0, I0⟩ := Z
  obtain ⟨⟨hx, hb, hml, hown, hts⟩, hU, hlk, hret, rfl, rfl, rfl⟩ := X
  intro ρ H locs ls hH hE hlo hL hcL hcS
  exact lv_icmp_eq hx hb d ht (fun q => kt q ρ H locs ls hH hE hlo hL hcL (clS_tl (clS_tl hcS))) (fun q => kf q ρ H locs ls hH hE hlo hL hcL (clS_tl (clS_tl hcS)))
theorem V_if_ne {x : Int32} {off : Int} (X : Fx Z l0 R0 cc nL own ret Post) (d : decode cc pc = .ok (.ifCond .ne off, 3)) (tgt : Nat) (ht : (pc : Int) + off = (tgt : Int)) (kt : ¬ x = 0 → V Z nL I lv st cells slots tgt) (kf : x = 0 → V Z nL I lv st cells slots (pc + 3)) : V Z nL I lv (.int x :: st) cells slots pc := by
  obtain ⟨p, l, e, R, s, m, args, below, meth, c, Q, D, tC, A, ρ0, I0⟩ := Z
  obtain ⟨⟨hx, hb, hml, hown, hts⟩, hU, hlk, hret, rfl, rfl, rfl⟩ := X
  intro ρ H locs ls hH hE hlo hL hcL hcS
  exact lv_if_ne hx hb d ht (fun q => kt q ρ H locs ls hH hE hlo hL hcL (clS_tl hcS)) (fun q => kf q ρ H locs ls hH hE hlo hL hcL (clS_tl hcS))
theorem V_icmp_ne {x y : Int32} {off : Int} (X : Fx Z l0 R0 cc nL own ret Post) (d : decode cc pc = .ok (.if_icmp .ne off, 3)) (tgt : Nat) (ht : (pc : Int) + off = (tgt : Int)) (kt : ¬ x = y → V Z nL I lv st cells slots tgt) (kf : x = y → V Z nL I lv st cells slots (pc + 3)) : V Z nL I lv (.int y :: .int x :: st) cells slots pc := by
  obtain ⟨p, l, e, R, s, m, args, below, meth, c, Q, D, tC, A, ρ0, I0⟩ := Z
  obtain ⟨⟨hx, hb, hml, hown, hts⟩, hU, hlk, hret, rfl, rfl, rfl⟩ := X
  intro ρ H locs ls hH hE hlo hL hcL hcS
  exact lv_icmp_ne hx hb d ht (fun q => kt q ρ H locs ls hH hE hlo hL hcL (clS_tl (clS_tl hcS))) (fun q => kf q ρ H locs ls hH hE hlo hL hcL (clS_tl (clS_tl hcS)))
theorem V_if_lt {x : Int32} {off : Int} (X : Fx Z l0 R0 cc nL own ret Post) (d : decode cc pc = .ok (.ifCond .lt off, 3)) (tgt : Nat) (ht : (pc : Int) + off = (tgt : Int)) (kt : x < 0 → V Z nL I lv st cells slots tgt) (kf : ¬ x < 0 → V Z nL I lv st cells slots (pc + 3)) : V Z nL I lv (.int x :: st) cells slots pc := by
  obtain ⟨p, l, e, R, s, m, args, below, meth, c, Q, D, tC, A, ρ0, I0⟩ := Z
  obtain ⟨⟨hx, hb, hml, hown, hts⟩, hU, hlk, hret, rfl, rfl, rfl⟩ := X
  intro ρ H locs ls hH hE hlo hL hcL hcS
  exact lv_if_lt hx hb d ht (fun q => kt q ρ H locs ls hH hE hlo hL hcL (clS_tl hcS)) (fun q => kf q ρ H locs ls hH hE hlo hL hcL (clS_tl hcS))
theorem V_icmp_lt {x y : Int32} {off : Int} (X : Fx Z l0 R0 cc nL own ret Post) (d : decode cc pc = .ok (.if_icmp .lt off, 3)) (tgt : Nat) (ht : (pc : Int) + off = (tgt : Int)) (kt : x < y → V Z nL I lv st cells slots tgt) (kf : ¬ x < y → V Z nL I lv st cells slots (pc + 3)) : V Z nL I lv (.int y :: .int x :: st) cells slots pc := by
  obtain ⟨p, l, e, R, s, m, args, below, meth, c, Q, D, tC, A, ρ0, I0⟩ := Z
  obtain ⟨⟨hx, hb, hml, hown, hts⟩, hU, hlk, hret, rfl, rfl, rfl⟩ := X
  intro ρ H locs ls hH hE hlo hL hcL hcS
  exact lv_icmp_lt hx hb d ht (fun q => kt q ρ H locs ls hH hE hlo hL hcL (clS_tl (clS_tl hcS))) (fun q => kf q ρ H locs ls hH hE hlo hL hcL (clS_tl (clS_tl hcS)))
theorem V_if_ge {x : Int32} {off : Int} (X : Fx Z l0 R0 cc nL own ret Post) (d : decode cc pc = .ok (.ifCond .ge off, 3)) (tgt : Nat) (ht : (pc : Int) + off = (tgt : Int)) (kt : 0 ≤ x → V Z nL I lv st cells slots tgt) (kf : ¬ 0 ≤ x → V Z nL I lv st cells slots (pc + 3)) : V Z nL I lv (.int x :: st) cells slots pc := by
  obtain ⟨p, l, e, R, s, m, args, below, meth, c, Q, D, tC, A, ρ0, I0⟩ := Z
  obtain ⟨⟨hx, hb, hml, hown, hts⟩, hU, hlk, hret, rfl, rfl, rfl⟩ := X
  intro ρ H locs ls hH hE hlo hL hcL hcS
  exact lv_if_ge hx hb d ht (fun q => kt q ρ H locs ls hH hE hlo hL hcL (clS_tl hcS)) (fun q => kf q ρ H locs ls hH hE hlo hL hcL (clS_tl hcS))
theorem V_icmp_ge {x y : Int32} {off : Int} (X : Fx Z l0 R0 cc nL own ret Post) (d : decode cc pc = .ok (.if_icmp .ge off, 3)) (tgt : Nat) (ht : (pc : Int) + off = (tgt : Int)) (kt : y ≤ x → V Z nL I lv st cells slots tgt) (kf : ¬ y ≤ x → V Z nL I lv st cells slots (pc + 3)) : V Z nL I lv (.int y :: .int x :: st) cells slots pc := by
  obtain ⟨p, l, e, R, s, m, args, below, meth, c, Q, D, tC, A, ρ0, I0⟩ := Z
  obtain ⟨⟨hx, hb, hml, hown, hts⟩, hU, hlk, hret, rfl, rfl, rfl⟩ := X
  intro ρ H locs ls hH hE hlo hL hcL hcS
  exact lv_icmp_ge hx hb d ht (fun q => kt q ρ H locs ls hH hE hlo hL hcL (clS_tl (clS_tl hcS))) (fun q => kf q ρ H locs ls hH hE hlo hL hcL (clS_tl (clS_tl hcS)))
theorem V_if_gt {x : Int32} {off : Int} (X : Fx Z l0 R0 cc nL own ret Post) (d : decode cc pc = .ok (.ifCond .gt off, 3)) (tgt : Nat) (ht : (pc : Int) + off = (tgt : Int)) (kt : 0 < x → V Z nL I lv st cells slots tgt) (kf : ¬ 0 < x → V Z nL I lv st cells slots (pc + 3)) : V Z nL I lv (.int x :: st) cells slots pc := by
  obtain ⟨p, l, e, R, s, m, args, below, meth, c, Q, D, tC, A, ρ0, I0⟩ := Z
  obtain ⟨⟨hx, hb, hml, hown, hts⟩, hU, hlk, hret, rfl, rfl, rfl⟩ := X
  intro ρ H locs ls hH hE hlo hL hcL hcS
  exact lv_if_gt hx hb d ht (fun q => kt q ρ H locs ls hH hE hlo hL hcL (clS_tl hcS)) (fun q => kf q ρ H locs ls hH hE hlo hL hcL (clS_tl hcS))
theorem V_icmp_gt {x y : Int32} {off : Int} (X : Fx Z l0 R0 cc nL own ret Post) (d : decode cc pc = .ok (.if_icmp .gt off, 3)) (tgt : Nat) (ht : (pc : Int) + off = (tgt : Int)) (kt : y < x → V Z nL I lv st cells slots tgt) (kf : ¬ y < x → V Z nL I lv st cells slots (pc + 3)) : V Z nL I lv (.int y :: .int x :: st) cells slots pc := by
  obtain ⟨p, l, e, R, s, m, args, below, meth, c, Q, D, tC, A, ρ0, I0⟩ := Z
  obtain ⟨⟨hx, hb, hml, hown, hts⟩, hU, hlk, hret, rfl, rfl, rfl⟩ := X
  intro ρ H locs ls hH hE hlo hL hcL hcS
  exact lv_icmp_gt hx hb d ht (fun q => kt q ρ H locs ls hH hE hlo hL hcL (clS_tl (clS_tl hcS))) (fun q => kf q ρ H locs ls hH hE hlo hL hcL (clS_tl (clS_tl hcS)))
theorem V_if_le {x : Int32} {off : Int} (X : Fx Z l0 R0 cc nL own ret Post) (d : decode cc pc = .ok (.ifCond .le off, 3)) (tgt : Nat) (ht : (pc : Int) + off = (tgt : Int)) (kt : x ≤ 0 → V Z nL I lv st cells slots tgt) (kf : ¬ x ≤ 0 → V Z nL I lv st cells slots (pc + 3)) : V Z nL I lv (.int x :: st) cells slots pc := by
  obtain ⟨p, l, e, R, s, m, args, below, meth, c, Q, D, tC, A, ρ0, I0⟩ := Z
  obtain ⟨⟨hx, hb, hml, hown, hts⟩, hU, hlk, hret, rfl, rfl, rfl⟩ := X
  intro ρ H locs ls hH hE hlo hL hcL hcS
  exact lv_if_le hx hb d ht (fun q => kt q ρ H locs ls hH hE hlo hL hcL (clS_tl hcS)) (fun q => kf q ρ H locs ls hH hE hlo hL hcL (clS_tl hcS))
theorem V_icmp_le {x y : Int32} {off : Int} (X : Fx Z l0 R0 cc nL own ret Post) (d : decode cc pc = .ok (.if_icmp .le off, 3)) (tgt : Nat) (ht : (pc : Int) + off = (tgt : Int)) (kt : x ≤ y → V Z nL I lv st cells slots tgt) (kf : ¬ x ≤ y → V Z nL I lv st cells slots (pc + 3)) : V Z nL I lv (.int y :: .int x :: st) cells slots pc := by
  obtain ⟨p, l, e, R, s, m, args, below, meth, c, Q, D, tC, A, ρ0, I0⟩ := Z
  obtain ⟨⟨hx, hb, hml, hown, hts⟩, hU, hlk, hret, rfl, rfl, rfl⟩ := X
  intro ρ H locs ls hH hE hlo hL hcL hcS
  exact lv_icmp_le hx hb d ht (fun q => kt q ρ H locs ls hH hE hlo hL hcL (clS_tl (clS_tl hcS))) (fun q => kf q ρ H locs ls hH hE hlo hL hcL (clS_tl (clS_tl hcS)))
theorem V_goto {off : Int} (X : Fx Z l0 R0 cc nL own ret Post) (d : decode cc pc = .ok (.goto off, 3)) (tgt : Nat) (ht : (pc : Int) + off = (tgt : Int)) (k : V Z nL I lv st cells slots tgt) : V Z nL I lv st cells slots pc := by
  obtain ⟨p, l, e, R, s, m, args, below, meth, c, Q, D, tC, A, ρ0, I0⟩ := Z
  obtain ⟨⟨hx, hb, hml, hown, hts⟩, hU, hlk, hret, rfl, rfl, rfl⟩ := X
  intro ρ H locs ls hH hE hlo hL hcL hcS
  exact lv_goto hx hb d ht (k ρ H locs ls hH hE hlo hL hcL hcS)
theorem V_ifnull {α : Nat} {off : Int} (X : Fx Z l0 R0 cc nL own ret Post) (d : decode cc pc = .ok (.ifnull off, 3))  (k : V Z nL I lv st cells slots (pc + 3)) : V Z nL I lv (.ref α :: st) cells slots pc := by
  obtain ⟨p, l, e, R, s, m, args, below, meth, c, Q, D, tC, A, ρ0, I0⟩ := Z
  obtain ⟨⟨hx, hb, hml, hown, hts⟩, hU, hlk, hret, rfl, rfl, rfl⟩ := X
  intro ρ H locs ls hH hE hlo hL hcL hcS
  exact lv_ifnull hx hb d (k ρ H locs ls hH hE hlo hL hcL (clS_tl hcS))
theorem V_ifnonnull {α : Nat} {off : Int} (X : Fx Z l0 R0 cc nL own ret Post) (d : decode cc pc = .ok (.ifnonnull off, 3)) (tgt : Nat) (ht : (pc : Int) + off = (tgt : Int)) (k : V Z nL I lv st cells slots tgt) : V Z nL I lv (.ref α :: st) cells slots pc := by
  obtain ⟨p, l, e, R, s, m, args, below, meth, c, Q, D, tC, A, ρ0, I0⟩ := Z
  obtain ⟨⟨hx, hb, hml, hown, hts⟩, hU, hlk, hret, rfl, rfl, rfl⟩ := X
  intro ρ H locs ls hH hE hlo hL hcL hcS
  exact lv_ifnonnull hx hb d ht (k ρ H locs ls hH hE hlo hL hcL (clS_tl hcS))
theorem V_ifnullN {off : Int} (X : Fx Z l0 R0 cc nL own ret Post) (d : decode cc pc = .ok (.ifnull off, 3)) (tgt : Nat) (ht : (pc : Int) + off = (tgt : Int)) (k : V Z nL I lv st cells slots tgt) : V Z nL I lv (.null :: st) cells slots pc := by
  obtain ⟨p, l, e, R, s, m, args, below, meth, c, Q, D, tC, A, ρ0, I0⟩ := Z
  obtain ⟨⟨hx, hb, hml, hown, hts⟩, hU, hlk, hret, rfl, rfl, rfl⟩ := X
  intro ρ H locs ls hH hE hlo hL hcL hcS
  exact lv_ifnullN hx hb d ht (k ρ H locs ls hH hE hlo hL hcL (clS_tl hcS))
theorem V_ifnonnullN {off : Int} (X : Fx Z l0 R0 cc nL own ret Post) (d : decode cc pc = .ok (.ifnonnull off, 3))  (k : V Z nL I lv st cells slots (pc + 3)) : V Z nL I lv (.null :: st) cells slots pc := by
  obtain ⟨p, l, e, R, s, m, args, below, meth, c, Q, D, tC, A, ρ0, I0⟩ := Z
  obtain ⟨⟨hx, hb, hml, hown, hts⟩, hU, hlk, hret, rfl, rfl, rfl⟩ := X
  intro ρ H locs ls hH hE hlo hL hcL hcS
  exact lv_ifnonnullN hx hb d (k ρ H locs ls hH hE hlo hL hcL (clS_tl hcS))
theorem V_acmp_eq {α β : Nat} {off : Int} (X : Fx Z l0 R0 cc nL own ret Post) (d : decode cc pc = .ok (.if_acmp .eq off, 3)) (tgt : Nat) (ht : (pc : Int) + off = (tgt : Int)) (hα : I α ≠ none ∨ α = β) (hβ : I β ≠ none ∨ α = β) (kt : α = β → V Z nL I lv st cells slots tgt) (kf : ¬ α = β → V Z nL I lv st cells slots (pc + 3)) : V Z nL I lv (.ref β :: .ref α :: st) cells slots pc := by
  obtain ⟨p, l, e, R, s, m, args, below, meth, c, Q, D, tC, A, ρ0, I0⟩ := Z
  obtain ⟨⟨hx, hb, hml, hown, hts⟩, hU, hlk, hret, rfl, rfl, rfl⟩ := X
  intro ρ H locs ls hH hE hlo hL hcL hcS
  have hi : (some (ρ α) = some (ρ β)) ↔ α = β := by
    constructor
    · intro q
      rcases hα with h1 | h1
      · rcases hβ with h2 | h2
        · exact hH.2.1 α β h1 h2 (Option.some.inj q)
        · exact h2
      · exact h1
    · rintro rfl
      rfl
  exact lv_acmp_eq (rx := some (ρ α)) (ry := some (ρ β)) hx hb d ht (fun q => kt (hi.mp q) ρ H locs ls hH hE hlo hL hcL (clS_tl (clS_tl hcS))) (fun q => kf (fun z => q (hi.mpr z)) ρ H locs ls hH hE hlo hL hcL (clS_tl (clS_tl hcS)))
theorem V_acmp_ne {α β : Nat} {off : Int} (X : Fx Z l0 R0 cc nL own ret Post) (d : decode cc pc = .ok (.if_acmp .ne off, 3)) (tgt : Nat) (ht : (pc : Int) + off = (tgt : Int)) (hα : I α ≠ none ∨ α = β) (hβ : I β ≠ none ∨ α = β) (kt : ¬ α = β → V Z nL I lv st cells slots tgt) (kf : α = β → V Z nL I lv st cells slots (pc + 3)) : V Z nL I lv (.ref β :: .ref α :: st) cells slots pc := by
  obtain ⟨p, l, e, R, s, m, args, below, meth, c, Q, D, tC, A, ρ0, I0⟩ := Z
  obtain ⟨⟨hx, hb, hml, hown, hts⟩, hU, hlk, hret, rfl, rfl, rfl⟩ := X
  intro ρ H locs ls hH hE hlo hL hcL hcS
  have hi : (some (ρ α) = some (ρ β)) ↔ α = β := by
    constructor
    · intro q
      rcases hα with h1 | h1
      · rcases hβ with h2 | h2
        · exact hH.2.1 α β h1 h2 (Option.some.inj q)
        · exact h2
      · exact h1
    · rintro rfl
      rfl
  exact lv_acmp_ne (rx := some (ρ α)) (ry := some (ρ β)) hx hb d ht (fun q => kt (fun z => q (hi.mpr z)) ρ H locs ls hH hE hlo hL hcL (clS_tl (clS_tl hcS))) (fun q => kf (hi.mp q) ρ H locs ls hH hE hlo hL hcL (clS_tl (clS_tl hcS)))
theorem V_tableOut {dflt lo hi : Int} {offs : Array Int} {len : Nat} {x : Int32} (X : Fx Z l0 R0 cc nL own ret Post) (d : decode cc pc = .ok (.tableswitch dflt lo hi offs, len)) (h : x.toInt < lo ∨ hi < x.toInt) (tgt : Nat) (ht : (pc : Int) + dflt = (tgt : Int)) (k : V Z nL I lv st cells slots tgt) : V Z nL I lv (.int x :: st) cells slots pc := by
  obtain ⟨p, l, e, R, s, m, args, below, meth, c, Q, D, tC, A, ρ0, I0⟩ := Z
  obtain ⟨⟨hx, hb, hml, hown, hts⟩, hU, hlk, hret, rfl, rfl, rfl⟩ := X
  intro ρ H locs ls hH hE hlo hL hcL hcS
  exact lv_tableOut hx hb d h ht (k ρ H locs ls hH hE hlo hL hcL (clS_tl hcS))
theorem V_tableIn {dflt lo hi : Int} {offs : Array Int} {len : Nat} {x : Int32} {off : Int} (X : Fx Z l0 R0 cc nL own ret Post) (d : decode cc pc = .ok (.tableswitch dflt lo hi offs, len)) (h1 : ¬ x.toInt < lo) (h2 : ¬ hi < x.toInt) (ho : offs[(x.toInt - lo).toNat]? = some off) (tgt : Nat) (ht : (pc : Int) + off = (tgt : Int)) (k : V Z nL I lv st cells slots tgt) : V Z nL I lv (.int x :: st) cells slots pc := by
  obtain ⟨p, l, e, R, s, m, args, below, meth, c, Q, D, tC, A, ρ0, I0⟩ := Z
  obtain ⟨⟨hx, hb, hml, hown, hts⟩, hU, hlk, hret, rfl, rfl, rfl⟩ := X
  intro ρ H locs ls hH hE hlo hL hcL hcS
  exact lv_tableIn hx hb d h1 h2 ho ht (k ρ H locs ls hH hE hlo hL hcL (clS_tl hcS))
theorem V_lcmp {x y : Int64} (X : Fx Z l0 R0 cc nL own ret Post) (d : decode cc pc = .ok (.lcmp, 1)) (k : V Z nL I lv (.int (lg_cmp x y) :: st) cells slots (pc + 1)) : V Z nL I lv (.long y :: .long x :: st) cells slots pc := by
  obtain ⟨p, l, e, R, s, m, args, below, meth, c, Q, D, tC, A, ρ0, I0⟩ := Z
  obtain ⟨⟨hx, hb, hml, hown, hts⟩, hU, hlk, hret, rfl, rfl, rfl⟩ := X
  intro ρ H locs ls hH hE hlo hL hcL hcS
  exact W.lcmp hx hb d (k ρ H locs ls hH hE hlo hL hcL (clS_cons clV_i (clS_tl (clS_tl hcS))))
end Rows
end
section
/-! locals -/
def asL (ρ : Nat → Nat) (lv : List (Option Value)) : List (Nat × Value) := (List.range lv.length).filterMap (fun k => match lv[k]? with
  | some (some v) => some (k, cv ρ v)
  | _ => none)
theorem asL_of {ρ : Nat → Nat} {lv : List (Option Value)} {q : Nat × Value} (h : q ∈ asL ρ lv) : ∃ v, lv[q.1]? = some (some v) ∧ q.2 = cv ρ v := by
  obtain ⟨k, -, hk⟩ := List.mem_filterMap.mp h
  split at hk
  · rename_i v hv
    cases hk
    exact ⟨v, hv, rfl⟩
  · cases hk
theorem asL_in {ρ : Nat → Nat} {lv : List (Option Value)} {k : Nat} {v : Value} (h : lv[k]? = some (some v)) : (k, cv ρ v) ∈ asL ρ lv := by
  refine List.mem_filterMap.mpr ⟨k, List.mem_range.mpr (List.getElem?_eq_some_iff.mp h).1, ?_⟩
  rw [h]
theorem hasL.list {ρ : Nat → Nat} {nL : Nat} {ls : Array Slot} {lv : List (Option Value)} (h : hasL ρ nL ls lv) : lv_has ls nL (asL ρ lv) := by
  refine ⟨h.1, h.2.1, fun q hq => ?_⟩
  obtain ⟨v, h1, h2⟩ := asL_of hq
  rw [h2]
  exact h.2.2 _ _ h1
/-- no long stands just ahead of place i -/
def nsl (lv : List (Option Value)) (i : Nat) : Bool := match i with
  | 0 => true
  | k + 1 => match lv[k]? with
    | some (some v) => v.category == 1
    | _ => true
theorem nsl_spec {lv : List (Option Value)} {i k : Nat} {v : Value} (h : nsl lv i = true) (hk : k + 1 = i) (hv : lv[k]? = some (some v)) : v.category = 1 := by
  subst hk
  simp only [nsl, hv] at h
  simpa using h
theorem hasL.set1 {ρ : Nat → Nat} {nL : Nat} {ls : Array Slot} {lv : List (Option Value)} {i : Nat} {v : Value} (hn : nsl lv i = true) (h : lv_has ls nL ((i, cv ρ v) :: (asL ρ lv).filter (fun q => !(q.1 == i) && !(q.1 + 1 == i && q.2.category == 2)))) : hasL ρ nL ls (lv.set i (some v)) := by
  refine ⟨h.1, h.2.1, fun k w hk => ?_⟩
  rw [List.getElem?_set] at hk
  by_cases hki : i = k
  · subst hki
    rw [if_pos rfl] at hk
    split at hk
    · cases hk
      exact h.2.2 _ List.mem_cons_self
    · cases hk
  · rw [if_neg hki] at hk
    refine h.2.2 (k, cv ρ w) (List.mem_cons_of_mem _ (List.mem_filter.mpr ⟨asL_in hk, ?_⟩))
    have h1 : (k == i) = false := by simpa using fun q => hki q.symm
    simp only [h1, Bool.not_false, Bool.true_and]
    by_cases h2 : k + 1 = i
    · have h3 := nsl_spec hn h2 hk
      simp [cv_cat, h3]
    · have h4 : (k + 1 == i) = false := by simpa using h2
      simp [h4]
theorem hasL.set2 {ρ : Nat → Nat} {nL : Nat} {ls : Array Slot} {lv : List (Option Value)} {i : Nat} {v : Value} (hn : nsl lv i = true) (h : lv_has ls nL ((i, cv ρ v) :: (asL ρ lv).filter (fun q => !(q.1 == i) && (!(q.1 == i + 1) && !(q.1 + 1 == i && q.2.category == 2))))) : hasL ρ nL ls ((lv.set i (some v)).set (i + 1) none) := by
  refine ⟨h.1, h.2.1, fun k w hk => ?_⟩
  rw [List.getElem?_set] at hk
  by_cases hki' : i + 1 = k
  · subst hki'
    rw [if_pos rfl] at hk
    split at hk <;> cases hk
  rw [if_neg hki', List.getElem?_set] at hk
  by_cases hki : i = k
  · subst hki
    rw [if_pos rfl] at hk
    split at hk
    · cases hk
      exact h.2.2 _ List.mem_cons_self
    · cases hk
  · rw [if_neg hki] at hk
    refine h.2.2 (k, cv ρ w) (List.mem_cons_of_mem _ (List.mem_filter.mpr ⟨asL_in hk, ?_⟩))
    have h1 : (k == i) = false := by simpa using fun q => hki q.symm
    have h5 : (k == i + 1) = false := by simpa using fun q => hki' q.symm
    simp only [h1, h5, Bool.not_false, Bool.true_and]
    by_cases h2 : k + 1 = i
    · have h3 := nsl_spec hn h2 hk
      simp [cv_cat, h3]
    · have h4 : (k + 1 == i) = false := by simpa using h2
      simp [h4]
theorem clL_set {I : aH} {lv : List (Option Value)} {i : Nat} {v : Value} (h : clL I lv) (hv : clV I v) : clL I (lv.set i (some v)) := by
  intro w hw
  rcases List.mem_or_eq_of_mem_set hw with q | q
  · exact h w q
  · cases q
    exact hv
theorem clL_setN {I : aH} {lv : List (Option Value)} {i : Nat} (h : clL I lv) : clL I (lv.set i none) := by
  intro w hw
  rcases List.mem_or_eq_of_mem_set hw with q | q
  · exact h w q
  · cases q
section Stores
variable {Z : Zt} {l0 : Launch} {R0 : Room} {cc : ByteArray} {nL : Nat} {own : String} {ret : Option FieldType} {Post : Option Value → aH → Prop} {I : aH} {lv : List (Option Value)} {st : List Value} {cells slots pc : Nat}
theorem V_istore_n {j : Fin 4} {x : Int32} (X : Fx Z l0 R0 cc nL own ret Post) (d : decode cc pc = .ok (.istore_n j, 1)) (hi : (j : Nat) < nL) (hn : nsl lv j = true) (k : V Z nL I (lv.set j (some (.int x))) st cells slots (pc + 1)) : V Z nL I lv (.int x :: st) cells slots pc := by
  obtain ⟨p, l, e, R, s, m, args, below, meth, c, Q, D, tC, A, ρ0, I0⟩ := Z
  obtain ⟨⟨hx, hb, hml, hown, hts⟩, hU, hlk, hret, rfl, rfl, rfl⟩ := X
  intro ρ H locs ls hH hE hlo hL hcL hcS
  exact lv_istore_n hx hb d rfl hL.list hi rfl (fun ls' h' => k ρ H locs ls' hH hE hlo (hasL.set1 (v := .int x) hn h') (clL_set hcL clV_i) (clS_tl hcS))
theorem V_istore {i : Nat} {x : Int32} (X : Fx Z l0 R0 cc nL own ret Post) (d : decode cc pc = .ok (.istore i, 2)) (hi : i < nL) (hn : nsl lv i = true) (k : V Z nL I (lv.set i (some (.int x))) st cells slots (pc + 2)) : V Z nL I lv (.int x :: st) cells slots pc := by
  obtain ⟨p, l, e, R, s, m, args, below, meth, c, Q, D, tC, A, ρ0, I0⟩ := Z
  obtain ⟨⟨hx, hb, hml, hown, hts⟩, hU, hlk, hret, rfl, rfl, rfl⟩ := X
  intro ρ H locs ls hH hE hlo hL hcL hcS
  exact lv_istore hx hb d hL.list hi rfl (fun ls' h' => k ρ H locs ls' hH hE hlo (hasL.set1 (v := .int x) hn h') (clL_set hcL clV_i) (clS_tl hcS))
theorem V_lstore_n {j : Fin 4} {x : Int64} (X : Fx Z l0 R0 cc nL own ret Post) (d : decode cc pc = .ok (.lstore_n j, 1)) (hi : (j : Nat) + 1 < nL) (hn : nsl lv j = true) (k : V Z nL I ((lv.set j (some (.long x))).set ((j : Nat) + 1) none) st cells slots (pc + 1)) : V Z nL I lv (.long x :: st) cells slots pc := by
  obtain ⟨p, l, e, R, s, m, args, below, meth, c, Q, D, tC, A, ρ0, I0⟩ := Z
  obtain ⟨⟨hx, hb, hml, hown, hts⟩, hU, hlk, hret, rfl, rfl, rfl⟩ := X
  intro ρ H locs ls hH hE hlo hL hcL hcS
  exact lv_lstore_n hx hb d rfl hL.list hi rfl (fun ls' h' => k ρ H locs ls' hH hE hlo (hasL.set2 (v := .long x) hn h') (clL_setN (clL_set hcL clV_l)) (clS_tl hcS))
theorem V_lstore {i : Nat} {x : Int64} (X : Fx Z l0 R0 cc nL own ret Post) (d : decode cc pc = .ok (.lstore i, 2)) (hi : i + 1 < nL) (hn : nsl lv i = true) (k : V Z nL I ((lv.set i (some (.long x))).set (i + 1) none) st cells slots (pc + 2)) : V Z nL I lv (.long x :: st) cells slots pc := by
  obtain ⟨p, l, e, R, s, m, args, below, meth, c, Q, D, tC, A, ρ0, I0⟩ := Z
  obtain ⟨⟨hx, hb, hml, hown, hts⟩, hU, hlk, hret, rfl, rfl, rfl⟩ := X
  intro ρ H locs ls hH hE hlo hL hcL hcS
  exact lv_lstore hx hb d hL.list hi rfl (fun ls' h' => k ρ H locs ls' hH hE hlo (hasL.set2 (v := .long x) hn h') (clL_setN (clL_set hcL clV_l)) (clS_tl hcS))
theorem V_astore_n {j : Fin 4} {v : Value} (X : Fx Z l0 R0 cc nL own ret Post) (d : decode cc pc = .ok (.astore_n j, 1)) (hi : (j : Nat) < nL) (hn : nsl lv j = true) (hr : isR v = true) (k : V Z nL I (lv.set j (some v)) st cells slots (pc + 1)) : V Z nL I lv (v :: st) cells slots pc := by
  obtain ⟨p, l, e, R, s, m, args, below, meth, c, Q, D, tC, A, ρ0, I0⟩ := Z
  obtain ⟨⟨hx, hb, hml, hown, hts⟩, hU, hlk, hret, rfl, rfl, rfl⟩ := X
  intro ρ H locs ls hH hE hlo hL hcL hcS
  rcases isR_or hr with rfl | ⟨a, rfl⟩
  · exact lv_astore_nN hx hb d rfl hL.list hi rfl (fun ls' h' => k ρ H locs ls' hH hE hlo (hasL.set1 (v := .null) hn h') (clL_set hcL clV_n) (clS_tl hcS))
  · exact lv_astore_n hx hb d rfl hL.list hi rfl (fun ls' h' => k ρ H locs ls' hH hE hlo (hasL.set1 (v := .ref a) hn h') (clL_set hcL (clS_hd hcS)) (clS_tl hcS))
theorem V_astore {i : Nat} {v : Value} (X : Fx Z l0 R0 cc nL own ret Post) (d : decode cc pc = .ok (.astore i, 2)) (hi : i < nL) (hn : nsl lv i = true) (hr : isR v = true) (k : V Z nL I (lv.set i (some v)) st cells slots (pc + 2)) : V Z nL I lv (v :: st) cells slots pc := by
  obtain ⟨p, l, e, R, s, m, args, below, meth, c, Q, D, tC, A, ρ0, I0⟩ := Z
  obtain ⟨⟨hx, hb, hml, hown, hts⟩, hU, hlk, hret, rfl, rfl, rfl⟩ := X
  intro ρ H locs ls hH hE hlo hL hcL hcS
  rcases isR_or hr with rfl | ⟨a, rfl⟩
  · exact lv_astoreN hx hb d hL.list hi rfl (fun ls' h' => k ρ H locs ls' hH hE hlo (hasL.set1 (v := .null) hn h') (clL_set hcL clV_n) (clS_tl hcS))
  · exact lv_astore hx hb d hL.list hi rfl (fun ls' h' => k ρ H locs ls' hH hE hlo (hasL.set1 (v := .ref a) hn h') (clL_set hcL (clS_hd hcS)) (clS_tl hcS))
theorem V_iinc {i : Nat} {n : Int} {x : Int32} (X : Fx Z l0 R0 cc nL own ret Post) (d : decode cc pc = .ok (.iinc i n, 3)) (h : lv[i]? = some (some (.int x))) (hi : i < nL) (hn : nsl lv i = true) (v : Int32) (hv : x + Int32.ofInt n = v) (k : V Z nL I (lv.set i (some (.int v))) st cells slots (pc + 3)) : V Z nL I lv st cells slots pc := by
  obtain ⟨p, l, e, R, s, m, args, below, meth, c, Q, D, tC, A, ρ0, I0⟩ := Z
  obtain ⟨⟨hx, hb, hml, hown, hts⟩, hU, hlk, hret, rfl, rfl, rfl⟩ := X
  intro ρ H locs ls hH hE hlo hL hcL hcS
  obtain ⟨k0, hk0⟩ := List.mem_iff_getElem?.mp (asL_in (ρ := ρ) h)
  exact lv_iinc (k := k0) hx hb d hL.list hk0 hv hi rfl (fun ls' h' => k ρ H locs ls' hH hE hlo (hasL.set1 (v := .int v) hn h') (clL_set hcL clV_i) hcS)
end Stores
end
section
/-! writing and making in the ideal heap -/
theorem cv_congr {I : aH} {ρ ρ' : Nat → Nat} (h : ∀ β, dm I β → ρ' β = ρ β) {v : Value} (hv : clV I v) : cv ρ' v = cv ρ v := by
  cases v with
  | ref a => simp only [cv]; rw [h a (hv a rfl)]
  | _ => rfl
theorem cvS_congr {I : aH} {ρ ρ' : Nat → Nat} (h : ∀ β, dm I β → ρ' β = ρ β) {st : List Value} (hv : clS I st) : st.map (cv ρ') = st.map (cv ρ) := List.map_congr_left fun v hm => cv_congr h (hv v hm)
theorem cE_congr {I : aH} {tC : Nat → ClassId} {ρ ρ' : Nat → Nat} (h : ∀ β, dm I β → ρ' β = ρ β) {o : aO} (ho : clO I o) : cE tC ρ' o = cE tC ρ o := by
  obtain ⟨t, n, f⟩ | ⟨c, fs⟩ := o
  · match f, ho with
    | .inl f, _ => rfl
    | .inr (.inl f), _ => rfl
    | .inr (.inr (.inl f)), _ => rfl
    | .inr (.inr (.inr (.inl f))), _ => rfl
    | .inr (.inr (.inr (.inr f))), ho =>
      have e : (fun j => (f j).map ρ') = (fun j => (f j).map ρ) := by
        funext j
        cases hj : f j with
        | none => rfl
        | some α => simp only [Option.map_some]; rw [h α (ho.1 t n f rfl j α hj)]
      simp only [cE, cA, e]
  · simp only [cE]
    rw [List.map_congr_left (fun v hm => cv_congr h (ho.2 c fs rfl v hm))]
theorem hasL.to {I : aH} {ρ ρ' : Nat → Nat} {nL : Nat} {ls : Array Slot} {lv : List (Option Value)} (h : ∀ β, dm I β → ρ' β = ρ β) (hc : clL I lv) (k : hasL ρ nL ls lv) : hasL ρ' nL ls lv :=
  ⟨k.1, k.2.1, fun i v hv => by rw [cv_congr h (clL_at hc hv)]; exact k.2.2 i v hv⟩
theorem clV.to {I I' : aH} (h : ∀ β, dm I β → dm I' β) {v : Value} (k : clV I v) : clV I' v := fun α q => h α (k α q)
theorem clO.to {I I' : aH} (h : ∀ β, dm I β → dm I' β) {o : aO} (k : clO I o) : clO I' o := ⟨fun t n f e j α q => h α (k.1 t n f e j α q), fun c fs e v hv => clV.to h (k.2 c fs e v hv)⟩
theorem clL.to {I I' : aH} (h : ∀ β, dm I β → dm I' β) {lv : List (Option Value)} (k : clL I lv) : clL I' lv := fun v hv => clV.to h (k v hv)
theorem clS.to {I I' : aH} (h : ∀ β, dm I β → dm I' β) {st : List Value} (k : clS I st) : clS I' st := fun v hv => clV.to h (k v hv)
theorem dm_hu {I : aH} {α : Nat} {o : aO} : ∀ β, dm I β → dm (hu I α o) β := by
  intro β h
  rcases h with h | h
  · refine Or.inl ?_
    unfold hu
    split
    · exact fun q => by cases q
    · exact h
  · exact Or.inr h
theorem ext_dm {ρ0 ρ : Nat → Nat} {I0 I : aH} (h : ext ρ0 I0 ρ I) : ∀ β, dm I0 β → dm I β := fun β q => q.elim (fun z => Or.inl (h.2.1 β z)) Or.inr
section World
variable {D : va_G} {tC : Nat → ClassId} {A : Nat → Prop} {ρ : Nat → Nat} {I : aH} {s : State} {H : Heap}
theorem okH.moved {u U : State} (hvm : u.vm.Alike U.vm) (h : okH D tC A ρ I u H) : okH D tC A ρ I U H := ⟨h.1, h.2.1, h.2.2.1, h.2.2.2.1, h.2.2.2.2.1, va_Z.moved hvm h.2.2.2.2.2.1, h.2.2.2.2.2.2⟩
theorem okH.P {α : Nat} {o : aO} (h : okH D tC A ρ I s H) (hα : I α = some o) : va_P D vwCl [(ρ α, cE tC ρ o)] H := by
  intro k q hk
  have hz : k < 1 := (List.getElem?_eq_some_iff.mp hk).1
  rw [show k = 0 by omega] at hk
  cases hk
  exact h.1 α o hα
theorem okH.lt {α : Nat} {o : aO} (h : okH D tC A ρ I s H) (hα : I α = some o) : ρ α < H.size := (h.1 α o hα).lt
theorem okH.inA {α : Nat} {o : aO} (h : okH D tC A ρ I s H) (hα : I α = some o) (hr : ¬ ro α) : A (ρ α) := (h.2.2.2.1 α (by rw [hα]; exact fun q => by cases q)).resolve_left hr
/-- a cell is written -/
theorem okH.write {α : Nat} {o o' : aO} {H' : Heap} (h : okH D tC A ρ I s H) (hα : I α = some o) (hr : ¬ ro α) (hcl : clO I o') (hat : va_at D vwCl (ρ α, cE tC ρ o') H') (hsz : H'.size = H.size) (hq : ∀ q, q ≠ ρ α → H'[q]? = H[q]?) : okH D tC A ρ (hu I α o') s H' := by
  have hA := h.inA hα hr
  have hne : I α ≠ none := by rw [hα]; exact fun q => by cases q
  obtain ⟨h1, h2, h3, h4, h5, h6, h7, h8⟩ := h
  have hdn : ∀ β, hu I α o' β ≠ none → I β ≠ none := by
    intro β hβ
    by_cases e : β = α
    · rw [e]; exact hne
    · rwa [hu_n e] at hβ
  refine ⟨?_, fun a b ha hb => h2 a b (hdn a ha) (hdn b hb), ?_, fun β hβ => h4 β (hdn β hβ), fun q hq2 => h5 q (by rw [← hsz]; exact hq2), va_Z.kept h6 (fun a ha hna => hq a (fun e => hna (e ▸ hA))), ?_, ?_⟩
  · intro β b hb
    by_cases e : β = α
    · subst e
      rw [hu_s] at hb
      cases hb
      exact hat
    · rw [hu_n e] at hb
      exact (h1 β b hb).kept (hq _ (fun q => e (h2 β α (by rw [hb]; exact fun q => by cases q) hne q)))
  · intro β b hb
    by_cases e : β = α
    · subst e
      rw [hu_s] at hb
      cases hb
      exact hcl.to dm_hu
    · rw [hu_n e] at hb
      exact (h3 β b hb).to dm_hu
  · rw [hu_n (fun e => hr (Or.inl e.symm))]
    exact h7
  · by_cases e : mirr = α
    · rw [← e] at hne
      exact absurd h8 hne
    · rw [hu_n e]
      exact h8
def ru (ρ : Nat → Nat) (α q : Nat) : Nat → Nat := fun β => if β = α then q else ρ β
theorem ru_eq {α q : Nat} (hα : I α = none) (hm : α ≠ mirr) : ∀ β, dm I β → ru ρ α q β = ρ β := by
  intro β hβ
  refine if_neg (fun e => ?_)
  subst e
  exact hβ.elim (fun z => z hα) hm
/-- a cell is made -/
theorem okH.make {α : Nat} {o : aO} {H' : Heap} (h : okH D tC A ρ I s H) (hα : I α = none) (hm : α ≠ mirr) (hr : ¬ ro α) (hcl : clO I o) (hat : va_at D vwCl (H.size, cE tC ρ o) H') (hsz : H'.size = H.size + 1) (hq : ∀ q, q < H.size → H'[q]? = H[q]?) : okH D tC A (ru ρ α H.size) (hu I α o) s H' := by
  have hru := ru_eq (ρ := ρ) (q := H.size) hα hm
  have hlt : ∀ β, I β ≠ none → ρ β < H.size := by
    intro β hβ
    cases hb : I β with
    | none => exact absurd hb hβ
    | some b => exact h.lt hb
  obtain ⟨h1, h2, h3, h4, h5, h6, h7, h8⟩ := h
  have hα' : ru ρ α H.size α = H.size := if_pos rfl
  have hβ' : ∀ β, β ≠ α → ru ρ α H.size β = ρ β := fun β e => if_neg e
  have hdn : ∀ β, β ≠ α → hu I α o β ≠ none → I β ≠ none := fun β e hβ => by rwa [hu_n e] at hβ
  refine ⟨?_, ?_, ?_, ?_, fun q hq2 => h5 q (by omega), ?_, ?_, ?_⟩
  · intro β b hb
    by_cases e : β = α
    · subst e
      rw [hu_s] at hb
      cases hb
      rw [hα', cE_congr hru hcl]
      exact hat
    · rw [hu_n e] at hb
      rw [hβ' β e, cE_congr hru (h3 β b hb)]
      exact (h1 β b hb).kept (hq _ ((h1 β b hb).lt))
  · intro a b ha hb e
    by_cases ea : a = α
    · by_cases eb : b = α
      · rw [ea, eb]
      · rw [ea, hα', hβ' b eb] at e
        have := hlt b (hdn b eb hb)
        omega
    · by_cases eb : b = α
      · rw [eb, hα', hβ' a ea] at e
        have := hlt a (hdn a ea ha)
        omega
      · rw [hβ' a ea, hβ' b eb] at e
        exact h2 a b (hdn a ea ha) (hdn b eb hb) e
  · intro β b hb
    by_cases e : β = α
    · subst e
      rw [hu_s] at hb
      cases hb
      exact hcl.to dm_hu
    · rw [hu_n e] at hb
      exact (h3 β b hb).to dm_hu
  · intro β hβ
    by_cases e : β = α
    · subst e
      rw [hα']
      exact Or.inr (h5 _ (Nat.le_refl _))
    · rw [hβ' β e]
      exact h4 β (hdn β e hβ)
  · have e : ru ρ α H.size zed = ρ zed := if_neg (fun q => hr (Or.inl q.symm))
    unfold vaZ
    rw [e]
    exact va_Z.kept h6 (fun a ha _ => hq a ha)
  · rw [hu_n (fun e => hr (Or.inl e.symm))]
    exact h7
  · rw [hu_n (fun e => hm e.symm)]
    exact h8
theorem ext_hu {ρ0 : Nat → Nat} {I0 : aH} {α : Nat} {o : aO} (h : ext ρ0 I0 ρ I) (hr : ¬ ro α) : ext ρ0 I0 ρ (hu I α o) := by
  refine ⟨h.1, fun β hβ => ?_, fun β hβ => ?_⟩
  · have := h.2.1 β hβ
    unfold hu
    split
    · exact fun q => by cases q
    · exact this
  · rw [hu_n (fun e : β = α => hr (by rw [← e]; exact hβ))]
    exact h.2.2 β hβ
theorem ext_ru {ρ0 : Nat → Nat} {I0 : aH} {α q : Nat} {o : aO} (h : ext ρ0 I0 ρ I) (hα : I α = none) (hm : α ≠ mirr) (hr : ¬ ro α) : ext ρ0 I0 (ru ρ α q) (hu I α o) := by
  have h2 := ext_hu (o := o) h hr
  refine ⟨fun β hβ => ?_, h2.2⟩
  rw [ru_eq hα hm β (ext_dm h β hβ)]
  exact h.1 β hβ
end World
theorem clO_set {I : aH} {c k : Nat} {fs : List Value} {v : Value} (h : clO I (.inr (c, fs))) (hv : clV I v) : clO I (.inr (c, fs.set k v)) := by
  refine ⟨fun t n f e => (by cases e), fun c' fs' e w hw => ?_⟩
  cases e
  rcases List.mem_or_eq_of_mem_set hw with q | q
  · exact h.2 c fs rfl w q
  · rw [q]; exact hv
theorem clO_up {I : aH} {t n i : Nat} {f : Nat → Option Nat} {x : Option Nat} (h : clO I (.inl (t, aR n f))) (hx : ∀ α, x = some α → dm I α) : clO I (.inl (t, aR n (va_up f i x))) := by
  refine ⟨fun t' n' f' e j α q => ?_, fun c fs e => (by cases e)⟩
  cases e
  unfold va_up at q
  split at q
  · exact hx α q
  · exact h.1 t n f rfl j α q
theorem clO_i {I : aH} {t n : Nat} {f : Nat → Int32} : clO I (.inl (t, aI n f)) := ⟨fun _ _ _ e => (by cases e), fun _ _ e => (by cases e)⟩
theorem clO_l {I : aH} {t n : Nat} {f : Nat → Int64} : clO I (.inl (t, aL n f)) := ⟨fun _ _ _ e => (by cases e), fun _ _ e => (by cases e)⟩
end
section
/-! rows for fields, arrays, calls, ends -/
def CI (ci : Nat) (C : String) (T : u_T) (N : Nat) (ty : Nat → FieldType) : Prop := vwCl[ci]? = some (C, T, N) ∧ (∀ w ∈ u_ws C T N, w ∈ wsA) ∧ (∀ k, k < N → parseFieldDescriptor (T k).2.2.1 = some (ty k)) ∧ (∀ a, a < N → ∀ b, b < N → a ≠ b → (T a).2.1 ≠ (T b).2.1)
theorem ws_of {C : String} {T : u_T} {N : Nat} (h : ∀ k, k < N → u_lay C T k ∈ wsA) : ∀ w ∈ u_ws C T N, w ∈ wsA := by
  intro w hw
  obtain ⟨k, hk, rfl⟩ := List.mem_map.mp hw
  exact h k (List.mem_range.mp hk)
/-- a field's entry: class ci, its field k, final or not, its type -/
def FK (own : String) (idx ci k : Nat) (fin : Bool) (fty : FieldType) : Prop := ∃ (C : String) (T : u_T) (N : Nat) (ty : Nat → FieldType) (ref : String), CI ci C T N ty ∧ k < N ∧ Cond.fieldLink own idx ref (T k).2.1 (T k).2.2.1 ∈ wsA ∧ (ref = (T k).1 ∨ Cond.sameField ref (T k).1 (T k).2.1 (T k).2.2.1 ∈ wsA) ∧ (T k).2.2.2 = fin ∧ ty k = fty ∧ (fin = true → (T k).1 = own)
/-- a made object's entry -/
def NK (own : String) (idx ci N : Nat) (fs : List Value) : Prop := ∃ (C : String) (T : u_T) (ty : Nat → FieldType), CI ci C T N ty ∧ Cond.classLink own idx C ∈ wsA ∧ Cond.instantiable C N ∈ wsA ∧ Cond.initialized C ∈ wsA ∧ (∀ j, j < N → defaultValue (ty j) = vp_V fs j) ∧ (∀ v ∈ fs, ∀ a, v ≠ .ref a)
def Nm (Z : Zt) (n : String) : Prop := match Z with
  | (_, _, _, _, _, _, _, _, meth, _) => meth.name = n
theorem nar_cv {ρ : Nat → Nat} {ty : FieldType} {v : Value} (h : narrow ty v = v) : narrow ty (cv ρ v) = cv ρ v := by
  cases v with
  | ref a => cases ty <;> rfl
  | _ => exact h
theorem fit_cv {ρ : Nat → Nat} {ty : FieldType} {v : Value} (h : fits ty v = true) : fits ty (cv ρ v) = true := by
  cases v with
  | ref a => cases ty <;> first | exact h | cases h
  | _ => exact h
theorem set_map {ρ : Nat → Nat} {fs : List Value} {k : Nat} {v : Value} : (fs.map (cv ρ)).set k (cv ρ v) = (fs.set k v).map (cv ρ) := by rw [List.map_set]
section Heap
variable {Z : Zt} {l0 : Launch} {R0 : Room} {cc : ByteArray} {nL : Nat} {own : String} {ret : Option FieldType} {Post : Option Value → aH → Prop} {I : aH} {lv : List (Option Value)} {st : List Value} {cells slots pc : Nat}
theorem V_get {idx ci k α : Nat} {fs : List Value} {v : Value} {fin : Bool} {fty : FieldType} (X : Fx Z l0 R0 cc nL own ret Post) (d : decode cc pc = .ok (.getfield idx, 3)) (F : FK own idx ci k fin fty) (h : I α = some (.inr (ci, fs))) (hv : fs[k]? = some v) (kk : V Z nL I lv (v :: st) cells slots (pc + 3)) : V Z nL I lv (.ref α :: st) cells slots pc := by
  obtain ⟨p, l, e, R, s, m, args, below, meth, c, Q, D, tC, A, ρ0, I0⟩ := Z
  obtain ⟨⟨hx, hb, hml, hown, hts⟩, hU, hlk, hret, rfl, rfl, rfl⟩ := X
  intro ρ H locs ls hH hE hlo hL hcL hcS
  obtain ⟨C, T, N, ty, ref, ⟨hc, hin, hty, hnm⟩, hk, hl, hsm, -⟩ := F
  refine va_get (ref := ref) hx hb hts hin hown hU.1 (hH.P h) 0 rfl hc k hk (hts _ hl) ?_ (v := cv ρ v) ?_ d (kk ρ H locs ls hH hE hlo hL hcL (clS_cons ((hH.2.2.1 α _ h).2 ci fs rfl v (List.mem_of_getElem? hv)) (clS_tl hcS)))
  · intro x hx
    rcases hsm with rfl | hsm
    · exact hx
    · exact u_same (hts _ hsm) x hx
  · rw [List.getElem?_map, hv]
    rfl
theorem V_put {idx ci k α : Nat} {fs : List Value} {v : Value} {fty : FieldType} (X : Fx Z l0 R0 cc nL own ret Post) (d : decode cc pc = .ok (.putfield idx, 3)) (F : FK own idx ci k false fty) (h : I α = some (.inr (ci, fs))) (hr : ¬ ro α) (hl0 : k < fs.length) (hn : narrow fty v = v) (hf : fits fty v = true) (kk : V Z nL (hu I α (.inr (ci, fs.set k v))) lv st cells slots (pc + 3)) : V Z nL I lv (v :: .ref α :: st) cells slots pc := by
  obtain ⟨p, l, e, R, s, m, args, below, meth, c, Q, D, tC, A, ρ0, I0⟩ := Z
  obtain ⟨⟨hx, hb, hml, hown, hts⟩, hU, hlk, hret, rfl, rfl, rfl⟩ := X
  intro ρ H locs ls hH hE hlo hL hcL hcS
  obtain ⟨C, T, N, ty, ref, ⟨hc, hin, hty, hnm⟩, hk, hl, hsm, hfin, rfl, -⟩ := F
  have hap := va_apart (own := own) hts hin ty hty hnm hU.1 hc
  obtain ⟨r, h1, cell, q1, q2, q3, q4⟩ := hH.1 α _ h
  have hrr : r = (C, T, N) := Option.some.inj (h1.symm.trans hc)
  subst hrr
  obtain ⟨hS, hfc, kC, hkC, hkind⟩ := hU.1.1 ci _ hc
  obtain ⟨cf, kf, fi, f, hi, hsl⟩ := hS k hk
  have hlay := hts _ (hin _ (u_in_lay hk))
  unfold u_lay at hlay
  rw [if_neg (by rw [hfin]; decide)] at hlay
  have hst := (u_facts hfc hkC (u_lays hts hin hk) hi).1
  have h6 := u_store hfc hkC hkind hlay hi (hty k hk) (nar_cv (ρ := ρ) hn) (fit_cv (ρ := ρ) hf)
  have hsame : s.fieldFound? ref (T k).2.1 (T k).2.2.1 = some (cf, kf, fi, f) := by
    rcases hsm with rfl | hsm
    · exact hi
    · exact u_same (hts _ hsm) _ hi
  have hcv : clV I v := clS_hd hcS
  have hA := hH.inA h hr
  refine W.putK hx hb (f := f) ⟨hown, hts _ hl, ⟨_, _, _, hsame⟩, hst⟩ (by rw [q2]; exact h6) q1 q3 (by rw [hsl]; exact k2_hasslot (q4 k hk)) rfl rfl d fun H' e1 e2 e3 => ?_
  rw [hsl] at e1 ⊢
  refine kk ρ H' _ ls (hH.write h hr (clO_set (hH.2.2.1 α _ h) hcv) ?_ e2 e3) (ext_hu hE hr) ?_ hL (hcL.to dm_hu) ((clS_tl (clS_tl hcS)).to dm_hu)
  · refine ⟨_, hc, t_OB.to (V := updV (vp_V (fs.map (cv ρ))) k (cv ρ v)) ⟨_, e1, q2, q3, t_set q4 hap hk (cv ρ v)⟩ (fun j _ => ?_)⟩
    rw [vp_updV_set (by rw [List.length_map]; exact hl0), set_map]
  · intro q hq
    rcases List.mem_append.mp hq with hq | hq
    · exact hlo q hq
    · rw [List.mem_singleton.mp hq]
      exact hA
theorem V_putF {idx ci k α : Nat} {fs : List Value} {v : Value} {fty : FieldType} (X : Fx Z l0 R0 cc nL own ret Post) (hmn : Nm Z "<init>") (d : decode cc pc = .ok (.putfield idx, 3)) (F : FK own idx ci k true fty) (h : I α = some (.inr (ci, fs))) (hr : ¬ ro α) (hl0 : k < fs.length) (hn : narrow fty v = v) (hf : fits fty v = true) (kk : V Z nL (hu I α (.inr (ci, fs.set k v))) lv st cells slots (pc + 3)) : V Z nL I lv (v :: .ref α :: st) cells slots pc := by
  obtain ⟨p, l, e, R, s, m, args, below, meth, c, Q, D, tC, A, ρ0, I0⟩ := Z
  obtain ⟨⟨hx, hb, hml, hown, hts⟩, hU, hlk, hret, rfl, rfl, rfl⟩ := X
  intro ρ H locs ls hH hE hlo hL hcL hcS
  obtain ⟨C, T, N, ty, ref, ⟨hc, hin, hty, hnm⟩, hk, hl, hsm, hfin, rfl, hdecl⟩ := F
  have hap := va_apart (own := own) hts hin ty hty hnm hU.1 hc
  obtain ⟨r, h1, cell, q1, q2, q3, q4⟩ := hH.1 α _ h
  have hrr : r = (C, T, N) := Option.some.inj (h1.symm.trans hc)
  subst hrr
  obtain ⟨hS, hfc, kC, hkC, hkind⟩ := hU.1.1 ci _ hc
  obtain ⟨cf, kf, fi, f, hi, hsl⟩ := hS k hk
  have hlay := hts _ (hin _ (u_in_lay hk))
  unfold u_lay at hlay
  rw [if_pos hfin] at hlay
  have hst := (u_facts hfc hkC (u_lays hts hin hk) hi).1
  have hcf : m.cls = cf := by
    obtain ⟨_, _, c', _, _, _, -, -, hf', -, -, -, hown2, -⟩ := Cond.laysFinal_spec hlay
    have e1 : c' = cf := by have := hi.symm.trans hf'; simp at this; exact this.1.symm
    rw [hdecl rfl] at hown2
    rw [← e1]; exact Option.some.inj (hown.symm.trans hown2)
  have h6 := u_fits hfc hkC hkind (Or.inr hlay) hi (hty k hk) (nar_cv (ρ := ρ) hn) (fit_cv (ρ := ρ) hf)
  have hsame : s.fieldFound? ref (T k).2.1 (T k).2.2.1 = some (cf, kf, fi, f) := by
    rcases hsm with rfl | hsm
    · exact hi
    · exact u_same (hts _ hsm) _ hi
  have hcv : clV I v := clS_hd hcS
  have hA := hH.inA h hr
  refine W.putFinK hx hb hown (hts _ hl) hsame hst hcf hmn (by rw [q2]; exact h6) q1 q3 (by rw [hsl]; exact k2_hasslot (q4 k hk)) rfl rfl d fun H' e1 e2 e3 => ?_
  rw [hsl] at e1 ⊢
  refine kk ρ H' _ ls (hH.write h hr (clO_set (hH.2.2.1 α _ h) hcv) ?_ e2 e3) (ext_hu hE hr) ?_ hL (hcL.to dm_hu) ((clS_tl (clS_tl hcS)).to dm_hu)
  · refine ⟨_, hc, t_OB.to (V := updV (vp_V (fs.map (cv ρ))) k (cv ρ v)) ⟨_, e1, q2, q3, t_set q4 hap hk (cv ρ v)⟩ (fun j _ => ?_)⟩
    rw [vp_updV_set (by rw [List.length_map]; exact hl0), set_map]
  · intro q hq
    rcases List.mem_append.mp hq with hq | hq
    · exact hlo q hq
    · rw [List.mem_singleton.mp hq]
      exact hA
theorem vpV_map {ρ : Nat → Nat} {fs : List Value} (h : ∀ v ∈ fs, ∀ a, v ≠ .ref a) (j : Nat) : vp_V fs j = vp_V (fs.map (cv ρ)) j := by
  unfold vp_V
  rw [List.getD_eq_getElem?_getD, List.getD_eq_getElem?_getD, List.getElem?_map]
  cases hj : fs[j]? with
  | none => rfl
  | some v =>
    have := h v (List.mem_of_getElem? hj)
    cases v with
    | ref a => exact absurd rfl (this a)
    | _ => rfl
theorem V_new {idx ci N : Nat} {fs : List Value} (X : Fx Z l0 R0 cc nL own ret Post) (d : decode cc pc = .ok (.new idx, 3)) (F : NK own idx ci N fs) (α : Nat) (h : I α = none) (hm : α ≠ mirr) (hr : ¬ ro α) (hce : cells + 1 ≤ R0.cells) (hsl : slots + N ≤ R0.slots) (kk : V Z nL (hu I α (.inr (ci, fs))) lv (.ref α :: st) (cells + 1) (slots + N) (pc + 3)) : V Z nL I lv st cells slots pc := by
  obtain ⟨p, l, e, R, s, m, args, below, meth, c, Q, D, tC, A, ρ0, I0⟩ := Z
  obtain ⟨⟨hx, hb, hml, hown, hts⟩, hU, hlk, hret, rfl, rfl, rfl⟩ := X
  intro ρ H locs ls hH hE hlo hL hcL hcS
  obtain ⟨C, T, ty, ⟨hc, hin, hty, hnm⟩, hcl, hinst, hini, hfs, hnr⟩ := F
  have hKn := hU.1.1 ci _ hc
  refine W.newcK hx hb hown (hts _ hcl) (hts _ hinst) (hts _ hini) rfl d hce hsl hKn.2.1 rfl fun H1 kC hkC e1 z1 o1 => ?_
  have hat : va_at D vwCl (H.size, cE tC ρ (.inr (ci, fs))) H1 := ⟨_, hc, (u_born ty hts hin hKn hkC e1 hty).to (fun j hj => (hfs j hj).trans (vpV_map hnr j))⟩
  have hclo : clO I (.inr (ci, fs)) := ⟨fun t n f e => (by cases e), fun c' fs' e v hv a ea => absurd ea (hnr v (by cases e; exact hv) a)⟩
  have k1 := kk (ru ρ α H.size) H1 locs ls (hH.make h hm hr hclo hat z1 o1) (ext_ru hE h hm hr) hlo (hL.to (ru_eq h hm) hcL) (hcL.to dm_hu) (clS_cons (clV_r (by rw [hu_s]; exact fun q => by cases q)) (hcS.to dm_hu))
  rw [List.map_cons, cvS_congr (ru_eq h hm) hcS] at k1
  have e2 : cv (ru ρ α H.size) (.ref α) = .ref H.size := by simp [cv, ru]
  rw [e2] at k1
  exact k1
theorem newa_core {D : va_G} {tC : Nat → ClassId} {s : State} (hK : va_K D vwCl (tyL tC) s) {cA0 : ClassId} {ty : FieldType} {t : Nat} (ht : (tyL tC)[t]? = some (tC t, ty)) (ho : ∀ C, ty ≠ .object C) (hf : s.vm.findClass ("[" ++ ty.toString) = some cA0) : cA0 = tC t := by
  have h := (hK.2 t _ ht).2
  have h2 : s.vm.findClass ("[" ++ ty.toString) = some (tC t) := by
    cases ty <;> first | exact h | exact absurd rfl (ho _)
  exact Option.some.inj (hf.symm.trans h2)
theorem V_newarray {atype : ArrayType} {n : Int32} {a0 : vp_A} {t : Nat} {ty : FieldType} (X : Fx Z l0 R0 cc nL own ret Post) (d : decode cc pc = .ok (.newarray atype, 2)) (N' : Nat) (hw : Cond.arrayClass (newarray.typeOf atype) ∈ wsA) (hty : newarray.typeOf atype = ty) (ht : ∀ tC, (tyL tC)[t]? = some (tC t, ty)) (ho : ∀ C, ty ≠ .object C) (ha : ∀ cA : ClassId, vp_cell cA a0 = arrV cA N' (fun _ => defaultValue ty)) (hca : ∀ ρ, cA ρ a0 = a0) (hcl : ∀ I, clO I (.inl (t, a0))) (hn : ¬ n < 0) (hN : n.toNatClampNeg = N') (hby : N' * componentBytes ty ≤ 536870912) (α : Nat) (h : I α = none) (hm : α ≠ mirr) (hr : ¬ ro α) (hce : cells + 1 ≤ R0.cells) (hsl : slots + N' ≤ R0.slots) (kk : V Z nL (hu I α (.inl (t, a0))) lv (.ref α :: st) (cells + 1) (slots + N') (pc + 2)) : V Z nL I lv (.int n :: st) cells slots pc := by
  obtain ⟨p, l, e, R, s, m, args, below, meth, c, Q, D, tC, A, ρ0, I0⟩ := Z
  obtain ⟨⟨hx, hb, hml, hown, hts⟩, hU, hlk, hret, rfl, rfl, rfl⟩ := X
  intro ρ H locs ls hH hE hlo hL hcL hcS
  subst hty
  refine va_newaK hx hb (hts _ hw) rfl d rfl hn hN hby hce hsl rfl fun H1 cA1 e1 z1 o1 hAr hNm => ?_
  have hcA := newa_core hU.1 (ht tC) ho hNm
  subst hcA
  have hat : va_at D vwCl (H.size, cE tC ρ (.inl (t, a0))) H1 := by
    show H1[H.size]? = some (vp_cell (tC t) (cA ρ a0))
    rw [hca, ha]
    exact e1
  have k1 := kk (ru ρ α H.size) H1 locs ls (hH.make h hm hr (hcl I) hat z1 o1) (ext_ru hE h hm hr) hlo (hL.to (ru_eq h hm) hcL) (hcL.to dm_hu) (clS_cons (clV_r (by rw [hu_s]; exact fun q => by cases q)) ((clS_tl hcS).to dm_hu))
  rw [List.map_cons, cvS_congr (ru_eq h hm) (clS_tl hcS)] at k1
  have e2 : cv (ru ρ α H.size) (.ref α) = .ref H.size := by simp [cv, ru]
  rw [e2] at k1
  exact k1
theorem V_anewarray {idx t : Nat} {C : String} {n : Int32} (X : Fx Z l0 R0 cc nL own ret Post) (d : decode cc pc = .ok (.anewarray idx, 3)) (N' : Nat) (hw : Cond.classLink own idx C ∈ wsA) (ht : ∀ tC, (tyL tC)[t]? = some (tC t, .object C)) (hC : C = sOb ∨ C = RX0) (hn : ¬ n < 0) (hN : n.toNatClampNeg = N') (hby : N' * 4 ≤ 536870912) (α : Nat) (h : I α = none) (hm : α ≠ mirr) (hr : ¬ ro α) (hce : cells + 1 ≤ R0.cells) (hsl : slots + N' ≤ R0.slots) (kk : V Z nL (hu I α (.inl (t, aR N' (fun _ => none)))) lv (.ref α :: st) (cells + 1) (slots + N') (pc + 3)) : V Z nL I lv (.int n :: st) cells slots pc := by
  obtain ⟨p, l, e, R, s, m, args, below, meth, c, Q, D, tC, A, ρ0, I0⟩ := Z
  obtain ⟨⟨hx, hb, hml, hown, hts⟩, hU, hlk, hret, rfl, rfl, rfl⟩ := X
  intro ρ H locs ls hH hE hlo hL hcL hcS
  subst hN
  have hover : va_AO C s := by
    rcases hC with rfl | rfl
    · exact hU.2.2.1
    · exact hU.2.2.2.1
  refine W.anew hx hb hown (hts _ hw) (va_AO.use hover) rfl d rfl hn hby hce hsl fun cA1 kA comp f1 f2 f3 f4 => ?_
  obtain ⟨kA', comp', g1, g2, g3, g4⟩ := (hU.1.2 t _ (ht tC)).2
  have hcA : cA1 = tC t := Option.some.inj (f1.symm.trans g4)
  subst hcA
  generalize hH1 : H.push ({ cls := tC t, slots := Array.replicate n.toNatClampNeg .null, vm := .none } : Cell) = H1
  have z1 : H1.size = H.size + 1 := by rw [← hH1, Array.size_push]
  have e1 : H1[H.size]? = some (arrV (tC t) n.toNatClampNeg (fun _ => .null)) := by rw [← hH1, Array.getElem?_push_size, ← arrV_new]
  have o1 : ∀ q : Nat, q < H.size → H1[q]? = H[q]? := fun q hq => by rw [← hH1, Array.getElem?_push, if_neg (Nat.ne_of_lt hq)]
  have hat : va_at D vwCl (H.size, cE tC ρ (.inl (t, aR n.toNatClampNeg (fun _ => none)))) H1 := by
    show H1[H.size]? = some (vp_cell (tC t) _)
    rw [e1]
    rfl
  have hclo : clO I (.inl (t, aR n.toNatClampNeg (fun _ => none))) := ⟨fun t n f e j α q => (by cases e; cases q), fun c' fs' e => (by cases e)⟩
  have k1 := kk (ru ρ α H.size) H1 locs ls (hH.make h hm hr hclo hat z1 o1) (ext_ru hE h hm hr) hlo (hL.to (ru_eq h hm) hcL) (hcL.to dm_hu) (clS_cons (clV_r (by rw [hu_s]; exact fun q => by cases q)) ((clS_tl hcS).to dm_hu))
  rw [List.map_cons, cvS_congr (ru_eq h hm) (clS_tl hcS)] at k1
  have e2 : cv (ru ρ α H.size) (.ref α) = .ref H.size := by simp [cv, ru]
  rw [e2] at k1
  exact k1
end Heap
end
section
section Arrays
variable {Z : Zt} {l0 : Launch} {R0 : Room} {cc : ByteArray} {nL : Nat} {own : String} {ret : Option FieldType} {Post : Option Value → aH → Prop} {I : aH} {lv : List (Option Value)} {st : List Value} {cells slots pc : Nat}
theorem V_iaload {α n : Nat} {f : Nat → Int32} {i : Int32} (X : Fx Z l0 R0 cc nL own ret Post) (d : decode cc pc = .ok (.iaload, 1)) (h : I α = some (.inl (0, aI n f))) (hi : vp_in i n) (k : V Z nL I lv (.int (f i.toNatClampNeg) :: st) cells slots (pc + 1)) : V Z nL I lv (.int i :: .ref α :: st) cells slots pc := by
  obtain ⟨p, l, e, R, s, m, args, below, meth, c, Q, D, tC, A, ρ0, I0⟩ := Z
  obtain ⟨⟨hx, hb, hml, hown, hts⟩, hU, hlk, hret, rfl, rfl, rfl⟩ := X
  intro ρ H locs ls hH hE hlo hL hcL hcS
  exact va_iald hx hb hU.1 (hH.P h) 0 0 rfl rfl hi d (k ρ H locs ls hH hE hlo hL hcL (clS_cons clV_i (clS_tl (clS_tl hcS))))
theorem V_laload {α n : Nat} {f : Nat → Int64} {i : Int32} (X : Fx Z l0 R0 cc nL own ret Post) (d : decode cc pc = .ok (.laload, 1)) (h : I α = some (.inl (1, aL n f))) (hi : vp_in i n) (k : V Z nL I lv (.long (f i.toNatClampNeg) :: st) cells slots (pc + 1)) : V Z nL I lv (.int i :: .ref α :: st) cells slots pc := by
  obtain ⟨p, l, e, R, s, m, args, below, meth, c, Q, D, tC, A, ρ0, I0⟩ := Z
  obtain ⟨⟨hx, hb, hml, hown, hts⟩, hU, hlk, hret, rfl, rfl, rfl⟩ := X
  intro ρ H locs ls hH hE hlo hL hcL hcS
  exact va_lald hx hb hU.1 (hH.P h) 0 1 rfl rfl hi d (k ρ H locs ls hH hE hlo hL hcL (clS_cons clV_l (clS_tl (clS_tl hcS))))
theorem V_baload {α n : Nat} {f : Nat → Int32} {i : Int32} (X : Fx Z l0 R0 cc nL own ret Post) (d : decode cc pc = .ok (.baload, 1)) (h : I α = some (.inl (2, aI n f))) (hi : vp_in i n) (k : V Z nL I lv (.int (f i.toNatClampNeg) :: st) cells slots (pc + 1)) : V Z nL I lv (.int i :: .ref α :: st) cells slots pc := by
  obtain ⟨p, l, e, R, s, m, args, below, meth, c, Q, D, tC, A, ρ0, I0⟩ := Z
  obtain ⟨⟨hx, hb, hml, hown, hts⟩, hU, hlk, hret, rfl, rfl, rfl⟩ := X
  intro ρ H locs ls hH hE hlo hL hcL hcS
  exact va_zald hx hb hU.1 (hH.P h) 0 2 rfl rfl hi d (k ρ H locs ls hH hE hlo hL hcL (clS_cons clV_i (clS_tl (clS_tl hcS))))
theorem cv_rf (ρ : Nat → Nat) (x : Option Nat) : cv ρ (va_rf x) = va_rf (x.map ρ) := by cases x <;> rfl
theorem V_aaload {α n t : Nat} {C : String} {f : Nat → Option Nat} {i : Int32} (X : Fx Z l0 R0 cc nL own ret Post) (d : decode cc pc = .ok (.aaload, 1)) (ht : ∀ tC, (tyL tC)[t]? = some (tC t, .object C)) (h : I α = some (.inl (t, aR n f))) (hi : vp_in i n) (k : V Z nL I lv (va_rf (f i.toNatClampNeg) :: st) cells slots (pc + 1)) : V Z nL I lv (.int i :: .ref α :: st) cells slots pc := by
  obtain ⟨p, l, e, R, s, m, args, below, meth, c, Q, D, tC, A, ρ0, I0⟩ := Z
  obtain ⟨⟨hx, hb, hml, hown, hts⟩, hU, hlk, hret, rfl, rfl, rfl⟩ := X
  intro ρ H locs ls hH hE hlo hL hcL hcS
  have hcl : clV I (va_rf (f i.toNatClampNeg)) := by
    intro a ha
    cases hf : f i.toNatClampNeg with
    | none => rw [hf] at ha; cases ha
    | some b =>
      rw [hf] at ha
      cases ha
      exact (hH.2.2.1 α _ h).1 t n f rfl _ _ hf
  have k1 := k ρ H locs ls hH hE hlo hL hcL (clS_cons hcl (clS_tl (clS_tl hcS)))
  rw [List.map_cons, cv_rf] at k1
  exact va_aldq hx hb hU.1 (hH.P h) 0 t rfl (ht tC) hi d k1
theorem V_alen {α t : Nat} {ty : FieldType} {x : vp_A} (X : Fx Z l0 R0 cc nL own ret Post) (d : decode cc pc = .ok (.arraylength, 1)) (ht : ∀ tC, (tyL tC)[t]? = some (tC t, ty)) (h : I α = some (.inl (t, x))) (k : V Z nL I lv (.int (nI x.1) :: st) cells slots (pc + 1)) : V Z nL I lv (.ref α :: st) cells slots pc := by
  obtain ⟨p, l, e, R, s, m, args, below, meth, c, Q, D, tC, A, ρ0, I0⟩ := Z
  obtain ⟨⟨hx, hb, hml, hown, hts⟩, hU, hlk, hret, rfl, rfl, rfl⟩ := X
  intro ρ H locs ls hH hE hlo hL hcL hcS
  exact va_alen hx hb hU.1 (hH.P h) 0 t rfl (ht tC) (v := nI x.1) rfl d (k ρ H locs ls hH hE hlo hL hcL (clS_cons clV_i (clS_tl hcS)))
theorem locs_put {A : Nat → Prop} {locs : List Loc} {a k : Nat} (h : ∀ q ∈ locs, A q.base) (ha : A a) : ∀ q ∈ locs ++ [(⟨a, k⟩ : Loc)], A q.base := by
  intro q hq
  rcases List.mem_append.mp hq with hq | hq
  · exact h q hq
  · rw [List.mem_singleton.mp hq]
    exact ha
theorem V_iastore {α n : Nat} {f : Nat → Int32} {i x : Int32} (X : Fx Z l0 R0 cc nL own ret Post) (d : decode cc pc = .ok (.iastore, 1)) (h : I α = some (.inl (0, aI n f))) (hr : ¬ ro α) (hi : vp_in i n) (k : V Z nL (hu I α (.inl (0, aI n (upd f i.toNatClampNeg x)))) lv st cells slots (pc + 1)) : V Z nL I lv (.int x :: .int i :: .ref α :: st) cells slots pc := by
  obtain ⟨p, l, e, R, s, m, args, below, meth, c, Q, D, tC, A, ρ0, I0⟩ := Z
  obtain ⟨⟨hx, hb, hml, hown, hts⟩, hU, hlk, hret, rfl, rfl, rfl⟩ := X
  intro ρ H locs ls hH hE hlo hL hcL hcS
  have hc0 : H[ρ α]? = some (arrV (tC 0) n (fun j => .int (f j))) := hH.1 α _ h
  refine W.iast hx hb hc0 ((hU.1.2 0 _ rfl).1 n _) (fun q => by cases q) (by rw [arrV_size]; exact hi) rfl rfl d fun H1 e1 z1 o1 => ?_
  refine k ρ H1 _ ls (hH.write h hr clO_i ?_ z1 o1) (ext_hu hE hr) (locs_put hlo (hH.inA h hr)) hL (hcL.to dm_hu) ((clS_tl (clS_tl (clS_tl hcS))).to dm_hu)
  show H1[ρ α]? = some (arrV (tC 0) n (fun j => .int (upd f i.toNatClampNeg x j)))
  rw [e1, arrV_store]
  congr 2
  funext q
  by_cases hq : q = i.toNatClampNeg
  · subst hq
    simp [updV, upd]
  · simp [updV, upd, hq]
theorem V_lastore {α n : Nat} {f : Nat → Int64} {i : Int32} {x : Int64} (X : Fx Z l0 R0 cc nL own ret Post) (d : decode cc pc = .ok (.lastore, 1)) (h : I α = some (.inl (1, aL n f))) (hr : ¬ ro α) (hi : vp_in i n) (k : V Z nL (hu I α (.inl (1, aL n (vp_updL f i.toNatClampNeg x)))) lv st cells slots (pc + 1)) : V Z nL I lv (.long x :: .int i :: .ref α :: st) cells slots pc := by
  obtain ⟨p, l, e, R, s, m, args, below, meth, c, Q, D, tC, A, ρ0, I0⟩ := Z
  obtain ⟨⟨hx, hb, hml, hown, hts⟩, hU, hlk, hret, rfl, rfl, rfl⟩ := X
  intro ρ H locs ls hH hE hlo hL hcL hcS
  have hc0 : H[ρ α]? = some (arrV (tC 1) n (fun j => .long (f j))) := hH.1 α _ h
  refine W.last hx hb hc0 ((hU.1.2 1 _ rfl).1 n _) (fun q => by cases q) (by rw [arrV_size]; exact hi) rfl rfl d fun H1 e1 z1 o1 => ?_
  refine k ρ H1 _ ls (hH.write h hr clO_l ?_ z1 o1) (ext_hu hE hr) (locs_put hlo (hH.inA h hr)) hL (hcL.to dm_hu) ((clS_tl (clS_tl (clS_tl hcS))).to dm_hu)
  show H1[ρ α]? = some (arrV (tC 1) n (fun j => .long (vp_updL f i.toNatClampNeg x j)))
  rw [e1, arrV_store]
  congr 2
  funext q
  by_cases hq : q = i.toNatClampNeg
  · subst hq
    simp [updV, vp_updL]
  · simp [updV, vp_updL, hq]
theorem V_bastore {α n : Nat} {f : Nat → Int32} {i x : Int32} (X : Fx Z l0 R0 cc nL own ret Post) (d : decode cc pc = .ok (.bastore, 1)) (h : I α = some (.inl (2, aI n f))) (hr : ¬ ro α) (hi : vp_in i n) (k : V Z nL (hu I α (.inl (2, aI n (upd f i.toNatClampNeg (vp_nar .boolean x))))) lv st cells slots (pc + 1)) : V Z nL I lv (.int x :: .int i :: .ref α :: st) cells slots pc := by
  obtain ⟨p, l, e, R, s, m, args, below, meth, c, Q, D, tC, A, ρ0, I0⟩ := Z
  obtain ⟨⟨hx, hb, hml, hown, hts⟩, hU, hlk, hret, rfl, rfl, rfl⟩ := X
  intro ρ H locs ls hH hE hlo hL hcL hcS
  have hc0 : H[ρ α]? = some (arrV (tC 2) n (fun j => .int (f j))) := hH.1 α _ h
  refine W.zast hx hb hc0 ((hU.1.2 2 _ rfl).1 n _) (fun q => by cases q) (by rw [arrV_size]; exact hi) rfl rfl d fun H1 e1 z1 o1 => ?_
  refine k ρ H1 _ ls (hH.write h hr clO_i ?_ z1 o1) (ext_hu hE hr) (locs_put hlo (hH.inA h hr)) hL (hcL.to dm_hu) ((clS_tl (clS_tl (clS_tl hcS))).to dm_hu)
  show H1[ρ α]? = some (arrV (tC 2) n (fun j => .int (upd f i.toNatClampNeg (vp_nar .boolean x) j)))
  rw [e1, arrV_store]
  congr 2
  funext q
  by_cases hq : q = i.toNatClampNeg
  · subst hq
    simp [updV, upd, vp_nar]
    try rfl
  · simp [updV, upd, hq]
/-- an object into an array: of its own class, or of Objects -/
theorem V_aastore {α β n t ci : Nat} {C : String} {T : u_T} {N : Nat} {fs : List Value} {E : String} {f : Nat → Option Nat} {i : Int32} (X : Fx Z l0 R0 cc nL own ret Post) (d : decode cc pc = .ok (.aastore, 1)) (ht : ∀ tC, (tyL tC)[t]? = some (tC t, .object E)) (h : I α = some (.inl (t, aR n f))) (hr : ¬ ro α) (hi : vp_in i n) (hv : I β = some (.inr (ci, fs))) (hc : vwCl[ci]? = some (C, T, N)) (hE : E = C ∨ Cond.castable C E ∈ nwL) (k : V Z nL (hu I α (.inl (t, aR n (va_up f i.toNatClampNeg (some β))))) lv st cells slots (pc + 1)) : V Z nL I lv (.ref β :: .int i :: .ref α :: st) cells slots pc := by
  obtain ⟨p, l, e, R, s, m, args, below, meth, c, Q, D, tC, A, ρ0, I0⟩ := Z
  obtain ⟨⟨hx, hb, hml, hown, hts⟩, hU, hlk, hret, rfl, rfl, rfl⟩ := X
  intro ρ H locs ls hH hEx hlo hL hcL hcS
  have hlt : i.toNatClampNeg < n := Nat.not_le.mp fun q => hi (Or.inr q)
  have h0 : ¬ i < 0 := fun q => hi (Or.inl q)
  have hc0 : H[ρ α]? = some (arrV (tC t) n (fun j => va_rf ((f j).map ρ))) := hH.1 α _ h
  obtain ⟨r', hr', cellV, g1, g2, g3, -⟩ := hH.1 β _ hv
  have hcls := (hU.1.1 ci _ hc).2
  obtain ⟨kA, comp, k1, k2, k3, -⟩ := (hU.1.2 t _ (ht tC)).2
  obtain ⟨kC, hkC, -⟩ := hcls.2
  obtain ⟨kc, hkc, -⟩ := Vm.findClass_spec k3
  have hasg : s.vm.assignable (D.1 ci) comp = true := by
    rcases hE with rfl | hE
    · have : comp = D.1 ci := Option.some.inj (k3.symm.trans hcls.1)
      rw [this]
      exact va_asg _ _
    · obtain ⟨c0, t0, f1, f2, f3⟩ := Cond.castable_spec (va_Nw.use (A := args) rfl (hU.2.1 _ hE))
      have e1 : c0 = D.1 ci := Option.some.inj (f1.symm.trans hcls.1)
      have e2 : t0 = comp := Option.some.inj (f2.symm.trans k3)
      rw [← e1, ← e2]
      exact f3
  refine W.aast hx hb hc0 (fun q h => by cases h) (fun h => by cases h) k1 k2 rfl hkc ⟨h0, by rw [arrV_size]; exact hlt⟩ g1 (fun q h => by rw [g3] at h; cases h) (by rw [g2]; exact hkC) (by rw [g2]; exact hasg) rfl rfl d fun H1 e1 z1 o1 => ?_
  refine k ρ H1 _ ls (hH.write h hr (clO_up (hH.2.2.1 α _ h) (fun a ea => by cases ea; exact Or.inl (by rw [hv]; exact fun q => by cases q))) ?_ z1 o1) (ext_hu hEx hr) (locs_put hlo (hH.inA h hr)) hL (hcL.to dm_hu) ((clS_tl (clS_tl (clS_tl hcS))).to dm_hu)
  show H1[ρ α]? = some (arrV (tC t) n (fun j => va_rf ((va_up f i.toNatClampNeg (some β) j).map ρ)))
  rw [e1, arrV_store]
  congr 2
  funext q
  by_cases hq : q = i.toNatClampNeg
  · subst hq
    simp [updV, va_up, va_rf]
  · simp [updV, va_up, hq]
theorem V_aastoreN {α n t : Nat} {E : String} {f : Nat → Option Nat} {i : Int32} (X : Fx Z l0 R0 cc nL own ret Post) (d : decode cc pc = .ok (.aastore, 1)) (ht : ∀ tC, (tyL tC)[t]? = some (tC t, .object E)) (h : I α = some (.inl (t, aR n f))) (hr : ¬ ro α) (hi : vp_in i n) (k : V Z nL (hu I α (.inl (t, aR n (va_up f i.toNatClampNeg none)))) lv st cells slots (pc + 1)) : V Z nL I lv (.null :: .int i :: .ref α :: st) cells slots pc := by
  obtain ⟨p, l, e, R, s, m, args, below, meth, c, Q, D, tC, A, ρ0, I0⟩ := Z
  obtain ⟨⟨hx, hb, hml, hown, hts⟩, hU, hlk, hret, rfl, rfl, rfl⟩ := X
  intro ρ H locs ls hH hEx hlo hL hcL hcS
  have hlt : i.toNatClampNeg < n := Nat.not_le.mp fun q => hi (Or.inr q)
  have hc0 : H[ρ α]? = some (arrV (tC t) n (fun j => va_rf ((f j).map ρ))) := hH.1 α _ h
  have ha : ρ α < H.size := (Array.getElem?_eq_some_iff.mp hc0).1
  intro T hT Xs
  obtain ⟨X', st'⟩ := va_aastN0 Xs hx (a := ρ α) (cell := arrV (tC t) n (fun j => va_rf ((f j).map ρ))) (C := E) (j := i) (by rw [hT]; exact hc0) ((hU.1.2 t _ (ht tC)).1 n _) (fun q => by cases q) (by rw [arrV_size]; exact hi) (g := F0 m pc ls (.null :: .int i :: .ref (ρ α) :: st.map (cv ρ))) rfl (rest := st.map (cv ρ)) rfl (by rw [hb]; exact d)
  have hheap : (T.setCell (ρ α) ((arrV (tC t) n (fun j => va_rf ((f j).map ρ))).setSlot i.toNatClampNeg .null)).heap = H.setIfInBounds (ρ α) (arrV (tC t) n (fun j => va_rf ((va_up f i.toNatClampNeg none j).map ρ))) := by
    rw [← hT, arrV_store]
    have e : updV (fun j => va_rf ((f j).map ρ)) i.toNatClampNeg .null = fun j => va_rf ((va_up f i.toNatClampNeg none j).map ρ) := by
      funext q
      by_cases hq : q = i.toNatClampNeg
      · subst hq
        simp [updV, va_up, va_rf]
      · simp [updV, va_up, hq]
    rw [e]
    rfl
  obtain ⟨t2, a1, b1⟩ := k ρ _ _ ls (hH.write h hr (clO_up (hH.2.2.1 α _ h) (fun a ea => by cases ea)) (show (H.setIfInBounds (ρ α) _)[ρ α]? = some _ by simp [Array.getElem?_setIfInBounds, ha]; rfl) (by simp) (fun q hq => by simp [Array.getElem?_setIfInBounds, Ne.symm hq])) (ext_hu hEx hr) (locs_put hlo (hH.inA h hr)) hL (hcL.to dm_hu) ((clS_tl (clS_tl (clS_tl hcS))).to dm_hu) _ hheap X'
  exact ⟨t2, st' t2 a1, b1⟩
theorem V_cast {idx α ci : Nat} {C : String} {T : u_T} {N : Nat} {fs : List Value} (X : Fx Z l0 R0 cc nL own ret Post) (d : decode cc pc = .ok (.checkcast idx, 3)) (hw : Cond.classLink own idx C ∈ wsA) (hc : vwCl[ci]? = some (C, T, N)) (h : I α = some (.inr (ci, fs))) (k : V Z nL I lv (.ref α :: st) cells slots (pc + 3)) : V Z nL I lv (.ref α :: st) cells slots pc := by
  obtain ⟨p, l, e, R, s, m, args, below, meth, c, Q, D, tC, A, ρ0, I0⟩ := Z
  obtain ⟨⟨hx, hb, hml, hown, hts⟩, hU, hlk, hret, rfl, rfl, rfl⟩ := X
  intro ρ H locs ls hH hE hlo hL hcL hcS
  exact va_castS hx hb hown (hts _ hw) (hU.1.1 ci _ hc).2 (va_recv hU.1 (hH.P h) hc (q0 := 0) rfl) d (k ρ H locs ls hH hE hlo hL hcL hcS)
theorem V_castN {idx : Nat} (X : Fx Z l0 R0 cc nL own ret Post) (d : decode cc pc = .ok (.checkcast idx, 3)) (k : V Z nL I lv (.null :: st) cells slots (pc + 3)) : V Z nL I lv (.null :: st) cells slots pc := by
  obtain ⟨p, l, e, R, s, m, args, below, meth, c, Q, D, tC, A, ρ0, I0⟩ := Z
  obtain ⟨⟨hx, hb, hml, hown, hts⟩, hU, hlk, hret, rfl, rfl, rfl⟩ := X
  intro ρ H locs ls hH hE hlo hL hcL hcS
  exact lv_castN hx hb d (k ρ H locs ls hH hE hlo hL hcL hcS)
theorem V_gets {idx : Nat} (X : Fx Z l0 R0 cc nL own ret Post) (d : decode cc pc = .ok (.getstatic idx, 3)) (hw : Cond.fieldLink own idx "java/util/ArrayList" "DEFAULTCAPACITY_EMPTY_ELEMENTDATA" "[Ljava/lang/Object;" ∈ wsA) (k : V Z nL I lv (.ref zed :: st) cells slots (pc + 3)) : V Z nL I lv st cells slots pc := by
  obtain ⟨p, l, e, R, s, m, args, below, meth, c, Q, D, tC, A, ρ0, I0⟩ := Z
  obtain ⟨⟨hx, hb, hml, hown, hts⟩, hU, hlk, hret, rfl, rfl, rfl⟩ := X
  intro ρ H locs ls hH hE hlo hL hcL hcS
  obtain ⟨cf, kf, fi, f, a, cell, h1, h2, h3, h4, h5, h6, h7, h8⟩ := hH.2.2.2.2.2.1
  exact W.gets hx hb hown (hts _ hw) h1 h2 h3 h4 h5 (fun q => by rw [q] at h6; cases h6) h7 rfl d (k ρ H locs ls hH hE hlo hL hcL (clS_cons (clV_r (by rw [hH.2.2.2.2.2.2.1]; exact fun q => by cases q)) hcS))
end Arrays
end
section
/-! a method's start -/
def lvA : List Value → List (Option Value)
  | [] => []
  | v :: vs => if v.category = 2 then some v :: none :: lvA vs else some v :: lvA vs
def lv0 (av : List Value) (n : Nat) : List (Option Value) := lvA av ++ List.replicate (n - (lvA av).length) none
theorem lvA_len (ρ : Nat → Nat) : ∀ av : List Value, (lg_sl (av.map (cv ρ))).length = (lvA av).length
  | [] => rfl
  | v :: vs => by
    have ih := lvA_len ρ vs
    unfold lg_sl at ih ⊢
    rw [List.map_cons, List.flatMap_cons, List.length_append, ih, cv_cat]
    rw [lvA]
    split <;> simp <;> omega
theorem lvA_in (ρ : Nat → Nat) : ∀ (av : List Value) (k0 k : Nat) (v : Value), (lvA av)[k]? = some (some v) → (k0 + k, cv ρ v) ∈ lv_args k0 (av.map (cv ρ))
  | [], _, _, _, h => by simp [lvA] at h
  | u :: us, k0, k, v, h => by
    rw [List.map_cons, lv_args, cv_cat]
    unfold lvA at h
    split at h
    · rename_i hc
      match k, h with
      | 0, h =>
        simp at h
        subst h
        exact List.mem_cons_self
      | 1, h => simp at h
      | k + 2, h =>
        simp at h
        have := lvA_in ρ us (k0 + 2) k v h
        rw [show k0 + (k + 2) = k0 + 2 + k by omega]
        rw [if_pos hc]
        exact List.mem_cons_of_mem _ this
    · rename_i hc
      match k, h with
      | 0, h =>
        simp at h
        subst h
        exact List.mem_cons_self
      | k + 1, h =>
        simp at h
        have := lvA_in ρ us (k0 + 1) k v h
        rw [show k0 + (k + 1) = k0 + 1 + k by omega]
        rw [if_neg hc]
        exact List.mem_cons_of_mem _ this
theorem lvA_mem : ∀ {av : List Value} {v : Value}, some v ∈ lvA av → v ∈ av
  | [], _, h => by simp [lvA] at h
  | u :: us, v, h => by
    unfold lvA at h
    split at h
    · simp at h
      rcases h with rfl | h
      · exact List.mem_cons_self
      · exact List.mem_cons_of_mem _ (lvA_mem h)
    · simp at h
      rcases h with rfl | h
      · exact List.mem_cons_self
      · exact List.mem_cons_of_mem _ (lvA_mem h)
theorem lv0_at {av : List Value} {n k : Nat} {v : Value} (h : (lv0 av n)[k]? = some (some v)) : (lvA av)[k]? = some (some v) := by
  unfold lv0 at h
  rw [List.getElem?_append] at h
  split at h
  · exact h
  · rw [List.getElem?_replicate] at h
    split at h <;> simp at h
theorem lv0_mem {av : List Value} {n : Nat} {v : Value} (h : some v ∈ lv0 av n) : v ∈ av := by
  unfold lv0 at h
  rcases List.mem_append.mp h with h | h
  · exact lvA_mem h
  · have := (List.mem_replicate.mp h).2
    cases this
theorem AM_of {l : Launch} {y : MethodName} {cc : ByteArray} {maxL : Nat} {ret : Option FieldType} {rm : Room} {av : List Value} {I0 : aH} {Post : Option Value → aH → Prop} (own : String) (hy : plainName y.cls = true) (ho : y.cls = own) (lvl : List (Option Value)) (hlv : lv0 av maxL = lvl) (hlen : (lvA av).length ≤ maxL)
    (body : ∀ Z, Fx Z l rm cc maxL own ret Post → Nm Z y.name → V Z maxL I0 lvl [] 0 0 0) : AM l y cc maxL ret rm av I0 Post := by
  intro D tC A ρ0 hcl
  refine Met.ofW (cc := cc) (maxL := maxL) (ret := ret) hy rfl ?_
  intro p e s m args below meth c s₁ B hml hv
  obtain ⟨rfl, hH, hU⟩ := hv
  have hts := atoms_spec (ws := Cond.code y cc maxL ret :: wsA) B.pre
  have hown : s.vm.findClass y.cls = some m.cls := findClass_of_methodNamed B.named
  have hlocks := B.notSynchronized
  have hname := (name_of_methodNamed B.named B.method).1
  rw [lg_entry_eq]
  have hl := lv_entry (av.map (cv ρ0)) (n := maxL) (by rw [lvA_len]; exact hlen)
  subst ho
  subst hlv
  exact body (p, l, e, rm, s, m, (av.map (cv ρ0)).toArray, below, meth, c, MQ below (QcV D tC A ρ0 I0 Post) (av.map (cv ρ0)).toArray s rm.cells rm.slots A, D, tC, A, ρ0, I0) ⟨⟨B.exec, B.bytes, hml, hown, fun w hw => hts w (List.mem_cons_of_mem _ hw)⟩, hU, hlocks, B.returns, rfl, rfl, rfl⟩ hname ρ0 s.heap [] _ hH ext.rf (fun _ h => by cases h)
    ⟨hl.1, hl.2.1, fun k v hk => hl.2.2 (k, cv ρ0 v) (by have := lvA_in ρ0 av 0 k v (lv0_at hk); rwa [Nat.zero_add] at this)⟩ (fun v hv => hcl v (lv0_mem hv)) (fun _ h => by cases h)
/-- a method's entry in the tables -/
def MK (own : String) (idx : Nat) (y : MethodName) (cc : ByteArray) (maxL : Nat) (ret : Option FieldType) (n : Nat) : Prop := Cond.methodLink own idx y ∈ wsA ∧ Cond.initialized y.cls ∈ wsA ∧ Cond.code y cc maxL ret ∈ wsA ∧ (y.cls ≠ "java/lang/invoke/MethodHandle" ∧ y.cls ≠ "java/lang/invoke/VarHandle" ∧ (parseMethodDescriptor y.desc).map (fun d => d.parameters.length) = some n)
theorem pc_blind {D : va_G} {tC : Nat → ClassId} {A : Nat → Prop} {ρ : Nat → Nat} {I : aH} {av : List Value} : FrameBlind (fun a U => a = (av.map (cv ρ)).toArray ∧ okH D tC A ρ I U U.heap ∧ okU D tC (ρ mirr) U) := by
  intro a U g mk h
  refine ⟨h.1, okH.moved (u := U) (U := U.calling g mk a) (Vm.Alike.refl U.vm) h.2.1, ?_⟩
  obtain ⟨h1, h2, h3, h4, h5⟩ := h.2.2
  refine ⟨va_K.moved (u := U) (U := U.calling g mk a) (Vm.Alike.refl U.vm) h1, fun w hw => ?_, va_AO.moved (u := U) (U := U.calling g mk a) (Vm.Alike.refl U.vm) h3, va_AO.moved (u := U) (U := U.calling g mk a) (Vm.Alike.refl U.vm) h4, va_Mi.moved (u := U) (U := U.calling g mk a) (Vm.Alike.refl U.vm) h5⟩
  have hz := h2 w hw
  refine va_Nw.same ?_ (rfl : U.vm = (U.calling g mk a).vm) hz
  simp only [nwL, List.mem_cons, List.not_mem_nil, or_false] at hw
  rcases hw with rfl | rfl | rfl | rfl | rfl | rfl | rfl | rfl | rfl | rfl <;> rfl
theorem toL_map {f : Value → Value} (r : Option Value) : (r.map f).toList = r.toList.map f := by cases r <;> rfl
section Calls
variable {Z : Zt} {l0 : Launch} {R0 : Room} {cc : ByteArray} {nL : Nat} {own : String} {ret : Option FieldType} {Post : Option Value → aH → Prop} {I : aH} {lv : List (Option Value)} {st : List Value} {cells slots pc : Nat}
/-- what is left behind any call -/
theorem call_core {p : Program} {l : Launch} {e : Env} {R : Room} {s : State} {m : MethodId} {args : Array Value} {below : List Frame} {meth : Method} {c : Code} {Q : State → Prop} {D : va_G} {tC : Nat → ClassId} {A : Nat → Prop} {ρ0 ρ : Nat → Nat} {I0 : aH} {H : Heap} {locs : List Loc} {ls : Array Slot} {rest st0 : List Value} {mc ms : Nat} {a : Array Value} {P : Option Value → aH → Prop}
    (hr : va_Run p l e R s m args below meth c H locs cells slots mc ms (F0 m pc ls st0) (rest.map (cv ρ)) (QcV D tC A ρ I P a) A) (hE : ext ρ0 I0 ρ I) (hlo : ∀ q ∈ locs, A q.base) (hL : hasL ρ nL ls lv) (hcL : clL I lv) (hcS : clS I rest)
    (kk : ∀ (r : Option Value) (I' : aH), P r I' → V (p, l, e, R, s, m, args, below, meth, c, Q, D, tC, A, ρ0, I0) nL I' lv (r.toList ++ rest) (cells + mc) (slots + ms) (pc + 3)) : W p l e R s m args below meth c H locs cells slots Q (F0 m pc ls st0) := by
  intro T hT Xs
  obtain ⟨v, st₀, t, T', L, h0, X', hLo, e1, e2, ⟨r, I', ρ', hv, hp, hok, hex, hcl⟩, stp⟩ := hr T hT Xs
  have hv : v = r.map (cv ρ') := by injection hv
  subst hv
  have hdm := ext_dm hex
  have hok' : okH D tC A ρ' I' s T'.heap := by
    rw [e1]
    exact okH.moved (by rw [← e2]; exact X'.warmed.alike.symm) hok
  have hst : clS I' (r.toList ++ rest) := by
    intro w hw
    rcases List.mem_append.mp hw with h | h
    · exact hcl w (by simpa using h)
    · exact clV.to hdm (hcS w h)
  have hlo' : ∀ q ∈ locs ++ L, A q.base := by
    intro q hq
    rcases List.mem_append.mp hq with h | h
    · exact hlo q h
    · exact hLo q h
  obtain ⟨t2, a1, b1⟩ := kk r I' hp ρ' T'.heap (locs ++ L) ls hok' (hE.tr hex) hlo' (hL.to (fun β hβ => hex.1 β hβ) hcL) (hcL.to hdm) hst T' rfl X'
  rw [List.map_append, cvS_congr (fun β hβ => hex.1 β hβ) hcS, ← toL_map] at a1
  exact ⟨t2, stp t2 a1, b1⟩
theorem V_callV {idx : Nat} {y : MethodName} {ccY : ByteArray} {maxY n : Nat} {retY : Option FieldType} {rm : Room} {b : Nat} {P : Option Value → aH → Prop} {ci : Nat} {T : u_T} {N : Nat} {fs : List Value} (X : Fx Z l0 R0 cc nL own ret Post) (d : decode cc pc = .ok (.invokevirtual idx, 3)) (M : MK own idx y ccY maxY retY n) (hi : Cond.instanceMethod y ∈ wsA ∧ Cond.selects y.cls y y ∈ wsA) (As rest : List Value) (hM : AM l0 y ccY maxY retY rm (.ref b :: As) I P) (hst : st = As.reverse ++ .ref b :: rest) (hob : I b = some (.inr (ci, fs))) (hci : vwCl[ci]? = some (y.cls, T, N)) (hn : As.length = n) (hw : (rest.map fun v => v.category).sum ≤ 8) (hR : rm.frames + 1 ≤ R0.frames ∧ 8 + (maxY + 11) + rm.locals ≤ R0.locals) (hf : cells + rm.cells ≤ R0.cells ∧ slots + rm.slots ≤ R0.slots)
    (kk : ∀ (r : Option Value) (I' : aH), P r I' → V Z nL I' lv (r.toList ++ rest) (cells + rm.cells) (slots + rm.slots) (pc + 3)) : V Z nL I lv st cells slots pc := by
  obtain ⟨p, l, e, R, s, m, args, below, meth, c, Q, D, tC, A, ρ0, I0⟩ := Z
  obtain ⟨⟨hx, hb, hml, hown, hts⟩, hU, hlk, hret, rfl, rfl, rfl⟩ := X
  intro ρ H locs ls hH hE hlo hL hcL hcS
  subst hst
  have hcA : clS I (.ref b :: As) := by
    refine clS_cons (hcS _ (List.mem_append_right _ List.mem_cons_self)) (fun w hw => hcS w (List.mem_append_left _ (List.mem_reverse.mpr hw)))
  have hcR : clS I rest := fun w hw => hcS w (List.mem_append_right _ (List.mem_cons_of_mem _ hw))
  have hmi : ρ mirr = ρ0 mirr := hE.1 mirr (Or.inr rfl)
  have hcw : CallW R s args own y.cls idx y ccY maxY retY (.code y ccY maxY retY :: wsA) rm rm.cells rm.slots n := ⟨callB_of n hts (wsA_code M.2.2.1) rfl rfl rfl (hts _ M.2.1) (hts _ M.1) M.2.2.2 hR, hts _ hi.1, hts _ hi.2⟩
  refine call_core (P := P) (rest := rest) (va_runV (C := y.cls) (As := As.map (cv ρ)) ⟨hx, hb, hml, hown, hts⟩ (hM D tC A ρ hcA) hcw ⟨pc_blind, va_recv hU.1 (hH.P hob) hci (q0 := 0) rfl, fun U hUh hW => ⟨rfl, by rw [hUh]; exact okH.moved hW.alike hH, by rw [hmi]; exact okU.warm hW hU⟩⟩ rfl (by rw [List.length_map]; exact hn) hL.1 ?_ ?_ d hf) hE hlo hL hcL hcR kk
  · show List.map (cv ρ) (As.reverse ++ .ref b :: rest) = _
    rw [List.map_append, List.map_reverse, List.map_cons]
    rfl
  · show 2 * 0 + _ ≤ 8
    rw [List.map_map, show ((fun v : Value => v.category) ∘ cv ρ) = fun v => v.category from funext (cv_cat ρ)]
    omega
theorem V_callS {idx : Nat} {y : MethodName} {ccY : ByteArray} {maxY n : Nat} {retY : Option FieldType} {rm : Room} {P : Option Value → aH → Prop} (X : Fx Z l0 R0 cc nL own ret Post) (d : decode cc pc = .ok (.invokestatic idx, 3)) (M : MK own idx y ccY maxY retY n) (hi : Cond.static y ∈ wsA) (As rest : List Value) (hM : AM l0 y ccY maxY retY rm As I P) (hst : st = As.reverse ++ rest) (hn : As.length = n) (hw : (rest.map fun v => v.category).sum ≤ 8) (hR : rm.frames + 1 ≤ R0.frames ∧ 8 + (maxY + 11) + rm.locals ≤ R0.locals) (hf : cells + rm.cells ≤ R0.cells ∧ slots + rm.slots ≤ R0.slots)
    (kk : ∀ (r : Option Value) (I' : aH), P r I' → V Z nL I' lv (r.toList ++ rest) (cells + rm.cells) (slots + rm.slots) (pc + 3)) : V Z nL I lv st cells slots pc := by
  obtain ⟨p, l, e, R, s, m, args, below, meth, c, Q, D, tC, A, ρ0, I0⟩ := Z
  obtain ⟨⟨hx, hb, hml, hown, hts⟩, hU, hlk, hret, rfl, rfl, rfl⟩ := X
  intro ρ H locs ls hH hE hlo hL hcL hcS
  subst hst
  have hcA : clS I As := fun w hw => hcS w (List.mem_append_left _ (List.mem_reverse.mpr hw))
  have hcR : clS I rest := fun w hw => hcS w (List.mem_append_right _ hw)
  have hmi : ρ mirr = ρ0 mirr := hE.1 mirr (Or.inr rfl)
  have hcw : CallB R s args own idx y ccY maxY retY (.code y ccY maxY retY :: wsA) rm rm.cells rm.slots n ∧ (Cond.static y).before args s = true := ⟨callB_of n hts (wsA_code M.2.2.1) rfl rfl rfl (hts _ M.2.1) (hts _ M.1) M.2.2.2 hR, hts _ hi⟩
  refine call_core (P := P) (rest := rest) (va_runS (As := As.map (cv ρ)) ⟨hx, hb, hml, hown, hts⟩ (hM D tC A ρ hcA) hcw ⟨pc_blind, fun U hUh hW => ⟨rfl, by rw [hUh]; exact okH.moved hW.alike hH, by rw [hmi]; exact okU.warm hW hU⟩⟩ rfl (by rw [List.length_map]; exact hn) hL.1 ?_ ?_ d hf) hE hlo hL hcL hcR kk
  · show List.map (cv ρ) (As.reverse ++ rest) = _
    rw [List.map_append, List.map_reverse]
  · show 2 * 0 + _ ≤ 8
    rw [List.map_map, show ((fun v : Value => v.category) ∘ cv ρ) = fun v => v.category from funext (cv_cat ρ)]
    omega
theorem V_callSN {idx : Nat} {y : MethodName} {host : String} {ccY : ByteArray} {maxY n : Nat} {retY : Option FieldType} {rm : Room} {P : Option Value → aH → Prop} (X : Fx Z l0 R0 cc nL own ret Post) (d : decode cc pc = .ok (.invokestatic idx, 3)) (M0 : Cond.methodLinkNest own idx y host ∈ nwL) (M1 : Cond.initialized y.cls ∈ wsA) (M2 : Cond.code y ccY maxY retY ∈ wsA) (M3 : y.cls ≠ "java/lang/invoke/MethodHandle" ∧ y.cls ≠ "java/lang/invoke/VarHandle" ∧ (parseMethodDescriptor y.desc).map (fun d => d.parameters.length) = some n) (hi : Cond.static y ∈ wsA) (As rest : List Value) (hM : AM l0 y ccY maxY retY rm As I P) (hst : st = As.reverse ++ rest) (hn : As.length = n) (hw : (rest.map fun v => v.category).sum ≤ 8) (hR : rm.frames + 1 ≤ R0.frames ∧ 8 + (maxY + 11) + rm.locals ≤ R0.locals) (hf : cells + rm.cells ≤ R0.cells ∧ slots + rm.slots ≤ R0.slots)
    (kk : ∀ (r : Option Value) (I' : aH), P r I' → V Z nL I' lv (r.toList ++ rest) (cells + rm.cells) (slots + rm.slots) (pc + 3)) : V Z nL I lv st cells slots pc := by
  obtain ⟨p, l, e, R, s, m, args, below, meth, c, Q, D, tC, A, ρ0, I0⟩ := Z
  obtain ⟨⟨hx, hb, hml, hown, hts⟩, hU, hlk, hret, rfl, rfl, rfl⟩ := X
  intro ρ H locs ls hH hE hlo hL hcL hcS
  subst hst
  have hcA : clS I As := fun w hw => hcS w (List.mem_append_left _ (List.mem_reverse.mpr hw))
  have hcR : clS I rest := fun w hw => hcS w (List.mem_append_right _ hw)
  have hmi : ρ mirr = ρ0 mirr := hE.1 mirr (Or.inr rfl)
  have hcw : va_CN R s args own idx y host ccY maxY retY (.code y ccY maxY retY :: wsA) rm rm.cells rm.slots n ∧ (Cond.static y).before args s = true ∧ True := ⟨va_cnB n hts (wsA_code M2) rfl rfl rfl (hU.2.1 _ M0) (hts _ M1) M3 hR, hts _ hi, trivial⟩
  refine call_core (P := P) (rest := rest) (va_runSN (As := As.map (cv ρ)) ⟨hx, hb, hml, hown, hts⟩ (hM D tC A ρ hcA) hcw ⟨pc_blind, fun U hUh hW => ⟨rfl, by rw [hUh]; exact okH.moved hW.alike hH, by rw [hmi]; exact okU.warm hW hU⟩⟩ rfl (by rw [List.length_map]; exact hn) hL.1 ?_ ?_ d hf) hE hlo hL hcL hcR kk
  · show List.map (cv ρ) (As.reverse ++ rest) = _
    rw [List.map_append, List.map_reverse]
  · show 2 * 0 + _ ≤ 8
    rw [List.map_map, show ((fun v : Value => v.category) ∘ cv ρ) = fun v => v.category from funext (cv_cat ρ)]
    omega
theorem V_callI {idx : Nat} {y : MethodName} {ccY : ByteArray} {maxY n : Nat} {rm : Room} {b : Nat} {P : Option Value → aH → Prop} (X : Fx Z l0 R0 cc nL own ret Post) (d : decode cc pc = .ok (.invokespecial idx, 3)) (M : MK own idx y ccY maxY none n) (hi : y.name = "<init>" ∧ Cond.instanceMethod y ∈ wsA) (As rest : List Value) (hM : AM l0 y ccY maxY none rm (.ref b :: As) I P) (hst : st = As.reverse ++ .ref b :: rest) (hn : As.length = n) (hw : (rest.map fun v => v.category).sum ≤ 8) (hR : rm.frames + 1 ≤ R0.frames ∧ 8 + (maxY + 11) + rm.locals ≤ R0.locals) (hf : cells + rm.cells ≤ R0.cells ∧ slots + rm.slots ≤ R0.slots)
    (kk : ∀ (r : Option Value) (I' : aH), P r I' → V Z nL I' lv (r.toList ++ rest) (cells + rm.cells) (slots + rm.slots) (pc + 3)) : V Z nL I lv st cells slots pc := by
  obtain ⟨p, l, e, R, s, m, args, below, meth, c, Q, D, tC, A, ρ0, I0⟩ := Z
  obtain ⟨⟨hx, hb, hml, hown, hts⟩, hU, hlk, hret, rfl, rfl, rfl⟩ := X
  intro ρ H locs ls hH hE hlo hL hcL hcS
  subst hst
  have hcA : clS I (.ref b :: As) := by
    refine clS_cons (hcS _ (List.mem_append_right _ List.mem_cons_self)) (fun w hw => hcS w (List.mem_append_left _ (List.mem_reverse.mpr hw)))
  have hcR : clS I rest := fun w hw => hcS w (List.mem_append_right _ (List.mem_cons_of_mem _ hw))
  have hmi : ρ mirr = ρ0 mirr := hE.1 mirr (Or.inr rfl)
  have hcw : CallB R s args own idx y ccY maxY none (.code y ccY maxY none :: wsA) rm rm.cells rm.slots n ∧ y.name = "<init>" ∧ (Cond.instanceMethod y).before args s = true := ⟨callB_of n hts (wsA_code M.2.2.1) rfl rfl rfl (hts _ M.2.1) (hts _ M.1) M.2.2.2 hR, hi.1, hts _ hi.2⟩
  refine call_core (P := P) (rest := rest) (va_runI (b := ρ b) (As := As.map (cv ρ)) ⟨hx, hb, hml, hown, hts⟩ (hM D tC A ρ hcA) hcw ⟨pc_blind, fun U hUh hW => ⟨rfl, by rw [hUh]; exact okH.moved hW.alike hH, by rw [hmi]; exact okU.warm hW hU⟩⟩ rfl (by rw [List.length_map]; exact hn) hL.1 ?_ ?_ d hf) hE hlo hL hcL hcR kk
  · show List.map (cv ρ) (As.reverse ++ .ref b :: rest) = _
    rw [List.map_append, List.map_reverse, List.map_cons]
    rfl
  · show 2 * 0 + _ ≤ 8
    rw [List.map_map, show ((fun v : Value => v.category) ∘ cv ρ) = fun v => v.category from funext (cv_cat ρ)]
    omega
/-- the ends -/
theorem V_iret {v : Int32} {ty : FieldType} (X : Fx Z l0 R0 cc nL own (some ty) Post) (d : decode cc pc = .ok (.ireturn, 1)) (hn : narrow ty (.int v) = .int v) (hce : cells ≤ R0.cells) (hsl : slots ≤ R0.slots) (hp : Post (some (.int v)) I) : V Z nL I lv [.int v] cells slots pc := by
  obtain ⟨p, l, e, R, s, m, args, below, meth, c, Q, D, tC, A, ρ0, I0⟩ := Z
  obtain ⟨⟨hx, hb, hml, hown, hts⟩, hU, hlk, hret, rfl, rfl, rfl⟩ := X
  intro ρ H locs ls hH hE hlo hL hcL hcS
  refine W.widen hce hsl ?_
  exact W.zret hx hb hret hn (fun t ht hW => ⟨some (.int v), I, ρ, rfl, hp, by rw [ht]; exact okH.moved hW.alike hH, hE, fun w hw => by cases hw; exact clV_i⟩) hlo d hlk
theorem V_lret {v : Int64} (X : Fx Z l0 R0 cc nL own (some .long) Post) (d : decode cc pc = .ok (.lreturn, 1)) (hce : cells ≤ R0.cells) (hsl : slots ≤ R0.slots) (hp : Post (some (.long v)) I) : V Z nL I lv [.long v] cells slots pc := by
  obtain ⟨p, l, e, R, s, m, args, below, meth, c, Q, D, tC, A, ρ0, I0⟩ := Z
  obtain ⟨⟨hx, hb, hml, hown, hts⟩, hU, hlk, hret, rfl, rfl, rfl⟩ := X
  intro ρ H locs ls hH hE hlo hL hcL hcS
  refine W.widen hce hsl ?_
  exact W.lret hx hb hret (fun t ht hW => ⟨some (.long v), I, ρ, rfl, hp, by rw [ht]; exact okH.moved hW.alike hH, hE, fun w hw => by cases hw; exact clV_l⟩) hlo d hlk
theorem V_vret (X : Fx Z l0 R0 cc nL own none Post) (d : decode cc pc = .ok (.return_, 1)) (hce : cells ≤ R0.cells) (hsl : slots ≤ R0.slots) (hp : Post none I) : V Z nL I lv [] cells slots pc := by
  obtain ⟨p, l, e, R, s, m, args, below, meth, c, Q, D, tC, A, ρ0, I0⟩ := Z
  obtain ⟨⟨hx, hb, hml, hown, hts⟩, hU, hlk, hret, rfl, rfl, rfl⟩ := X
  intro ρ H locs ls hH hE hlo hL hcL hcS
  refine W.widen hce hsl ?_
  exact W.vret hx hb hret (fun t ht hW => ⟨none, I, ρ, rfl, hp, by rw [ht]; exact okH.moved hW.alike hH, hE, fun w hw => by cases hw⟩) hlo d hlk
theorem V_aret {v : Value} {rt : FieldType} (X : Fx Z l0 R0 cc nL own (some rt) Post) (d : decode cc pc = .ok (.areturn, 1)) (hrt : (∃ n, rt = .object n) ∨ ∃ t, rt = .array t) (hv : isR v = true) (hce : cells ≤ R0.cells) (hsl : slots ≤ R0.slots) (hp : Post (some v) I) : V Z nL I lv [v] cells slots pc := by
  obtain ⟨p, l, e, R, s, m, args, below, meth, c, Q, D, tC, A, ρ0, I0⟩ := Z
  obtain ⟨⟨hx, hb, hml, hown, hts⟩, hU, hlk, hret, rfl, rfl, rfl⟩ := X
  intro ρ H locs ls hH hE hlo hL hcL hcS
  refine W.widen hce hsl ?_
  have hv2 : cv ρ v = .null ∨ ∃ a, cv ρ v = .ref a := by
    rcases isR_or hv with rfl | ⟨a, rfl⟩
    · exact Or.inl rfl
    · exact Or.inr ⟨_, rfl⟩
  exact W.aret hx hb hret hrt hv2 (fun t ht hW => ⟨some v, I, ρ, rfl, hp, by rw [ht]; exact okH.moved hW.alike hH, hE, fun w hw => by cases hw; exact clS_hd hcS⟩) hlo d hlk
theorem V_objInit {idx α : Nat} (X : Fx Z l0 R0 cc nL own ret Post) (d : decode cc pc = .ok (.invokespecial idx, 3)) (h1 : Cond.methodLink own idx Lib.objectInit ∈ wsA) (h2 : Cond.instanceMethod Lib.objectInit ∈ wsA) (h3 : Cond.code Lib.objectInit ⟨#[0xb1]⟩ 1 none ∈ wsA) (hf : 1 ≤ R0.frames) (hw : (st.map fun v => v.category).sum + 12 ≤ R0.locals) (k : V Z nL I lv st cells slots (pc + 3)) : V Z nL I lv (.ref α :: st) cells slots pc := by
  obtain ⟨p, l, e, R, s, m, args, below, meth, c, Q, D, tC, A, ρ0, I0⟩ := Z
  obtain ⟨⟨hx, hb, hml, hown, hts⟩, hU, hlk, hret, rfl, rfl, rfl⟩ := X
  intro ρ H locs ls hH hE hlo hL hcL hcS
  refine W.objInit hx hb hown (hts _ h1) (hts _ h2) (hts _ h3) rfl (by rw [hml]; exact hL.1) rfl d hf ?_ (k ρ H locs ls hH hE hlo hL hcL (clS_tl hcS))
  show 2 * 0 + _ + 12 ≤ _
  rw [List.map_map, show ((fun v : Value => v.category) ∘ cv ρ) = fun v => v.category from funext (cv_cat ρ)]
  omega
theorem V_widen {c2 s2 : Nat} (h1 : cells ≤ c2) (h2 : slots ≤ s2) (k : V Z nL I lv st c2 s2 pc) : V Z nL I lv st cells slots pc := by
  obtain ⟨p, l, e, R, s, m, args, below, meth, c, Q, D, tC, A, ρ0, I0⟩ := Z
  intro ρ H locs ls hH hE hlo hL hcL hcS
  exact W.widen h1 h2 (k ρ H locs ls hH hE hlo hL hcL hcS)
end Calls
end
