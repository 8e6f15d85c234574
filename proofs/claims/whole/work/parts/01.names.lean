/-! ===== BEGIN words of one list among another's, by their places ===== -/
theorem goodIn_r {big : List Cond} (ws : List Cond) (ps : List Nat) (hp : ws = ps.filterMap (fun i => big[i]?)) (h : ws.all goodWord = true) : GoodIn big ws := by
  intro w hw
  have h1 := List.all_eq_true.mp h w hw
  rw [hp] at hw
  obtain ⟨i, -, hi⟩ := List.mem_filterMap.mp hw
  have hm : w ∈ big := by first | exact List.mem_of_getElem? hi | exact List.getElem?_mem hi
  exact ⟨hm, good_of_word h1⟩
theorem goodIn_app {big a b : List Cond} (ha : GoodIn big a) (hb : GoodIn big b) : GoodIn big (a ++ b) := fun w h => (List.mem_append.mp h).elim (ha w) (hb w)
theorem goodIn_ca {big a b : List Cond} {c : Cond} (ha : GoodIn big (c :: a)) (hb : GoodIn big b) : GoodIn big (c :: (a ++ b)) := fun w h => (List.mem_cons.mp h).elim (fun e => ha w (List.mem_cons.mpr (Or.inl e))) (fun h => (List.mem_append.mp h).elim (fun h => ha w (List.mem_cons.mpr (Or.inr h))) (hb w))
theorem goodIn_sub {big ws : List Cond} (hm : ∀ w ∈ ws, w ∈ big) (h : ws.all goodWord = true) : GoodIn big ws := fun w hw => ⟨hm w hw, good_of_word (List.all_eq_true.mp h w hw)⟩
/-! ===== END ===== -/

/-! ===== BEGIN printed: names, fields, word lists, decode rows ===== -/
def RX0 : String := "WatchServer$Entry"
def TX0 : u_T := fun k => match k with
  | 0 => ("WatchServer$Entry", "value", "J", true)
  | 1 => ("WatchServer$Entry", "item", "I", true)
  | 2 => ("WatchServer$Entry", "time", "I", true)
  | _ => ("WatchServer$Entry", "bit", "Z", false)
def tyX0 : Nat → FieldType := fun k => match k with
  | 0 => .long
  | 1 => .int
  | 2 => .int
  | _ => .boolean
abbrev wsX00 : List Cond := u_ws RX0 TX0 4
theorem nmX0 : ∀ a, a < 4 → ∀ b, b < 4 → a ≠ b → (TX0 a).2.1 ≠ (TX0 b).2.1 := by decide +kernel
theorem tyX0_ok : ∀ k, k < 4 → parseFieldDescriptor (TX0 k).2.2.1 = some (tyX0 k) := by decide +kernel
abbrev cX0_init : ByteArray := prog_2_method_1_code
def yX0_init : MethodName := ⟨RX0, "<init>", "(JII)V"⟩
def RX1 : String := "WatchServer$Item"
def TX1 : u_T := fun k => match k with
  | 0 => ("WatchServer$Item", "number", "I", true)
  | 1 => ("WatchServer$Item", "owner", "LWatchServer$Subscription;", true)
  | 2 => ("WatchServer$Item", "variable", "LWatchServer$Node;", true)
  | 3 => ("WatchServer$Item", "born", "I", true)
  | 4 => ("WatchServer$Item", "interval", "I", true)
  | 5 => ("WatchServer$Item", "band", "J", true)
  | 6 => ("WatchServer$Item", "queue", "LWatchServer$Queue;", true)
  | 7 => ("WatchServer$Item", "mode", "I", false)
  | 8 => ("WatchServer$Item", "hasTaken", "Z", false)
  | 9 => ("WatchServer$Item", "taken", "J", false)
  | _ => ("WatchServer$Item", "gone", "Z", false)
def tyX1 : Nat → FieldType := fun k => match k with
  | 0 => .int
  | 1 => .object "WatchServer$Subscription"
  | 2 => .object "WatchServer$Node"
  | 3 => .int
  | 4 => .int
  | 5 => .long
  | 6 => .object "WatchServer$Queue"
  | 7 => .int
  | 8 => .boolean
  | 9 => .long
  | _ => .boolean
abbrev wsX10 : List Cond := u_ws RX1 TX1 11
theorem nmX1 : ∀ a, a < 11 → ∀ b, b < 11 → a ≠ b → (TX1 a).2.1 ≠ (TX1 b).2.1 := by decide +kernel
theorem tyX1_ok : ∀ k, k < 11 → parseFieldDescriptor (TX1 k).2.2.1 = some (tyX1 k) := by decide +kernel
abbrev cX1_init : ByteArray := prog_3_method_1_code
def yX1_init : MethodName := ⟨RX1, "<init>", "(ILWatchServer$Subscription;LWatchServer$Node;IIJLWatchServer$Queue;)V"⟩
abbrev cX1_mayHave : ByteArray := prog_3_method_2_code
def yX1_mayHave : MethodName := ⟨RX1, "mayHave", "(IIIJ)Z"⟩
abbrev cX1_switchTo : ByteArray := prog_3_method_3_code
def yX1_switchTo : MethodName := ⟨RX1, "switchTo", "(II)V"⟩
abbrev cX1_sample : ByteArray := prog_3_method_4_code
def yX1_sample : MethodName := ⟨RX1, "sample", "(I)V"⟩
abbrev cX1_isBeyondBand : ByteArray := prog_3_method_5_code
def yX1_isBeyondBand : MethodName := ⟨RX1, "isBeyondBand", "(J)Z"⟩
def RX2 : String := "WatchServer$Message"
def TX2 : u_T := fun k => match k with
  | 0 => ("WatchServer$Message", "place", "I", true)
  | 1 => ("WatchServer$Message", "subscription", "I", true)
  | 2 => ("WatchServer$Message", "number", "I", true)
  | 3 => ("WatchServer$Message", "time", "I", true)
  | 4 => ("WatchServer$Message", "entries", "[LWatchServer$Entry;", true)
  | 5 => ("WatchServer$Message", "more", "Z", false)
  | _ => ("WatchServer$Message", "kept", "Z", false)
def tyX2 : Nat → FieldType := fun k => match k with
  | 0 => .int
  | 1 => .int
  | 2 => .int
  | 3 => .int
  | 4 => .array (.object "WatchServer$Entry")
  | 5 => .boolean
  | _ => .boolean
abbrev wsX20 : List Cond := u_ws RX2 TX2 7
theorem nmX2 : ∀ a, a < 7 → ∀ b, b < 7 → a ≠ b → (TX2 a).2.1 ≠ (TX2 b).2.1 := by decide +kernel
theorem tyX2_ok : ∀ k, k < 7 → parseFieldDescriptor (TX2 k).2.2.1 = some (tyX2 k) := by decide +kernel
abbrev cX2_init : ByteArray := prog_4_method_1_code
def yX2_init : MethodName := ⟨RX2, "<init>", "(IIII[LWatchServer$Entry;)V"⟩
def RX3 : String := "WatchServer$Node"
def TX3 : u_T := fun k => match k with
  | 0 => ("WatchServer$Node", "number", "I", true)
  | 1 => ("WatchServer$Node", "kind", "I", true)
  | _ => ("WatchServer$Node", "value", "J", false)
def tyX3 : Nat → FieldType := fun k => match k with
  | 0 => .int
  | 1 => .int
  | _ => .long
abbrev wsX30 : List Cond := u_ws RX3 TX3 3
theorem nmX3 : ∀ a, a < 3 → ∀ b, b < 3 → a ≠ b → (TX3 a).2.1 ≠ (TX3 b).2.1 := by decide +kernel
theorem tyX3_ok : ∀ k, k < 3 → parseFieldDescriptor (TX3 k).2.2.1 = some (tyX3 k) := by decide +kernel
abbrev cX3_init : ByteArray := prog_5_method_1_code
def yX3_init : MethodName := ⟨RX3, "<init>", "(II)V"⟩
def RX4 : String := "WatchServer$Queue"
def TX4 : u_T := fun k => match k with
  | 0 => ("WatchServer$Queue", "size", "I", true)
  | 1 => ("WatchServer$Queue", "oldest", "Z", true)
  | _ => ("WatchServer$Queue", "entries", "Ljava/util/ArrayList;", true)
def tyX4 : Nat → FieldType := fun k => match k with
  | 0 => .int
  | 1 => .boolean
  | _ => .object "java/util/ArrayList"
abbrev wsX40 : List Cond := u_ws RX4 TX4 3
theorem nmX4 : ∀ a, a < 3 → ∀ b, b < 3 → a ≠ b → (TX4 a).2.1 ≠ (TX4 b).2.1 := by decide +kernel
theorem tyX4_ok : ∀ k, k < 3 → parseFieldDescriptor (TX4 k).2.2.1 = some (tyX4 k) := by decide +kernel
abbrev cX4_init : ByteArray := prog_6_method_1_code
def yX4_init : MethodName := ⟨RX4, "<init>", "(IZ)V"⟩
abbrev cX4_put : ByteArray := prog_6_method_2_code
def yX4_put : MethodName := ⟨RX4, "put", "(LWatchServer$Entry;)V"⟩
abbrev cX4_firstHasBit : ByteArray := prog_6_method_3_code
def yX4_firstHasBit : MethodName := ⟨RX4, "firstHasBit", "()Z"⟩
def RX5 : String := "WatchServer$Reference"
def TX5 : u_T := fun k => match k with
  | 0 => ("WatchServer$Reference", "from", "I", true)
  | 1 => ("WatchServer$Reference", "to", "I", true)
  | _ => ("WatchServer$Reference", "type", "I", true)
def tyX5 : Nat → FieldType := fun k => match k with
  | 0 => .int
  | 1 => .int
  | _ => .int
abbrev wsX50 : List Cond := u_ws RX5 TX5 3
theorem nmX5 : ∀ a, a < 3 → ∀ b, b < 3 → a ≠ b → (TX5 a).2.1 ≠ (TX5 b).2.1 := by decide +kernel
theorem tyX5_ok : ∀ k, k < 3 → parseFieldDescriptor (TX5 k).2.2.1 = some (tyX5 k) := by decide +kernel
abbrev cX5_init : ByteArray := prog_7_method_1_code
def yX5_init : MethodName := ⟨RX5, "<init>", "(III)V"⟩
abbrev cX5_touches : ByteArray := prog_7_method_2_code
def yX5_touches : MethodName := ⟨RX5, "touches", "(II)Z"⟩
abbrev cX5_isAmong : ByteArray := prog_7_method_3_code
def yX5_isAmong : MethodName := ⟨RX5, "isAmong", "(I)Z"⟩
abbrev cX5_otherEnd : ByteArray := prog_7_method_4_code
def yX5_otherEnd : MethodName := ⟨RX5, "otherEnd", "(I)I"⟩
def RX6 : String := "WatchServer$Session"
def TX6 : u_T := fun k => match k with
  | 0 => ("WatchServer$Session", "number", "I", true)
  | 1 => ("WatchServer$Session", "timeout", "I", true)
  | 2 => ("WatchServer$Session", "mail", "Ljava/util/ArrayList;", true)
  | 3 => ("WatchServer$Session", "state", "I", false)
  | 4 => ("WatchServer$Session", "end", "I", false)
  | _ => ("WatchServer$Session", "requests", "I", false)
def tyX6 : Nat → FieldType := fun k => match k with
  | 0 => .int
  | 1 => .int
  | 2 => .object "java/util/ArrayList"
  | 3 => .int
  | 4 => .int
  | _ => .int
abbrev wsX60 : List Cond := u_ws RX6 TX6 6
theorem nmX6 : ∀ a, a < 6 → ∀ b, b < 6 → a ≠ b → (TX6 a).2.1 ≠ (TX6 b).2.1 := by decide +kernel
theorem tyX6_ok : ∀ k, k < 6 → parseFieldDescriptor (TX6 k).2.2.1 = some (tyX6 k) := by decide +kernel
abbrev cX6_init : ByteArray := prog_8_method_1_code
def yX6_init : MethodName := ⟨RX6, "<init>", "(III)V"⟩
abbrev cX6_renew : ByteArray := prog_8_method_2_code
def yX6_renew : MethodName := ⟨RX6, "renew", "(I)V"⟩
def RX7 : String := "WatchServer$Subscription"
def TX7 : u_T := fun k => match k with
  | 0 => ("WatchServer$Subscription", "number", "I", true)
  | 1 => ("WatchServer$Subscription", "items", "Ljava/util/ArrayList;", true)
  | 2 => ("WatchServer$Subscription", "kept", "Ljava/util/ArrayList;", true)
  | 3 => ("WatchServer$Subscription", "owner", "LWatchServer$Session;", false)
  | 4 => ("WatchServer$Subscription", "born", "I", false)
  | 5 => ("WatchServer$Subscription", "period", "I", false)
  | 6 => ("WatchServer$Subscription", "keep", "I", false)
  | 7 => ("WatchServer$Subscription", "life", "I", false)
  | 8 => ("WatchServer$Subscription", "most", "I", false)
  | 9 => ("WatchServer$Subscription", "on", "Z", false)
  | 10 => ("WatchServer$Subscription", "next", "I", false)
  | 11 => ("WatchServer$Subscription", "keepLeft", "I", false)
  | 12 => ("WatchServer$Subscription", "lifeLeft", "I", false)
  | 13 => ("WatchServer$Subscription", "sent", "Z", false)
  | 14 => ("WatchServer$Subscription", "more", "Z", false)
  | 15 => ("WatchServer$Subscription", "late", "Z", false)
  | 16 => ("WatchServer$Subscription", "lateOrder", "I", false)
  | _ => ("WatchServer$Subscription", "gone", "Z", false)
def tyX7 : Nat → FieldType := fun k => match k with
  | 0 => .int
  | 1 => .object "java/util/ArrayList"
  | 2 => .object "java/util/ArrayList"
  | 3 => .object "WatchServer$Session"
  | 4 => .int
  | 5 => .int
  | 6 => .int
  | 7 => .int
  | 8 => .int
  | 9 => .boolean
  | 10 => .int
  | 11 => .int
  | 12 => .int
  | 13 => .boolean
  | 14 => .boolean
  | 15 => .boolean
  | 16 => .int
  | _ => .boolean
abbrev wsX70 : List Cond := u_ws RX7 TX7 18
theorem nmX7 : ∀ a, a < 18 → ∀ b, b < 18 → a ≠ b → (TX7 a).2.1 ≠ (TX7 b).2.1 := by decide +kernel
theorem tyX7_ok : ∀ k, k < 18 → parseFieldDescriptor (TX7 k).2.2.1 = some (tyX7 k) := by decide +kernel
abbrev cX7_init : ByteArray := prog_9_method_1_code
def yX7_init : MethodName := ⟨RX7, "<init>", "(ILWatchServer$Session;)V"⟩
abbrev cX7_mayHave : ByteArray := prog_9_method_2_code
def yX7_mayHave : MethodName := ⟨RX7, "mayHave", "(IIII)Z"⟩
abbrev cX7_begin : ByteArray := prog_9_method_3_code
def yX7_begin : MethodName := ⟨RX7, "begin", "(IIIII)V"⟩
abbrev cX7_isReady : ByteArray := prog_9_method_4_code
def yX7_isReady : MethodName := ⟨RX7, "isReady", "()Z"⟩
abbrev cX7_wantsToSend : ByteArray := prog_9_method_5_code
def yX7_wantsToSend : MethodName := ⟨RX7, "wantsToSend", "()Z"⟩
abbrev cX7_countEntries : ByteArray := prog_9_method_6_code
def yX7_countEntries : MethodName := ⟨RX7, "countEntries", "()I"⟩
abbrev cX7_takeEntries : ByteArray := prog_9_method_7_code
def yX7_takeEntries : MethodName := ⟨RX7, "takeEntries", "()[LWatchServer$Entry;"⟩
abbrev cX7_keepMessage : ByteArray := prog_9_method_8_code
def yX7_keepMessage : MethodName := ⟨RX7, "keepMessage", "(LWatchServer$Message;)V"⟩
abbrev cX7_keptOf : ByteArray := prog_9_method_9_code
def yX7_keptOf : MethodName := ⟨RX7, "keptOf", "(I)LWatchServer$Message;"⟩
abbrev cX7_forget : ByteArray := prog_9_method_10_code
def yX7_forget : MethodName := ⟨RX7, "forget", "(I)Z"⟩
abbrev cX7_remove : ByteArray := prog_9_method_11_code
def yX7_remove : MethodName := ⟨RX7, "remove", "(LWatchServer$Item;)V"⟩
abbrev cX7_end : ByteArray := prog_9_method_12_code
def yX7_end : MethodName := ⟨RX7, "end", "()V"⟩
def RX8 : String := "WatchServer"
def TX8 : u_T := fun k => match k with
  | 0 => ("WatchServer", "nodes", "Ljava/util/ArrayList;", true)
  | 1 => ("WatchServer", "references", "Ljava/util/ArrayList;", true)
  | 2 => ("WatchServer", "sessions", "Ljava/util/ArrayList;", true)
  | 3 => ("WatchServer", "subscriptions", "Ljava/util/ArrayList;", true)
  | 4 => ("WatchServer", "items", "Ljava/util/ArrayList;", true)
  | 5 => ("WatchServer", "messages", "Ljava/util/ArrayList;", true)
  | 6 => ("WatchServer", "refusals", "[I", true)
  | 7 => ("WatchServer", "time", "I", false)
  | 8 => ("WatchServer", "valueRead", "J", false)
  | 9 => ("WatchServer", "acknowledgement", "I", false)
  | _ => ("WatchServer", "latenesses", "I", false)
def tyX8 : Nat → FieldType := fun k => match k with
  | 0 => .object "java/util/ArrayList"
  | 1 => .object "java/util/ArrayList"
  | 2 => .object "java/util/ArrayList"
  | 3 => .object "java/util/ArrayList"
  | 4 => .object "java/util/ArrayList"
  | 5 => .object "java/util/ArrayList"
  | 6 => .array .int
  | 7 => .int
  | 8 => .long
  | 9 => .int
  | _ => .int
abbrev wsX80 : List Cond := u_ws RX8 TX8 11
theorem nmX8 : ∀ a, a < 11 → ∀ b, b < 11 → a ≠ b → (TX8 a).2.1 ≠ (TX8 b).2.1 := by decide +kernel
theorem tyX8_ok : ∀ k, k < 11 → parseFieldDescriptor (TX8 k).2.2.1 = some (tyX8 k) := by decide +kernel
abbrev cX8_init : ByteArray := prog_1_method_1_code
def yX8_init : MethodName := ⟨RX8, "<init>", "()V"⟩
abbrev cX8_node : ByteArray := prog_1_method_2_code
def yX8_node : MethodName := ⟨RX8, "node", "(I)I"⟩
abbrev cX8_refer : ByteArray := prog_1_method_3_code
def yX8_refer : MethodName := ⟨RX8, "refer", "(III)I"⟩
abbrev cX8_change : ByteArray := prog_1_method_4_code
def yX8_change : MethodName := ⟨RX8, "change", "(IJ)I"⟩
abbrev cX8_tick : ByteArray := prog_1_method_5_code
def yX8_tick : MethodName := ⟨RX8, "tick", "(I)I"⟩
abbrev cX8_session : ByteArray := prog_1_method_6_code
def yX8_session : MethodName := ⟨RX8, "session", "(I)I"⟩
abbrev cX8_activate : ByteArray := prog_1_method_7_code
def yX8_activate : MethodName := ⟨RX8, "activate", "(I)I"⟩
abbrev cX8_close : ByteArray := prog_1_method_8_code
def yX8_close : MethodName := ⟨RX8, "close", "(I)I"⟩
abbrev cX8_browse : ByteArray := prog_1_method_9_code
def yX8_browse : MethodName := ⟨RX8, "browse", "(IIIII)I"⟩
abbrev cX8_read : ByteArray := prog_1_method_10_code
def yX8_read : MethodName := ⟨RX8, "read", "(II)I"⟩
abbrev cX8_value : ByteArray := prog_1_method_11_code
def yX8_value : MethodName := ⟨RX8, "value", "()J"⟩
abbrev cX8_write : ByteArray := prog_1_method_12_code
def yX8_write : MethodName := ⟨RX8, "write", "(IIJ)I"⟩
abbrev cX8_subscribe : ByteArray := prog_1_method_13_code
def yX8_subscribe : MethodName := ⟨RX8, "subscribe", "(IIIII)I"⟩
abbrev cX8_modify : ByteArray := prog_1_method_14_code
def yX8_modify : MethodName := ⟨RX8, "modify", "(IIIIII)I"⟩
abbrev cX8_turn : ByteArray := prog_1_method_15_code
def yX8_turn : MethodName := ⟨RX8, "turn", "(IIZ)I"⟩
abbrev cX8_transfer : ByteArray := prog_1_method_16_code
def yX8_transfer : MethodName := ⟨RX8, "transfer", "(II)I"⟩
abbrev cX8_unsubscribe : ByteArray := prog_1_method_17_code
def yX8_unsubscribe : MethodName := ⟨RX8, "unsubscribe", "(II)I"⟩
abbrev cX8_item : ByteArray := prog_1_method_18_code
def yX8_item : MethodName := ⟨RX8, "item", "(IIIIIZIJ)I"⟩
abbrev cX8_mode : ByteArray := prog_1_method_19_code
def yX8_mode : MethodName := ⟨RX8, "mode", "(III)I"⟩
abbrev cX8_drop : ByteArray := prog_1_method_20_code
def yX8_drop : MethodName := ⟨RX8, "drop", "(II)I"⟩
abbrev cX8_publish : ByteArray := prog_1_method_21_code
def yX8_publish : MethodName := ⟨RX8, "publish", "(III)I"⟩
abbrev cX8_acknowledged : ByteArray := prog_1_method_22_code
def yX8_acknowledged : MethodName := ⟨RX8, "acknowledged", "()I"⟩
abbrev cX8_again : ByteArray := prog_1_method_23_code
def yX8_again : MethodName := ⟨RX8, "again", "(III)I"⟩
abbrev cX8_mail : ByteArray := prog_1_method_24_code
def yX8_mail : MethodName := ⟨RX8, "mail", "(II)I"⟩
abbrev cX8_message : ByteArray := prog_1_method_25_code
def yX8_message : MethodName := ⟨RX8, "message", "(II)I"⟩
abbrev cX8_entry : ByteArray := prog_1_method_26_code
def yX8_entry : MethodName := ⟨RX8, "entry", "(III)J"⟩
abbrev cX8_sessionOf : ByteArray := prog_1_method_27_code
def yX8_sessionOf : MethodName := ⟨RX8, "sessionOf", "(II)I"⟩
abbrev cX8_subscription : ByteArray := prog_1_method_28_code
def yX8_subscription : MethodName := ⟨RX8, "subscription", "(II)I"⟩
abbrev cX8_itemOf : ByteArray := prog_1_method_29_code
def yX8_itemOf : MethodName := ⟨RX8, "itemOf", "(II)I"⟩
abbrev cX8_status : ByteArray := prog_1_method_30_code
def yX8_status : MethodName := ⟨RX8, "status", "(I)I"⟩
abbrev cX8_isWithin : ByteArray := prog_1_method_31_code
def yX8_isWithin : MethodName := ⟨RX8, "isWithin", "(III)Z"⟩
abbrev cX8_isMultiple : ByteArray := prog_1_method_32_code
def yX8_isMultiple : MethodName := ⟨RX8, "isMultiple", "(II)Z"⟩
abbrev cX8_asNumber : ByteArray := prog_1_method_33_code
def yX8_asNumber : MethodName := ⟨RX8, "asNumber", "(Z)I"⟩
abbrev cX8_refuse : ByteArray := prog_1_method_34_code
def yX8_refuse : MethodName := ⟨RX8, "refuse", "(I)I"⟩
abbrev cX8_refuseSession : ByteArray := prog_1_method_35_code
def yX8_refuseSession : MethodName := ⟨RX8, "refuseSession", "(I)I"⟩
abbrev cX8_enter : ByteArray := prog_1_method_36_code
def yX8_enter : MethodName := ⟨RX8, "enter", "(I)LWatchServer$Session;"⟩
abbrev cX8_nodeAt : ByteArray := prog_1_method_37_code
def yX8_nodeAt : MethodName := ⟨RX8, "nodeAt", "(I)LWatchServer$Node;"⟩
abbrev cX8_variableAt : ByteArray := prog_1_method_38_code
def yX8_variableAt : MethodName := ⟨RX8, "variableAt", "(I)LWatchServer$Node;"⟩
abbrev cX8_sessionAt : ByteArray := prog_1_method_39_code
def yX8_sessionAt : MethodName := ⟨RX8, "sessionAt", "(I)LWatchServer$Session;"⟩
abbrev cX8_messageAt : ByteArray := prog_1_method_40_code
def yX8_messageAt : MethodName := ⟨RX8, "messageAt", "(I)LWatchServer$Message;"⟩
abbrev cX8_subscriptionAt : ByteArray := prog_1_method_41_code
def yX8_subscriptionAt : MethodName := ⟨RX8, "subscriptionAt", "(I)LWatchServer$Subscription;"⟩
abbrev cX8_subscriptionOf : ByteArray := prog_1_method_42_code
def yX8_subscriptionOf : MethodName := ⟨RX8, "subscriptionOf", "(LWatchServer$Session;I)LWatchServer$Subscription;"⟩
abbrev cX8_itemAt : ByteArray := prog_1_method_43_code
def yX8_itemAt : MethodName := ⟨RX8, "itemAt", "(I)LWatchServer$Item;"⟩
abbrev cX8_itemOfClient : ByteArray := prog_1_method_44_code
def yX8_itemOfClient : MethodName := ⟨RX8, "itemOfClient", "(LWatchServer$Session;I)LWatchServer$Item;"⟩
abbrev cX8_countOpenSessions : ByteArray := prog_1_method_45_code
def yX8_countOpenSessions : MethodName := ⟨RX8, "countOpenSessions", "()I"⟩
abbrev cX8_countSubscriptions : ByteArray := prog_1_method_46_code
def yX8_countSubscriptions : MethodName := ⟨RX8, "countSubscriptions", "(LWatchServer$Session;)I"⟩
abbrev cX8_countItems : ByteArray := prog_1_method_47_code
def yX8_countItems : MethodName := ⟨RX8, "countItems", "()I"⟩
abbrev cX8_sampleItems : ByteArray := prog_1_method_48_code
def yX8_sampleItems : MethodName := ⟨RX8, "sampleItems", "()V"⟩
abbrev cX8_serveSubscriptions : ByteArray := prog_1_method_49_code
def yX8_serveSubscriptions : MethodName := ⟨RX8, "serveSubscriptions", "()V"⟩
abbrev cX8_answerRequests : ByteArray := prog_1_method_50_code
def yX8_answerRequests : MethodName := ⟨RX8, "answerRequests", "(LWatchServer$Subscription;)V"⟩
abbrev cX8_fallShort : ByteArray := prog_1_method_51_code
def yX8_fallShort : MethodName := ⟨RX8, "fallShort", "(LWatchServer$Subscription;)V"⟩
abbrev cX8_send : ByteArray := prog_1_method_52_code
def yX8_send : MethodName := ⟨RX8, "send", "(LWatchServer$Subscription;)V"⟩
abbrev cX8_closeTimedOut : ByteArray := prog_1_method_53_code
def yX8_closeTimedOut : MethodName := ⟨RX8, "closeTimedOut", "()V"⟩
abbrev cX8_shut : ByteArray := prog_1_method_54_code
def yX8_shut : MethodName := ⟨RX8, "shut", "(LWatchServer$Session;)I"⟩
abbrev cX8_acknowledge : ByteArray := prog_1_method_55_code
def yX8_acknowledge : MethodName := ⟨RX8, "acknowledge", "(LWatchServer$Session;II)I"⟩
abbrev cX8_longestLate : ByteArray := prog_1_method_56_code
def yX8_longestLate : MethodName := ⟨RX8, "longestLate", "(LWatchServer$Session;)LWatchServer$Subscription;"⟩
abbrev cX8_firstWithMore : ByteArray := prog_1_method_57_code
def yX8_firstWithMore : MethodName := ⟨RX8, "firstWithMore", "(LWatchServer$Session;)LWatchServer$Subscription;"⟩
def RX9 : String := "WatchServerModel"
def TX9 : u_T := fun k => match k with
  | 0 => ("WatchServerModel", "time", "I", false)
  | 1 => ("WatchServerModel", "nodes", "I", false)
  | 2 => ("WatchServerModel", "kind", "[I", true)
  | 3 => ("WatchServerModel", "values", "[J", true)
  | 4 => ("WatchServerModel", "references", "I", false)
  | 5 => ("WatchServerModel", "refFrom", "[I", true)
  | 6 => ("WatchServerModel", "refTo", "[I", true)
  | 7 => ("WatchServerModel", "refType", "[I", true)
  | 8 => ("WatchServerModel", "sessions", "I", false)
  | 9 => ("WatchServerModel", "timeout", "[I", true)
  | 10 => ("WatchServerModel", "end", "[I", true)
  | 11 => ("WatchServerModel", "state", "[I", true)
  | 12 => ("WatchServerModel", "requests", "[I", true)
  | 13 => ("WatchServerModel", "mailMany", "[I", true)
  | 14 => ("WatchServerModel", "mails", "[I", true)
  | 15 => ("WatchServerModel", "subs", "I", false)
  | 16 => ("WatchServerModel", "subThere", "[Z", true)
  | 17 => ("WatchServerModel", "subSession", "[I", true)
  | 18 => ("WatchServerModel", "subBorn", "[I", true)
  | 19 => ("WatchServerModel", "period", "[I", true)
  | 20 => ("WatchServerModel", "keep", "[I", true)
  | 21 => ("WatchServerModel", "life", "[I", true)
  | 22 => ("WatchServerModel", "most", "[I", true)
  | 23 => ("WatchServerModel", "on", "[Z", true)
  | 24 => ("WatchServerModel", "next", "[I", true)
  | 25 => ("WatchServerModel", "keepLeft", "[I", true)
  | 26 => ("WatchServerModel", "lifeLeft", "[I", true)
  | 27 => ("WatchServerModel", "sent", "[Z", true)
  | 28 => ("WatchServerModel", "late", "[Z", true)
  | 29 => ("WatchServerModel", "lateOrder", "[I", true)
  | 30 => ("WatchServerModel", "lateCount", "I", false)
  | 31 => ("WatchServerModel", "hadMore", "[Z", true)
  | 32 => ("WatchServerModel", "items", "I", false)
  | 33 => ("WatchServerModel", "itemThere", "[Z", true)
  | 34 => ("WatchServerModel", "itemSub", "[I", true)
  | 35 => ("WatchServerModel", "itemNode", "[I", true)
  | 36 => ("WatchServerModel", "itemBorn", "[I", true)
  | 37 => ("WatchServerModel", "interval", "[I", true)
  | 38 => ("WatchServerModel", "size", "[I", true)
  | 39 => ("WatchServerModel", "oldest", "[Z", true)
  | 40 => ("WatchServerModel", "mode", "[I", true)
  | 41 => ("WatchServerModel", "band", "[J", true)
  | 42 => ("WatchServerModel", "taken", "[Z", true)
  | 43 => ("WatchServerModel", "last", "[J", true)
  | 44 => ("WatchServerModel", "queued", "[I", true)
  | 45 => ("WatchServerModel", "queue", "[J", true)
  | 46 => ("WatchServerModel", "queueTime", "[I", true)
  | 47 => ("WatchServerModel", "queueBit", "[I", true)
  | 48 => ("WatchServerModel", "messages", "I", false)
  | 49 => ("WatchServerModel", "messageSub", "[I", true)
  | 50 => ("WatchServerModel", "messageNumber", "[I", true)
  | 51 => ("WatchServerModel", "messageMany", "[I", true)
  | 52 => ("WatchServerModel", "messageMore", "[Z", true)
  | 53 => ("WatchServerModel", "messageTime", "[I", true)
  | 54 => ("WatchServerModel", "kept", "[Z", true)
  | 55 => ("WatchServerModel", "entryValue", "[J", true)
  | 56 => ("WatchServerModel", "entryItem", "[I", true)
  | 57 => ("WatchServerModel", "entryTime", "[I", true)
  | 58 => ("WatchServerModel", "entryBit", "[I", true)
  | 59 => ("WatchServerModel", "told", "J", false)
  | 60 => ("WatchServerModel", "acknowledged", "I", false)
  | _ => ("WatchServerModel", "refused", "[I", true)
def tyX9 : Nat → FieldType := fun k => match k with
  | 0 => .int
  | 1 => .int
  | 2 => .array .int
  | 3 => .array .long
  | 4 => .int
  | 5 => .array .int
  | 6 => .array .int
  | 7 => .array .int
  | 8 => .int
  | 9 => .array .int
  | 10 => .array .int
  | 11 => .array .int
  | 12 => .array .int
  | 13 => .array .int
  | 14 => .array .int
  | 15 => .int
  | 16 => .array .boolean
  | 17 => .array .int
  | 18 => .array .int
  | 19 => .array .int
  | 20 => .array .int
  | 21 => .array .int
  | 22 => .array .int
  | 23 => .array .boolean
  | 24 => .array .int
  | 25 => .array .int
  | 26 => .array .int
  | 27 => .array .boolean
  | 28 => .array .boolean
  | 29 => .array .int
  | 30 => .int
  | 31 => .array .boolean
  | 32 => .int
  | 33 => .array .boolean
  | 34 => .array .int
  | 35 => .array .int
  | 36 => .array .int
  | 37 => .array .int
  | 38 => .array .int
  | 39 => .array .boolean
  | 40 => .array .int
  | 41 => .array .long
  | 42 => .array .boolean
  | 43 => .array .long
  | 44 => .array .int
  | 45 => .array .long
  | 46 => .array .int
  | 47 => .array .int
  | 48 => .int
  | 49 => .array .int
  | 50 => .array .int
  | 51 => .array .int
  | 52 => .array .boolean
  | 53 => .array .int
  | 54 => .array .boolean
  | 55 => .array .long
  | 56 => .array .int
  | 57 => .array .int
  | 58 => .array .int
  | 59 => .long
  | 60 => .int
  | _ => .array .int
abbrev wsX90 : List Cond := u_ws RX9 TX9 62
theorem nmX9 : ∀ a, a < 62 → ∀ b, b < 62 → a ≠ b → (TX9 a).2.1 ≠ (TX9 b).2.1 := by decide +kernel
theorem tyX9_ok : ∀ k, k < 62 → parseFieldDescriptor (TX9 k).2.2.1 = some (tyX9 k) := by decide +kernel
abbrev cX9_init : ByteArray := prog_11_method_1_code
def yX9_init : MethodName := ⟨RX9, "<init>", "()V"⟩
abbrev cX9_in : ByteArray := prog_11_method_3_code
def yX9_in : MethodName := ⟨RX9, "in", "(JJJ)Z"⟩
abbrev cX9_refuse : ByteArray := prog_11_method_4_code
def yX9_refuse : MethodName := ⟨RX9, "refuse", "(I)I"⟩
abbrev cX9_node : ByteArray := prog_11_method_5_code
def yX9_node : MethodName := ⟨RX9, "node", "(I)I"⟩
abbrev cX9_isNode : ByteArray := prog_11_method_6_code
def yX9_isNode : MethodName := ⟨RX9, "isNode", "(I)Z"⟩
abbrev cX9_isVariable : ByteArray := prog_11_method_7_code
def yX9_isVariable : MethodName := ⟨RX9, "isVariable", "(I)Z"⟩
abbrev cX9_refer : ByteArray := prog_11_method_8_code
def yX9_refer : MethodName := ⟨RX9, "refer", "(III)I"⟩
abbrev cX9_change : ByteArray := prog_11_method_9_code
def yX9_change : MethodName := ⟨RX9, "change", "(IJ)I"⟩
abbrev cX9_sample : ByteArray := prog_11_method_10_code
def yX9_sample : MethodName := ⟨RX9, "sample", "(I)V"⟩
abbrev cX9_isReady : ByteArray := prog_11_method_11_code
def yX9_isReady : MethodName := ⟨RX9, "isReady", "(I)Z"⟩
abbrev cX9_toMail : ByteArray := prog_11_method_12_code
def yX9_toMail : MethodName := ⟨RX9, "toMail", "(II)V"⟩
abbrev cX9_dropKept : ByteArray := prog_11_method_13_code
def yX9_dropKept : MethodName := ⟨RX9, "dropKept", "(II)V"⟩
abbrev cX9_keptOf : ByteArray := prog_11_method_14_code
def yX9_keptOf : MethodName := ⟨RX9, "keptOf", "(I)I"⟩
abbrev cX9_shift : ByteArray := prog_11_method_15_code
def yX9_shift : MethodName := ⟨RX9, "shift", "(I)V"⟩
abbrev cX9_make : ByteArray := prog_11_method_16_code
def yX9_make : MethodName := ⟨RX9, "make", "(I)V"⟩
abbrev cX9_leftOf : ByteArray := prog_11_method_17_code
def yX9_leftOf : MethodName := ⟨RX9, "leftOf", "(I)Z"⟩
abbrev cX9_removeSub : ByteArray := prog_11_method_18_code
def yX9_removeSub : MethodName := ⟨RX9, "removeSub", "(I)V"⟩
abbrev cX9_shut : ByteArray := prog_11_method_19_code
def yX9_shut : MethodName := ⟨RX9, "shut", "(I)I"⟩
abbrev cX9_isShort : ByteArray := prog_11_method_20_code
def yX9_isShort : MethodName := ⟨RX9, "isShort", "(I)V"⟩
abbrev cX9_mayMake : ByteArray := prog_11_method_21_code
def yX9_mayMake : MethodName := ⟨RX9, "mayMake", "(I)Z"⟩
abbrev cX9_cycle : ByteArray := prog_11_method_22_code
def yX9_cycle : MethodName := ⟨RX9, "cycle", "(I)V"⟩
abbrev cX9_step : ByteArray := prog_11_method_23_code
def yX9_step : MethodName := ⟨RX9, "step", "()V"⟩
abbrev cX9_tick : ByteArray := prog_11_method_24_code
def yX9_tick : MethodName := ⟨RX9, "tick", "(I)I"⟩
abbrev cX9_session : ByteArray := prog_11_method_25_code
def yX9_session : MethodName := ⟨RX9, "session", "(I)I"⟩
abbrev cX9_activate : ByteArray := prog_11_method_26_code
def yX9_activate : MethodName := ⟨RX9, "activate", "(I)I"⟩
abbrev cX9_lacks : ByteArray := prog_11_method_27_code
def yX9_lacks : MethodName := ⟨RX9, "lacks", "(I)I"⟩
abbrev cX9_close : ByteArray := prog_11_method_28_code
def yX9_close : MethodName := ⟨RX9, "close", "(I)I"⟩
abbrev cX9_browse : ByteArray := prog_11_method_29_code
def yX9_browse : MethodName := ⟨RX9, "browse", "(IIIII)I"⟩
abbrev cX9_read : ByteArray := prog_11_method_30_code
def yX9_read : MethodName := ⟨RX9, "read", "(II)I"⟩
abbrev cX9_value : ByteArray := prog_11_method_31_code
def yX9_value : MethodName := ⟨RX9, "value", "()J"⟩
abbrev cX9_write : ByteArray := prog_11_method_32_code
def yX9_write : MethodName := ⟨RX9, "write", "(IIJ)I"⟩
abbrev cX9_areRight : ByteArray := prog_11_method_33_code
def yX9_areRight : MethodName := ⟨RX9, "areRight", "(IIII)Z"⟩
abbrev cX9_set : ByteArray := prog_11_method_34_code
def yX9_set : MethodName := ⟨RX9, "set", "(IIIII)V"⟩
abbrev cX9_subscribe : ByteArray := prog_11_method_35_code
def yX9_subscribe : MethodName := ⟨RX9, "subscribe", "(IIIII)I"⟩
abbrev cX9_lacksSub : ByteArray := prog_11_method_36_code
def yX9_lacksSub : MethodName := ⟨RX9, "lacksSub", "(II)I"⟩
abbrev cX9_modify : ByteArray := prog_11_method_37_code
def yX9_modify : MethodName := ⟨RX9, "modify", "(IIIIII)I"⟩
abbrev cX9_turn : ByteArray := prog_11_method_38_code
def yX9_turn : MethodName := ⟨RX9, "turn", "(IIZ)I"⟩
abbrev cX9_transfer : ByteArray := prog_11_method_39_code
def yX9_transfer : MethodName := ⟨RX9, "transfer", "(II)I"⟩
abbrev cX9_unsubscribe : ByteArray := prog_11_method_40_code
def yX9_unsubscribe : MethodName := ⟨RX9, "unsubscribe", "(II)I"⟩
abbrev cX9_item : ByteArray := prog_11_method_41_code
def yX9_item : MethodName := ⟨RX9, "item", "(IIIIIZIJ)I"⟩
abbrev cX9_lacksItem : ByteArray := prog_11_method_42_code
def yX9_lacksItem : MethodName := ⟨RX9, "lacksItem", "(II)I"⟩
abbrev cX9_mode : ByteArray := prog_11_method_43_code
def yX9_mode : MethodName := ⟨RX9, "mode", "(III)I"⟩
abbrev cX9_drop : ByteArray := prog_11_method_44_code
def yX9_drop : MethodName := ⟨RX9, "drop", "(II)I"⟩
abbrev cX9_findKept : ByteArray := prog_11_method_45_code
def yX9_findKept : MethodName := ⟨RX9, "findKept", "(II)I"⟩
abbrev cX9_acknowledge : ByteArray := prog_11_method_46_code
def yX9_acknowledge : MethodName := ⟨RX9, "acknowledge", "(III)I"⟩
abbrev cX9_publish : ByteArray := prog_11_method_47_code
def yX9_publish : MethodName := ⟨RX9, "publish", "(III)I"⟩
abbrev cX9_acknowledged : ByteArray := prog_11_method_48_code
def yX9_acknowledged : MethodName := ⟨RX9, "acknowledged", "()I"⟩
abbrev cX9_again : ByteArray := prog_11_method_49_code
def yX9_again : MethodName := ⟨RX9, "again", "(III)I"⟩
abbrev cX9_mail : ByteArray := prog_11_method_50_code
def yX9_mail : MethodName := ⟨RX9, "mail", "(II)I"⟩
abbrev cX9_message : ByteArray := prog_11_method_51_code
def yX9_message : MethodName := ⟨RX9, "message", "(II)I"⟩
abbrev cX9_entry : ByteArray := prog_11_method_52_code
def yX9_entry : MethodName := ⟨RX9, "entry", "(III)J"⟩
abbrev cX9_sessionOf : ByteArray := prog_11_method_53_code
def yX9_sessionOf : MethodName := ⟨RX9, "sessionOf", "(II)I"⟩
abbrev cX9_subscription : ByteArray := prog_11_method_54_code
def yX9_subscription : MethodName := ⟨RX9, "subscription", "(II)I"⟩
abbrev cX9_itemOf : ByteArray := prog_11_method_55_code
def yX9_itemOf : MethodName := ⟨RX9, "itemOf", "(II)I"⟩
abbrev cX9_status : ByteArray := prog_11_method_56_code
def yX9_status : MethodName := ⟨RX9, "status", "(I)I"⟩
def RJx145de : String := "java/io/Serializable"
def TJx145de : u_T := fun k => match k with
  | _ => ("", "", "", false)
def tyJx145de : Nat → FieldType := fun k => match k with
  | _ => .int
abbrev wsJx145de0 : List Cond := u_ws RJx145de TJx145de 0
theorem nmJx145de : ∀ a, a < 0 → ∀ b, b < 0 → a ≠ b → (TJx145de a).2.1 ≠ (TJx145de b).2.1 := by decide +kernel
theorem tyJx145de_ok : ∀ k, k < 0 → parseFieldDescriptor (TJx145de k).2.2.1 = some (tyJx145de k) := by decide +kernel
def RJx8e188 : String := "java/lang/Cloneable"
def TJx8e188 : u_T := fun k => match k with
  | _ => ("", "", "", false)
def tyJx8e188 : Nat → FieldType := fun k => match k with
  | _ => .int
abbrev wsJx8e1880 : List Cond := u_ws RJx8e188 TJx8e188 0
theorem nmJx8e188 : ∀ a, a < 0 → ∀ b, b < 0 → a ≠ b → (TJx8e188 a).2.1 ≠ (TJx8e188 b).2.1 := by decide +kernel
theorem tyJx8e188_ok : ∀ k, k < 0 → parseFieldDescriptor (TJx8e188 k).2.2.1 = some (tyJx8e188 k) := by decide +kernel
def RJxab1ab : String := "java/lang/Iterable"
def TJxab1ab : u_T := fun k => match k with
  | _ => ("", "", "", false)
def tyJxab1ab : Nat → FieldType := fun k => match k with
  | _ => .int
abbrev wsJxab1ab0 : List Cond := u_ws RJxab1ab TJxab1ab 0
theorem nmJxab1ab : ∀ a, a < 0 → ∀ b, b < 0 → a ≠ b → (TJxab1ab a).2.1 ≠ (TJxab1ab b).2.1 := by decide +kernel
theorem tyJxab1ab_ok : ∀ k, k < 0 → parseFieldDescriptor (TJxab1ab k).2.2.1 = some (tyJxab1ab k) := by decide +kernel
def RJ9 : String := "java/lang/Math"
def TJ9 : u_T := fun k => match k with
  | _ => ("", "", "", false)
def tyJ9 : Nat → FieldType := fun k => match k with
  | _ => .int
abbrev wsJ90 : List Cond := u_ws RJ9 TJ9 0
theorem nmJ9 : ∀ a, a < 0 → ∀ b, b < 0 → a ≠ b → (TJ9 a).2.1 ≠ (TJ9 b).2.1 := by decide +kernel
theorem tyJ9_ok : ∀ k, k < 0 → parseFieldDescriptor (TJ9 k).2.2.1 = some (tyJ9 k) := by decide +kernel
abbrev cJ9_max_7cf53 : ByteArray := prog_15_method_65_code
def yJ9_max_7cf53 : MethodName := ⟨RJ9, "max", "(II)I"⟩
abbrev cJ9_max_f86c9 : ByteArray := prog_15_method_66_code
def yJ9_max_f86c9 : MethodName := ⟨RJ9, "max", "(JJ)J"⟩
abbrev cJ9_min_7cf53 : ByteArray := prog_15_method_69_code
def yJ9_min_7cf53 : MethodName := ⟨RJ9, "min", "(II)I"⟩
abbrev cJ9_min_f86c9 : ByteArray := prog_15_method_70_code
def yJ9_min_f86c9 : MethodName := ⟨RJ9, "min", "(JJ)J"⟩
def RJ10 : String := "java/lang/System"
def TJ10 : u_T := fun k => match k with
  | _ => ("", "", "", false)
def tyJ10 : Nat → FieldType := fun k => match k with
  | _ => .int
abbrev wsJ100 : List Cond := u_ws RJ10 TJ10 0
theorem nmJ10 : ∀ a, a < 0 → ∀ b, b < 0 → a ≠ b → (TJ10 a).2.1 ≠ (TJ10 b).2.1 := by decide +kernel
theorem tyJ10_ok : ∀ k, k < 0 → parseFieldDescriptor (TJ10 k).2.2.1 = some (tyJ10 k) := by decide +kernel
def RJxa1e45 : String := "java/util/AbstractCollection"
def TJxa1e45 : u_T := fun k => match k with
  | _ => ("", "", "", false)
def tyJxa1e45 : Nat → FieldType := fun k => match k with
  | _ => .int
abbrev wsJxa1e450 : List Cond := u_ws RJxa1e45 TJxa1e45 0
theorem nmJxa1e45 : ∀ a, a < 0 → ∀ b, b < 0 → a ≠ b → (TJxa1e45 a).2.1 ≠ (TJxa1e45 b).2.1 := by decide +kernel
theorem tyJxa1e45_ok : ∀ k, k < 0 → parseFieldDescriptor (TJxa1e45 k).2.2.1 = some (tyJxa1e45 k) := by decide +kernel
abbrev cJxa1e45_init_da8c8 : ByteArray := prog_17_method_1_code
def yJxa1e45_init_da8c8 : MethodName := ⟨RJxa1e45, "<init>", "()V"⟩
def RJxc12de : String := "java/util/AbstractList"
def TJxc12de : u_T := fun k => match k with
  | _ => ("", "", "", false)
def tyJxc12de : Nat → FieldType := fun k => match k with
  | _ => .int
abbrev wsJxc12de0 : List Cond := u_ws RJxc12de TJxc12de 0
theorem nmJxc12de : ∀ a, a < 0 → ∀ b, b < 0 → a ≠ b → (TJxc12de a).2.1 ≠ (TJxc12de b).2.1 := by decide +kernel
theorem tyJxc12de_ok : ∀ k, k < 0 → parseFieldDescriptor (TJxc12de k).2.2.1 = some (tyJxc12de k) := by decide +kernel
abbrev cJxc12de_init_da8c8 : ByteArray := prog_18_method_1_code
def yJxc12de_init_da8c8 : MethodName := ⟨RJxc12de, "<init>", "()V"⟩
def RJx4a65c : String := "java/util/ArrayList"
def TJx4a65c : u_T := fun k => match k with
  | 0 => ("java/util/AbstractList", "modCount", "I", false)
  | 1 => ("java/util/ArrayList", "elementData", "[Ljava/lang/Object;", false)
  | _ => ("java/util/ArrayList", "size", "I", false)
def tyJx4a65c : Nat → FieldType := fun k => match k with
  | 0 => .int
  | 1 => .array (.object "java/lang/Object")
  | _ => .int
abbrev wsJx4a65c0 : List Cond := u_ws RJx4a65c TJx4a65c 3
theorem nmJx4a65c : ∀ a, a < 3 → ∀ b, b < 3 → a ≠ b → (TJx4a65c a).2.1 ≠ (TJx4a65c b).2.1 := by decide +kernel
theorem tyJx4a65c_ok : ∀ k, k < 3 → parseFieldDescriptor (TJx4a65c k).2.2.1 = some (tyJx4a65c k) := by decide +kernel
abbrev cJx4a65c_init_da8c8 : ByteArray := prog_19_method_2_code
def yJx4a65c_init_da8c8 : MethodName := ⟨RJx4a65c, "<init>", "()V"⟩
abbrev cJx4a65c_grow_92f84 : ByteArray := prog_19_method_6_code
def yJx4a65c_grow_92f84 : MethodName := ⟨RJx4a65c, "grow", "(I)[Ljava/lang/Object;"⟩
abbrev cJx4a65c_grow_d5877 : ByteArray := prog_19_method_7_code
def yJx4a65c_grow_d5877 : MethodName := ⟨RJx4a65c, "grow", "()[Ljava/lang/Object;"⟩
abbrev cJx4a65c_size_8abf5 : ByteArray := prog_19_method_8_code
def yJx4a65c_size_8abf5 : MethodName := ⟨RJx4a65c, "size", "()I"⟩
abbrev cJx4a65c_isEmpty_aae02 : ByteArray := prog_19_method_9_code
def yJx4a65c_isEmpty_aae02 : MethodName := ⟨RJx4a65c, "isEmpty", "()Z"⟩
abbrev cJx4a65c_elementData_915e3 : ByteArray := prog_19_method_18_code
def yJx4a65c_elementData_915e3 : MethodName := ⟨RJx4a65c, "elementData", "(I)Ljava/lang/Object;"⟩
abbrev cJx4a65c_get_915e3 : ByteArray := prog_19_method_20_code
def yJx4a65c_get_915e3 : MethodName := ⟨RJx4a65c, "get", "(I)Ljava/lang/Object;"⟩
abbrev cJx4a65c_set_bcc79 : ByteArray := prog_19_method_23_code
def yJx4a65c_set_bcc79 : MethodName := ⟨RJx4a65c, "set", "(ILjava/lang/Object;)Ljava/lang/Object;"⟩
abbrev cJx4a65c_add_72be8 : ByteArray := prog_19_method_24_code
def yJx4a65c_add_72be8 : MethodName := ⟨RJx4a65c, "add", "(Ljava/lang/Object;[Ljava/lang/Object;I)V"⟩
abbrev cJx4a65c_add_9ea2d : ByteArray := prog_19_method_25_code
def yJx4a65c_add_9ea2d : MethodName := ⟨RJx4a65c, "add", "(Ljava/lang/Object;)Z"⟩
abbrev cJx4a65c_remove_915e3 : ByteArray := prog_19_method_29_code
def yJx4a65c_remove_915e3 : MethodName := ⟨RJx4a65c, "remove", "(I)Ljava/lang/Object;"⟩
abbrev cJx4a65c_fastRemove_b59b0 : ByteArray := prog_19_method_39_code
def yJx4a65c_fastRemove_b59b0 : MethodName := ⟨RJx4a65c, "fastRemove", "([Ljava/lang/Object;I)V"⟩
abbrev cJx4a65c_clear_da8c8 : ByteArray := prog_19_method_40_code
def yJx4a65c_clear_da8c8 : MethodName := ⟨RJx4a65c, "clear", "()V"⟩
def RJ7 : String := "java/util/Arrays"
def TJ7 : u_T := fun k => match k with
  | _ => ("", "", "", false)
def tyJ7 : Nat → FieldType := fun k => match k with
  | _ => .int
abbrev wsJ70 : List Cond := u_ws RJ7 TJ7 0
theorem nmJ7 : ∀ a, a < 0 → ∀ b, b < 0 → a ≠ b → (TJ7 a).2.1 ≠ (TJ7 b).2.1 := by decide +kernel
theorem tyJ7_ok : ∀ k, k < 0 → parseFieldDescriptor (TJ7 k).2.2.1 = some (tyJ7 k) := by decide +kernel
abbrev cJ7_copyOf_1904c : ByteArray := prog_20_method_119_code
def yJ7_copyOf_1904c : MethodName := ⟨RJ7, "copyOf", "([Ljava/lang/Object;I)[Ljava/lang/Object;"⟩
abbrev cJ7_copyOf_6403c : ByteArray := prog_20_method_120_code
def yJ7_copyOf_6403c : MethodName := ⟨RJ7, "copyOf", "([Ljava/lang/Object;ILjava/lang/Class;)[Ljava/lang/Object;"⟩
def RJx5ef63 : String := "java/util/Collection"
def TJx5ef63 : u_T := fun k => match k with
  | _ => ("", "", "", false)
def tyJx5ef63 : Nat → FieldType := fun k => match k with
  | _ => .int
abbrev wsJx5ef630 : List Cond := u_ws RJx5ef63 TJx5ef63 0
theorem nmJx5ef63 : ∀ a, a < 0 → ∀ b, b < 0 → a ≠ b → (TJx5ef63 a).2.1 ≠ (TJx5ef63 b).2.1 := by decide +kernel
theorem tyJx5ef63_ok : ∀ k, k < 0 → parseFieldDescriptor (TJx5ef63 k).2.2.1 = some (tyJx5ef63 k) := by decide +kernel
def RJxbd725 : String := "java/util/List"
def TJxbd725 : u_T := fun k => match k with
  | _ => ("", "", "", false)
def tyJxbd725 : Nat → FieldType := fun k => match k with
  | _ => .int
abbrev wsJxbd7250 : List Cond := u_ws RJxbd725 TJxbd725 0
theorem nmJxbd725 : ∀ a, a < 0 → ∀ b, b < 0 → a ≠ b → (TJxbd725 a).2.1 ≠ (TJxbd725 b).2.1 := by decide +kernel
theorem tyJxbd725_ok : ∀ k, k < 0 → parseFieldDescriptor (TJxbd725 k).2.2.1 = some (tyJxbd725 k) := by decide +kernel
def RJ15 : String := "java/util/Objects"
def TJ15 : u_T := fun k => match k with
  | _ => ("", "", "", false)
def tyJ15 : Nat → FieldType := fun k => match k with
  | _ => .int
abbrev wsJ150 : List Cond := u_ws RJ15 TJ15 0
theorem nmJ15 : ∀ a, a < 0 → ∀ b, b < 0 → a ≠ b → (TJ15 a).2.1 ≠ (TJ15 b).2.1 := by decide +kernel
theorem tyJ15_ok : ∀ k, k < 0 → parseFieldDescriptor (TJ15 k).2.2.1 = some (tyJ15 k) := by decide +kernel
abbrev cJ15_checkIndex_7cf53 : ByteArray := prog_23_method_17_code
def yJ15_checkIndex_7cf53 : MethodName := ⟨RJ15, "checkIndex", "(II)I"⟩
def RJxf0a74 : String := "java/util/RandomAccess"
def TJxf0a74 : u_T := fun k => match k with
  | _ => ("", "", "", false)
def tyJxf0a74 : Nat → FieldType := fun k => match k with
  | _ => .int
abbrev wsJxf0a740 : List Cond := u_ws RJxf0a74 TJxf0a74 0
theorem nmJxf0a74 : ∀ a, a < 0 → ∀ b, b < 0 → a ≠ b → (TJxf0a74 a).2.1 ≠ (TJxf0a74 b).2.1 := by decide +kernel
theorem tyJxf0a74_ok : ∀ k, k < 0 → parseFieldDescriptor (TJxf0a74 k).2.2.1 = some (tyJxf0a74 k) := by decide +kernel
def RJxa66e6 : String := "java/util/SequencedCollection"
def TJxa66e6 : u_T := fun k => match k with
  | _ => ("", "", "", false)
def tyJxa66e6 : Nat → FieldType := fun k => match k with
  | _ => .int
abbrev wsJxa66e60 : List Cond := u_ws RJxa66e6 TJxa66e6 0
theorem nmJxa66e6 : ∀ a, a < 0 → ∀ b, b < 0 → a ≠ b → (TJxa66e6 a).2.1 ≠ (TJxa66e6 b).2.1 := by decide +kernel
theorem tyJxa66e6_ok : ∀ k, k < 0 → parseFieldDescriptor (TJxa66e6 k).2.2.1 = some (tyJxa66e6 k) := by decide +kernel
def RJ8 : String := "jdk/internal/util/ArraysSupport"
def TJ8 : u_T := fun k => match k with
  | _ => ("", "", "", false)
def tyJ8 : Nat → FieldType := fun k => match k with
  | _ => .int
abbrev wsJ80 : List Cond := u_ws RJ8 TJ8 0
theorem nmJ8 : ∀ a, a < 0 → ∀ b, b < 0 → a ≠ b → (TJ8 a).2.1 ≠ (TJ8 b).2.1 := by decide +kernel
theorem tyJ8_ok : ∀ k, k < 0 → parseFieldDescriptor (TJ8 k).2.2.1 = some (tyJ8 k) := by decide +kernel
abbrev cJ8_newLength_cabcc : ByteArray := prog_26_method_27_code
def yJ8_newLength_cabcc : MethodName := ⟨RJ8, "newLength", "(III)I"⟩
abbrev cJ8_hugeLength_7cf53 : ByteArray := prog_26_method_28_code
def yJ8_hugeLength_7cf53 : MethodName := ⟨RJ8, "hugeLength", "(II)I"⟩
def RJ3 : String := "jdk/internal/util/Preconditions"
def TJ3 : u_T := fun k => match k with
  | _ => ("", "", "", false)
def tyJ3 : Nat → FieldType := fun k => match k with
  | _ => .int
abbrev wsJ30 : List Cond := u_ws RJ3 TJ3 0
theorem nmJ3 : ∀ a, a < 0 → ∀ b, b < 0 → a ≠ b → (TJ3 a).2.1 ≠ (TJ3 b).2.1 := by decide +kernel
theorem tyJ3_ok : ∀ k, k < 0 → parseFieldDescriptor (TJ3 k).2.2.1 = some (tyJ3 k) := by decide +kernel
abbrev cJ3_checkIndex_8e157 : ByteArray := prog_27_method_11_code
def yJ3_checkIndex_8e157 : MethodName := ⟨RJ3, "checkIndex", "(IILjava/util/function/BiFunction;)I"⟩
def RL : String := "WatchServerLaw"
abbrev cL_law : ByteArray := code
def yL_law : MethodName := ⟨RL, "law", "([I)Z"⟩
abbrev vwCl : List vw_C := [(RJx4a65c, TJx4a65c, 3), (RX0, TX0, 4), (RX1, TX1, 11), (RX2, TX2, 7), (RX3, TX3, 3), (RX4, TX4, 3), (RX5, TX5, 3), (RX6, TX6, 6), (RX7, TX7, 18), (RX8, TX8, 11), (RX9, TX9, 62)]
