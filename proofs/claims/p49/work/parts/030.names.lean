def RX0 : String := "Routepost$Bags"
def TX0 : u_T := fun k => match k with
  | 0 => ("Routepost$Bags", "goals", "[LRoutepost$Hub;", true)
  | 1 => ("Routepost$Bags", "volumes", "[I", true)
  | _ => ("Routepost$Bags", "count", "I", false)
def tyX0 : Nat → FieldType := fun k => match k with
  | 0 => .array (.object "Routepost$Hub")
  | 1 => .array .int
  | _ => .int
abbrev wsX00 : List Cond := u_ws RX0 TX0 3
theorem nmX0 : ∀ a, a < 3 → ∀ b, b < 3 → a ≠ b → (TX0 a).2.1 ≠ (TX0 b).2.1 := by decide +kernel
theorem tyX0_ok : ∀ k, k < 3 → parseFieldDescriptor (TX0 k).2.2.1 = some (tyX0 k) := by decide +kernel
abbrev cX0_init : ByteArray := prog_2_method_1_code
def yX0_init : MethodName := ⟨RX0, "<init>", "()V"⟩
abbrev cX0_clear : ByteArray := prog_2_method_2_code
def yX0_clear : MethodName := ⟨RX0, "clear", "()V"⟩
abbrev cX0_has : ByteArray := prog_2_method_3_code
def yX0_has : MethodName := ⟨RX0, "has", "(I)Z"⟩
abbrev cX0_volumeOf : ByteArray := prog_2_method_4_code
def yX0_volumeOf : MethodName := ⟨RX0, "volumeOf", "(I)I"⟩
abbrev cX0_put : ByteArray := prog_2_method_5_code
def yX0_put : MethodName := ⟨RX0, "put", "(LRoutepost$Parcel;I)Z"⟩
abbrev cX0_open : ByteArray := prog_2_method_6_code
def yX0_open : MethodName := ⟨RX0, "open", "(LRoutepost$Parcel;I)Z"⟩
def RX1 : String := "Routepost$Event"
def TX1 : u_T := fun k => match k with
  | 0 => ("Routepost$Event", "letter", "C", true)
  | 1 => ("Routepost$Event", "happenedIn", "I", true)
  | _ => ("Routepost$Event", "hub", "LRoutepost$Hub;", true)
def tyX1 : Nat → FieldType := fun k => match k with
  | 0 => .char
  | 1 => .int
  | _ => .object "Routepost$Hub"
abbrev wsX10 : List Cond := u_ws RX1 TX1 3
theorem nmX1 : ∀ a, a < 3 → ∀ b, b < 3 → a ≠ b → (TX1 a).2.1 ≠ (TX1 b).2.1 := by decide +kernel
theorem tyX1_ok : ∀ k, k < 3 → parseFieldDescriptor (TX1 k).2.2.1 = some (tyX1 k) := by decide +kernel
abbrev cX1_init : ByteArray := prog_3_method_1_code
def yX1_init : MethodName := ⟨RX1, "<init>", "(CILRoutepost$Hub;)V"⟩
def RX2 : String := "Routepost$History"
def TX2 : u_T := fun k => match k with
  | 0 => ("Routepost$History", "events", "Ljava/util/ArrayList;", true)
  | _ => ("Routepost$History", "digest", "I", false)
def tyX2 : Nat → FieldType := fun k => match k with
  | 0 => .object "java/util/ArrayList"
  | _ => .int
abbrev wsX20 : List Cond := u_ws RX2 TX2 2
theorem nmX2 : ∀ a, a < 2 → ∀ b, b < 2 → a ≠ b → (TX2 a).2.1 ≠ (TX2 b).2.1 := by decide +kernel
theorem tyX2_ok : ∀ k, k < 2 → parseFieldDescriptor (TX2 k).2.2.1 = some (tyX2 k) := by decide +kernel
abbrev cX2_init : ByteArray := prog_4_method_1_code
def yX2_init : MethodName := ⟨RX2, "<init>", "()V"⟩
abbrev cX2_note : ByteArray := prog_4_method_2_code
def yX2_note : MethodName := ⟨RX2, "note", "(CILRoutepost$Hub;LRoutepost$Line;)V"⟩
def RX3 : String := "Routepost$Hub"
def TX3 : u_T := fun k => match k with
  | 0 => ("Routepost$Hub", "number", "I", true)
  | 1 => ("Routepost$Hub", "code", "I", true)
  | _ => ("Routepost$Hub", "cutoff", "I", true)
def tyX3 : Nat → FieldType := fun k => match k with
  | 0 => .int
  | 1 => .int
  | _ => .int
abbrev wsX30 : List Cond := u_ws RX3 TX3 3
theorem nmX3 : ∀ a, a < 3 → ∀ b, b < 3 → a ≠ b → (TX3 a).2.1 ≠ (TX3 b).2.1 := by decide +kernel
theorem tyX3_ok : ∀ k, k < 3 → parseFieldDescriptor (TX3 k).2.2.1 = some (tyX3 k) := by decide +kernel
abbrev cX3_init : ByteArray := prog_5_method_1_code
def yX3_init : MethodName := ⟨RX3, "<init>", "(III)V"⟩
abbrev cX3_readyFrom : ByteArray := prog_5_method_2_code
def yX3_readyFrom : MethodName := ⟨RX3, "readyFrom", "(II)I"⟩
def RX4 : String := "Routepost$Line"
def TX4 : u_T := fun k => match k with
  | 0 => ("Routepost$Line", "number", "I", true)
  | 1 => ("Routepost$Line", "from", "LRoutepost$Hub;", true)
  | 2 => ("Routepost$Line", "to", "LRoutepost$Hub;", true)
  | 3 => ("Routepost$Line", "mostBags", "I", true)
  | 4 => ("Routepost$Line", "truck", "LRoutepost$Bags;", true)
  | 5 => ("Routepost$Line", "first", "I", false)
  | 6 => ("Routepost$Line", "period", "I", false)
  | 7 => ("Routepost$Line", "travel", "I", false)
  | _ => ("Routepost$Line", "isOpen", "Z", false)
def tyX4 : Nat → FieldType := fun k => match k with
  | 0 => .int
  | 1 => .object "Routepost$Hub"
  | 2 => .object "Routepost$Hub"
  | 3 => .int
  | 4 => .object "Routepost$Bags"
  | 5 => .int
  | 6 => .int
  | 7 => .int
  | _ => .boolean
abbrev wsX40 : List Cond := u_ws RX4 TX4 9
theorem nmX4 : ∀ a, a < 9 → ∀ b, b < 9 → a ≠ b → (TX4 a).2.1 ≠ (TX4 b).2.1 := by decide +kernel
theorem tyX4_ok : ∀ k, k < 9 → parseFieldDescriptor (TX4 k).2.2.1 = some (tyX4 k) := by decide +kernel
abbrev cX4_init : ByteArray := prog_6_method_1_code
def yX4_init : MethodName := ⟨RX4, "<init>", "(ILRoutepost$Hub;LRoutepost$Hub;I)V"⟩
abbrev cX4_setTimes : ByteArray := prog_6_method_2_code
def yX4_setTimes : MethodName := ⟨RX4, "setTimes", "(III)V"⟩
abbrev cX4_departureFrom : ByteArray := prog_6_method_3_code
def yX4_departureFrom : MethodName := ⟨RX4, "departureFrom", "(I)I"⟩
abbrev cX4_leavesIn : ByteArray := prog_6_method_4_code
def yX4_leavesIn : MethodName := ⟨RX4, "leavesIn", "(I)Z"⟩
def RX5 : String := "Routepost$Parcel"
def TX5 : u_T := fun k => match k with
  | 0 => ("Routepost$Parcel", "number", "I", true)
  | 1 => ("Routepost$Parcel", "volume", "I", true)
  | 2 => ("Routepost$Parcel", "service", "I", true)
  | 3 => ("Routepost$Parcel", "acceptedIn", "I", true)
  | 4 => ("Routepost$Parcel", "origin", "LRoutepost$Hub;", true)
  | 5 => ("Routepost$Parcel", "history", "LRoutepost$History;", true)
  | 6 => ("Routepost$Parcel", "destination", "LRoutepost$Hub;", false)
  | 7 => ("Routepost$Parcel", "hub", "LRoutepost$Hub;", false)
  | 8 => ("Routepost$Parcel", "state", "C", false)
  | 9 => ("Routepost$Parcel", "ride", "LRoutepost$Line;", false)
  | 10 => ("Routepost$Parcel", "next", "LRoutepost$Line;", false)
  | 11 => ("Routepost$Parcel", "dueIn", "I", false)
  | 12 => ("Routepost$Parcel", "scannedIn", "I", false)
  | 13 => ("Routepost$Parcel", "reachedIn", "I", false)
  | 14 => ("Routepost$Parcel", "deliveredIn", "I", false)
  | 15 => ("Routepost$Parcel", "promised", "I", false)
  | 16 => ("Routepost$Parcel", "misrouted", "I", false)
  | 17 => ("Routepost$Parcel", "failed", "I", false)
  | 18 => ("Routepost$Parcel", "timesLeft", "I", false)
  | _ => ("Routepost$Parcel", "isBack", "Z", false)
def tyX5 : Nat → FieldType := fun k => match k with
  | 0 => .int
  | 1 => .int
  | 2 => .int
  | 3 => .int
  | 4 => .object "Routepost$Hub"
  | 5 => .object "Routepost$History"
  | 6 => .object "Routepost$Hub"
  | 7 => .object "Routepost$Hub"
  | 8 => .char
  | 9 => .object "Routepost$Line"
  | 10 => .object "Routepost$Line"
  | 11 => .int
  | 12 => .int
  | 13 => .int
  | 14 => .int
  | 15 => .int
  | 16 => .int
  | 17 => .int
  | 18 => .int
  | _ => .boolean
abbrev wsX50 : List Cond := u_ws RX5 TX5 20
theorem nmX5 : ∀ a, a < 20 → ∀ b, b < 20 → a ≠ b → (TX5 a).2.1 ≠ (TX5 b).2.1 := by decide +kernel
theorem tyX5_ok : ∀ k, k < 20 → parseFieldDescriptor (TX5 k).2.2.1 = some (tyX5 k) := by decide +kernel
abbrev cX5_init : ByteArray := prog_7_method_1_code
def yX5_init : MethodName := ⟨RX5, "<init>", "(ILRoutepost$Hub;LRoutepost$Hub;III)V"⟩
abbrev cX5_settle : ByteArray := prog_7_method_2_code
def yX5_settle : MethodName := ⟨RX5, "settle", "(LRoutepost$Hub;I)V"⟩
abbrev cX5_waitsFor : ByteArray := prog_7_method_3_code
def yX5_waitsFor : MethodName := ⟨RX5, "waitsFor", "(LRoutepost$Line;)Z"⟩
abbrev cX5_missesPromise : ByteArray := prog_7_method_4_code
def yX5_missesPromise : MethodName := ⟨RX5, "missesPromise", "(I)Z"⟩
abbrev cX5_attemptsAllowed : ByteArray := prog_7_method_5_code
def yX5_attemptsAllowed : MethodName := ⟨RX5, "attemptsAllowed", "()I"⟩
abbrev cX5_loadsBefore : ByteArray := prog_7_method_6_code
def yX5_loadsBefore : MethodName := ⟨RX5, "loadsBefore", "(LRoutepost$Parcel;)Z"⟩
def RX6 : String := "Routepost$Path"
def TX6 : u_T := fun k => match k with
  | 0 => ("Routepost$Path", "hub", "LRoutepost$Hub;", false)
  | 1 => ("Routepost$Path", "first", "LRoutepost$Line;", false)
  | 2 => ("Routepost$Path", "end", "I", false)
  | 3 => ("Routepost$Path", "size", "I", false)
  | 4 => ("Routepost$Path", "route", "I", false)
  | 5 => ("Routepost$Path", "visited", "I", false)
  | _ => ("Routepost$Path", "isExtended", "Z", false)
def tyX6 : Nat → FieldType := fun k => match k with
  | 0 => .object "Routepost$Hub"
  | 1 => .object "Routepost$Line"
  | 2 => .int
  | 3 => .int
  | 4 => .int
  | 5 => .int
  | _ => .boolean
abbrev wsX60 : List Cond := u_ws RX6 TX6 7
theorem nmX6 : ∀ a, a < 7 → ∀ b, b < 7 → a ≠ b → (TX6 a).2.1 ≠ (TX6 b).2.1 := by decide +kernel
theorem tyX6_ok : ∀ k, k < 7 → parseFieldDescriptor (TX6 k).2.2.1 = some (tyX6 k) := by decide +kernel
abbrev cX6_init : ByteArray := prog_8_method_1_code
def yX6_init : MethodName := ⟨RX6, "<init>", "()V"⟩
abbrev cX6_begin : ByteArray := prog_8_method_2_code
def yX6_begin : MethodName := ⟨RX6, "begin", "(LRoutepost$Hub;I)V"⟩
abbrev cX6_follow : ByteArray := prog_8_method_3_code
def yX6_follow : MethodName := ⟨RX6, "follow", "(LRoutepost$Path;LRoutepost$Line;I)V"⟩
abbrev cX6_hasVisited : ByteArray := prog_8_method_4_code
def yX6_hasVisited : MethodName := ⟨RX6, "hasVisited", "(LRoutepost$Hub;)Z"⟩
abbrev cX6_isBetterThan : ByteArray := prog_8_method_5_code
def yX6_isBetterThan : MethodName := ⟨RX6, "isBetterThan", "(LRoutepost$Path;)Z"⟩
def RX7 : String := "Routepost$PathSearch"
def TX7 : u_T := fun k => match k with
  | 0 => ("Routepost$PathSearch", "paths", "Ljava/util/ArrayList;", true)
  | 1 => ("Routepost$PathSearch", "empty", "LRoutepost$Path;", true)
  | _ => ("Routepost$PathSearch", "made", "I", false)
def tyX7 : Nat → FieldType := fun k => match k with
  | 0 => .object "java/util/ArrayList"
  | 1 => .object "Routepost$Path"
  | _ => .int
abbrev wsX70 : List Cond := u_ws RX7 TX7 3
theorem nmX7 : ∀ a, a < 3 → ∀ b, b < 3 → a ≠ b → (TX7 a).2.1 ≠ (TX7 b).2.1 := by decide +kernel
theorem tyX7_ok : ∀ k, k < 3 → parseFieldDescriptor (TX7 k).2.2.1 = some (tyX7 k) := by decide +kernel
abbrev cX7_init : ByteArray := prog_9_method_1_code
def yX7_init : MethodName := ⟨RX7, "<init>", "()V"⟩
abbrev cX7_bestPath : ByteArray := prog_9_method_2_code
def yX7_bestPath : MethodName := ⟨RX7, "bestPath", "(Ljava/util/ArrayList;LRoutepost$Parcel;I)LRoutepost$Path;"⟩
abbrev cX7_bestToExtend : ByteArray := prog_9_method_3_code
def yX7_bestToExtend : MethodName := ⟨RX7, "bestToExtend", "()LRoutepost$Path;"⟩
abbrev cX7_extend : ByteArray := prog_9_method_4_code
def yX7_extend : MethodName := ⟨RX7, "extend", "(LRoutepost$Path;Ljava/util/ArrayList;I)V"⟩
def RX8 : String := "Routepost$PathTrial"
def TX8 : u_T := fun k => match k with
  | 0 => ("Routepost$PathTrial", "goal", "LRoutepost$Hub;", false)
  | 1 => ("Routepost$PathTrial", "first", "LRoutepost$Line;", false)
  | 2 => ("Routepost$PathTrial", "bestSize", "I", false)
  | 3 => ("Routepost$PathTrial", "bestEnd", "I", false)
  | _ => ("Routepost$PathTrial", "bestFirst", "LRoutepost$Line;", false)
def tyX8 : Nat → FieldType := fun k => match k with
  | 0 => .object "Routepost$Hub"
  | 1 => .object "Routepost$Line"
  | 2 => .int
  | 3 => .int
  | _ => .object "Routepost$Line"
abbrev wsX80 : List Cond := u_ws RX8 TX8 5
theorem nmX8 : ∀ a, a < 5 → ∀ b, b < 5 → a ≠ b → (TX8 a).2.1 ≠ (TX8 b).2.1 := by decide +kernel
theorem tyX8_ok : ∀ k, k < 5 → parseFieldDescriptor (TX8 k).2.2.1 = some (tyX8 k) := by decide +kernel
abbrev cX8_init : ByteArray := prog_10_method_1_code
def yX8_init : MethodName := ⟨RX8, "<init>", "()V"⟩
abbrev cX8_tryAll : ByteArray := prog_10_method_2_code
def yX8_tryAll : MethodName := ⟨RX8, "tryAll", "(Ljava/util/ArrayList;LRoutepost$Parcel;I)V"⟩
abbrev cX8_tryFrom : ByteArray := prog_10_method_3_code
def yX8_tryFrom : MethodName := ⟨RX8, "tryFrom", "(LRoutepost$PathTrial;Ljava/util/ArrayList;LRoutepost$Hub;IIII)V"⟩
abbrev cX8_compare : ByteArray := prog_10_method_4_code
def yX8_compare : MethodName := ⟨RX8, "compare", "(II)V"⟩
def RX9 : String := "Routepost$Simulation"
def TX9 : u_T := fun k => match k with
  | 0 => ("Routepost$Simulation", "copyScannedIn", "[I", true)
  | _ => ("Routepost$Simulation", "copyDueIn", "[I", true)
def tyX9 : Nat → FieldType := fun k => match k with
  | 0 => .array .int
  | _ => .array .int
abbrev wsX90 : List Cond := u_ws RX9 TX9 2
theorem nmX9 : ∀ a, a < 2 → ∀ b, b < 2 → a ≠ b → (TX9 a).2.1 ≠ (TX9 b).2.1 := by decide +kernel
theorem tyX9_ok : ∀ k, k < 2 → parseFieldDescriptor (TX9 k).2.2.1 = some (tyX9 k) := by decide +kernel
abbrev cX9_init : ByteArray := prog_11_method_1_code
def yX9_init : MethodName := ⟨RX9, "<init>", "()V"⟩
def RX10 : String := "Routepost"
def TX10 : u_T := fun k => match k with
  | 0 => ("Routepost", "hubs", "Ljava/util/ArrayList;", true)
  | 1 => ("Routepost", "lines", "Ljava/util/ArrayList;", true)
  | 2 => ("Routepost", "parcels", "Ljava/util/ArrayList;", true)
  | 3 => ("Routepost", "queue", "Ljava/util/ArrayList;", true)
  | 4 => ("Routepost", "leftBehind", "Ljava/util/ArrayList;", true)
  | 5 => ("Routepost", "looseBags", "LRoutepost$Bags;", true)
  | 6 => ("Routepost", "search", "LRoutepost$PathSearch;", true)
  | 7 => ("Routepost", "trial", "LRoutepost$PathTrial;", true)
  | 8 => ("Routepost", "simulation", "LRoutepost$Simulation;", true)
  | _ => ("Routepost", "minute", "I", false)
def tyX10 : Nat → FieldType := fun k => match k with
  | 0 => .object "java/util/ArrayList"
  | 1 => .object "java/util/ArrayList"
  | 2 => .object "java/util/ArrayList"
  | 3 => .object "java/util/ArrayList"
  | 4 => .object "java/util/ArrayList"
  | 5 => .object "Routepost$Bags"
  | 6 => .object "Routepost$PathSearch"
  | 7 => .object "Routepost$PathTrial"
  | 8 => .object "Routepost$Simulation"
  | _ => .int
abbrev wsX100 : List Cond := u_ws RX10 TX10 10
theorem nmX10 : ∀ a, a < 10 → ∀ b, b < 10 → a ≠ b → (TX10 a).2.1 ≠ (TX10 b).2.1 := by decide +kernel
theorem tyX10_ok : ∀ k, k < 10 → parseFieldDescriptor (TX10 k).2.2.1 = some (tyX10 k) := by decide +kernel
abbrev cX10_init : ByteArray := prog_1_method_1_code
def yX10_init : MethodName := ⟨RX10, "<init>", "()V"⟩
abbrev cX10_openHub : ByteArray := prog_1_method_2_code
def yX10_openHub : MethodName := ⟨RX10, "openHub", "(II)I"⟩
abbrev cX10_addLine : ByteArray := prog_1_method_3_code
def yX10_addLine : MethodName := ⟨RX10, "addLine", "(IIIIII)I"⟩
abbrev cX10_closeLine : ByteArray := prog_1_method_4_code
def yX10_closeLine : MethodName := ⟨RX10, "closeLine", "(I)I"⟩
abbrev cX10_hubOf : ByteArray := prog_1_method_5_code
def yX10_hubOf : MethodName := ⟨RX10, "hubOf", "(I)I"⟩
abbrev cX10_hubByTrying : ByteArray := prog_1_method_6_code
def yX10_hubByTrying : MethodName := ⟨RX10, "hubByTrying", "(I)I"⟩
abbrev cX10_nextDeparture : ByteArray := prog_1_method_7_code
def yX10_nextDeparture : MethodName := ⟨RX10, "nextDeparture", "(I)I"⟩
abbrev cX10_hubs : ByteArray := prog_1_method_8_code
def yX10_hubs : MethodName := ⟨RX10, "hubs", "()I"⟩
abbrev cX10_lines : ByteArray := prog_1_method_9_code
def yX10_lines : MethodName := ⟨RX10, "lines", "()I"⟩
abbrev cX10_minute : ByteArray := prog_1_method_10_code
def yX10_minute : MethodName := ⟨RX10, "minute", "()I"⟩
abbrev cX10_accept : ByteArray := prog_1_method_11_code
def yX10_accept : MethodName := ⟨RX10, "accept", "(IIII)I"⟩
abbrev cX10_scan : ByteArray := prog_1_method_12_code
def yX10_scan : MethodName := ⟨RX10, "scan", "(II)C"⟩
abbrev cX10_deliver : ByteArray := prog_1_method_13_code
def yX10_deliver : MethodName := ⟨RX10, "deliver", "(IZ)C"⟩
abbrev cX10_recall : ByteArray := prog_1_method_14_code
def yX10_recall : MethodName := ⟨RX10, "recall", "(I)I"⟩
abbrev cX10_pass : ByteArray := prog_1_method_15_code
def yX10_pass : MethodName := ⟨RX10, "pass", "(I)I"⟩
abbrev cX10_parcels : ByteArray := prog_1_method_16_code
def yX10_parcels : MethodName := ⟨RX10, "parcels", "()I"⟩
abbrev cX10_state : ByteArray := prog_1_method_17_code
def yX10_state : MethodName := ⟨RX10, "state", "(I)C"⟩
abbrev cX10_at : ByteArray := prog_1_method_18_code
def yX10_at : MethodName := ⟨RX10, "at", "(I)I"⟩
abbrev cX10_rides : ByteArray := prog_1_method_19_code
def yX10_rides : MethodName := ⟨RX10, "rides", "(I)I"⟩
abbrev cX10_destination : ByteArray := prog_1_method_20_code
def yX10_destination : MethodName := ⟨RX10, "destination", "(I)I"⟩
abbrev cX10_isReturn : ByteArray := prog_1_method_21_code
def yX10_isReturn : MethodName := ⟨RX10, "isReturn", "(I)Z"⟩
abbrev cX10_promise : ByteArray := prog_1_method_22_code
def yX10_promise : MethodName := ⟨RX10, "promise", "(I)I"⟩
abbrev cX10_isLate : ByteArray := prog_1_method_23_code
def yX10_isLate : MethodName := ⟨RX10, "isLate", "(I)Z"⟩
abbrev cX10_misroutes : ByteArray := prog_1_method_24_code
def yX10_misroutes : MethodName := ⟨RX10, "misroutes", "(I)I"⟩
abbrev cX10_attempts : ByteArray := prog_1_method_25_code
def yX10_attempts : MethodName := ⟨RX10, "attempts", "(I)I"⟩
abbrev cX10_missed : ByteArray := prog_1_method_26_code
def yX10_missed : MethodName := ⟨RX10, "missed", "(I)I"⟩
abbrev cX10_nextLine : ByteArray := prog_1_method_27_code
def yX10_nextLine : MethodName := ⟨RX10, "nextLine", "(I)I"⟩
abbrev cX10_nextLineByPaths : ByteArray := prog_1_method_28_code
def yX10_nextLineByPaths : MethodName := ⟨RX10, "nextLineByPaths", "(I)I"⟩
abbrev cX10_arrival : ByteArray := prog_1_method_31_code
def yX10_arrival : MethodName := ⟨RX10, "arrival", "(I)I"⟩
abbrev cX10_waiting : ByteArray := prog_1_method_34_code
def yX10_waiting : MethodName := ⟨RX10, "waiting", "(I)I"⟩
abbrev cX10_waitingAt : ByteArray := prog_1_method_35_code
def yX10_waitingAt : MethodName := ⟨RX10, "waitingAt", "(II)I"⟩
abbrev cX10_bagsNeeded : ByteArray := prog_1_method_36_code
def yX10_bagsNeeded : MethodName := ⟨RX10, "bagsNeeded", "(I)I"⟩
abbrev cX10_bagsAtLeast : ByteArray := prog_1_method_37_code
def yX10_bagsAtLeast : MethodName := ⟨RX10, "bagsAtLeast", "(I)I"⟩
abbrev cX10_bags : ByteArray := prog_1_method_38_code
def yX10_bags : MethodName := ⟨RX10, "bags", "(I)I"⟩
abbrev cX10_bagVolume : ByteArray := prog_1_method_39_code
def yX10_bagVolume : MethodName := ⟨RX10, "bagVolume", "(II)I"⟩
abbrev cX10_riding : ByteArray := prog_1_method_40_code
def yX10_riding : MethodName := ⟨RX10, "riding", "(I)I"⟩
abbrev cX10_lateShare : ByteArray := prog_1_method_46_code
def yX10_lateShare : MethodName := ⟨RX10, "lateShare", "()F"⟩
abbrev cX10_meanTime : ByteArray := prog_1_method_47_code
def yX10_meanTime : MethodName := ⟨RX10, "meanTime", "()D"⟩
abbrev cX10_hubNumbered : ByteArray := prog_1_method_48_code
def yX10_hubNumbered : MethodName := ⟨RX10, "hubNumbered", "(I)LRoutepost$Hub;"⟩
abbrev cX10_lineNumbered : ByteArray := prog_1_method_49_code
def yX10_lineNumbered : MethodName := ⟨RX10, "lineNumbered", "(I)LRoutepost$Line;"⟩
abbrev cX10_openLineNumbered : ByteArray := prog_1_method_50_code
def yX10_openLineNumbered : MethodName := ⟨RX10, "openLineNumbered", "(I)LRoutepost$Line;"⟩
abbrev cX10_parcelNumbered : ByteArray := prog_1_method_51_code
def yX10_parcelNumbered : MethodName := ⟨RX10, "parcelNumbered", "(I)LRoutepost$Parcel;"⟩
abbrev cX10_scannedParcel : ByteArray := prog_1_method_52_code
def yX10_scannedParcel : MethodName := ⟨RX10, "scannedParcel", "(I)LRoutepost$Parcel;"⟩
abbrev cX10_isWithin : ByteArray := prog_1_method_54_code
def yX10_isWithin : MethodName := ⟨RX10, "isWithin", "(III)Z"⟩
abbrev cX10_isCode : ByteArray := prog_1_method_55_code
def yX10_isCode : MethodName := ⟨RX10, "isCode", "(I)Z"⟩
abbrev cX10_isAddress : ByteArray := prog_1_method_56_code
def yX10_isAddress : MethodName := ⟨RX10, "isAddress", "(I)Z"⟩
abbrev cX10_isWithoutZeros : ByteArray := prog_1_method_57_code
def yX10_isWithoutZeros : MethodName := ⟨RX10, "isWithoutZeros", "(I)Z"⟩
abbrev cX10_isPrefix : ByteArray := prog_1_method_58_code
def yX10_isPrefix : MethodName := ⟨RX10, "isPrefix", "(II)Z"⟩
abbrev cX10_hubWithCode : ByteArray := prog_1_method_59_code
def yX10_hubWithCode : MethodName := ⟨RX10, "hubWithCode", "(I)LRoutepost$Hub;"⟩
abbrev cX10_hubByShortening : ByteArray := prog_1_method_60_code
def yX10_hubByShortening : MethodName := ⟨RX10, "hubByShortening", "(I)LRoutepost$Hub;"⟩
abbrev cX10_numberOf : ByteArray := prog_1_method_61_code
def yX10_numberOf : MethodName := ⟨RX10, "numberOf", "(LRoutepost$Hub;)I"⟩
abbrev cX10_numberOf_ : ByteArray := prog_1_method_62_code
def yX10_numberOf_ : MethodName := ⟨RX10, "numberOf", "(LRoutepost$Line;)I"⟩
abbrev cX10_plan : ByteArray := prog_1_method_63_code
def yX10_plan : MethodName := ⟨RX10, "plan", "(LRoutepost$Parcel;)V"⟩
abbrev cX10_planWithPromise : ByteArray := prog_1_method_64_code
def yX10_planWithPromise : MethodName := ⟨RX10, "planWithPromise", "(LRoutepost$Parcel;)V"⟩
abbrev cX10_planAll : ByteArray := prog_1_method_65_code
def yX10_planAll : MethodName := ⟨RX10, "planAll", "()V"⟩
abbrev cX10_noticeMisroute : ByteArray := prog_1_method_66_code
def yX10_noticeMisroute : MethodName := ⟨RX10, "noticeMisroute", "(LRoutepost$Parcel;LRoutepost$Hub;)C"⟩
abbrev cX10_failAttempt : ByteArray := prog_1_method_67_code
def yX10_failAttempt : MethodName := ⟨RX10, "failAttempt", "(LRoutepost$Parcel;)C"⟩
abbrev cX10_hold : ByteArray := prog_1_method_68_code
def yX10_hold : MethodName := ⟨RX10, "hold", "(LRoutepost$Parcel;)V"⟩
abbrev cX10_turnBack : ByteArray := prog_1_method_69_code
def yX10_turnBack : MethodName := ⟨RX10, "turnBack", "(LRoutepost$Parcel;)V"⟩
abbrev cX10_unloadTrucks : ByteArray := prog_1_method_70_code
def yX10_unloadTrucks : MethodName := ⟨RX10, "unloadTrucks", "()I"⟩
abbrev cX10_loadTrucks : ByteArray := prog_1_method_71_code
def yX10_loadTrucks : MethodName := ⟨RX10, "loadTrucks", "()V"⟩
abbrev cX10_loadTruck : ByteArray := prog_1_method_72_code
def yX10_loadTruck : MethodName := ⟨RX10, "loadTruck", "(LRoutepost$Line;)V"⟩
abbrev cX10_load : ByteArray := prog_1_method_73_code
def yX10_load : MethodName := ⟨RX10, "load", "(LRoutepost$Parcel;LRoutepost$Line;)V"⟩
abbrev cX10_countWaiting : ByteArray := prog_1_method_74_code
def yX10_countWaiting : MethodName := ⟨RX10, "countWaiting", "(LRoutepost$Line;)I"⟩
abbrev cX10_volumeWaiting : ByteArray := prog_1_method_75_code
def yX10_volumeWaiting : MethodName := ⟨RX10, "volumeWaiting", "(LRoutepost$Line;LRoutepost$Hub;)I"⟩
abbrev cX10_queueUp : ByteArray := prog_1_method_76_code
def yX10_queueUp : MethodName := ⟨RX10, "queueUp", "(LRoutepost$Line;)V"⟩
def RX11 : String := "RoutepostModel"
def TX11 : u_T := fun k => match k with
  | _ => ("", "", "", false)
def tyX11 : Nat → FieldType := fun k => match k with
  | _ => .int
abbrev wsX110 : List Cond := u_ws RX11 TX11 0
theorem nmX11 : ∀ a, a < 0 → ∀ b, b < 0 → a ≠ b → (TX11 a).2.1 ≠ (TX11 b).2.1 := by decide +kernel
theorem tyX11_ok : ∀ k, k < 0 → parseFieldDescriptor (TX11 k).2.2.1 = some (tyX11 k) := by decide +kernel
def RJx145de : String := "java/io/Serializable"
def TJx145de : u_T := fun k => match k with
  | _ => ("", "", "", false)
def tyJx145de : Nat → FieldType := fun k => match k with
  | _ => .int
abbrev wsJx145de0 : List Cond := u_ws RJx145de TJx145de 0
theorem nmJx145de : ∀ a, a < 0 → ∀ b, b < 0 → a ≠ b → (TJx145de a).2.1 ≠ (TJx145de b).2.1 := by decide +kernel
theorem tyJx145de_ok : ∀ k, k < 0 → parseFieldDescriptor (TJx145de k).2.2.1 = some (tyJx145de k) := by decide +kernel
def RJ5 : String := "java/lang/AbstractStringBuilder"
def TJ5 : u_T := fun k => match k with
  | _ => ("", "", "", false)
def tyJ5 : Nat → FieldType := fun k => match k with
  | _ => .int
abbrev wsJ50 : List Cond := u_ws RJ5 TJ5 0
theorem nmJ5 : ∀ a, a < 0 → ∀ b, b < 0 → a ≠ b → (TJ5 a).2.1 ≠ (TJ5 b).2.1 := by decide +kernel
theorem tyJ5_ok : ∀ k, k < 0 → parseFieldDescriptor (TJ5 k).2.2.1 = some (tyJ5 k) := by decide +kernel
abbrev cJ5_init_d00df : ByteArray := prog_15_method_2_code
def yJ5_init_d00df : MethodName := ⟨RJ5, "<init>", "(I)V"⟩
abbrev cJ5_length_8abf5 : ByteArray := prog_15_method_6_code
def yJ5_length_8abf5 : MethodName := ⟨RJ5, "length", "()I"⟩
abbrev cJ5_ensureCapacityInternal_d00df : ByteArray := prog_15_method_9_code
def yJ5_ensureCapacityInternal_d00df : MethodName := ⟨RJ5, "ensureCapacityInternal", "(I)V"⟩
abbrev cJ5_newCapacity_0f7a4 : ByteArray := prog_15_method_10_code
def yJ5_newCapacity_0f7a4 : MethodName := ⟨RJ5, "newCapacity", "(I)I"⟩
abbrev cJ5_inflate_da8c8 : ByteArray := prog_15_method_11_code
def yJ5_inflate_da8c8 : MethodName := ⟨RJ5, "inflate", "()V"⟩
abbrev cJ5_append_cf1ce : ByteArray := prog_15_method_22_code
def yJ5_append_cf1ce : MethodName := ⟨RJ5, "append", "(Ljava/lang/String;)Ljava/lang/AbstractStringBuilder;"⟩
abbrev cJ5_appendNull_278bc : ByteArray := prog_15_method_26_code
def yJ5_appendNull_278bc : MethodName := ⟨RJ5, "appendNull", "()Ljava/lang/AbstractStringBuilder;"⟩
abbrev cJ5_append_c97b9 : ByteArray := prog_15_method_32_code
def yJ5_append_c97b9 : MethodName := ⟨RJ5, "append", "(I)Ljava/lang/AbstractStringBuilder;"⟩
abbrev cJ5_getValue_6d5f1 : ByteArray := prog_15_method_64_code
def yJ5_getValue_6d5f1 : MethodName := ⟨RJ5, "getValue", "()[B"⟩
abbrev cJ5_isLatin1_aae02 : ByteArray := prog_15_method_68_code
def yJ5_isLatin1_aae02 : MethodName := ⟨RJ5, "isLatin1", "()Z"⟩
abbrev cJ5_inflateIfNeededFor_a7421 : ByteArray := prog_15_method_71_code
def yJ5_inflateIfNeededFor_a7421 : MethodName := ⟨RJ5, "inflateIfNeededFor", "(Ljava/lang/String;)V"⟩
abbrev cJ5_putStringAt_47b60 : ByteArray := prog_15_method_73_code
def yJ5_putStringAt_47b60 : MethodName := ⟨RJ5, "putStringAt", "(ILjava/lang/String;)V"⟩
def RJx2cfe8 : String := "java/lang/Appendable"
def TJx2cfe8 : u_T := fun k => match k with
  | _ => ("", "", "", false)
def tyJx2cfe8 : Nat → FieldType := fun k => match k with
  | _ => .int
abbrev wsJx2cfe80 : List Cond := u_ws RJx2cfe8 TJx2cfe8 0
theorem nmJx2cfe8 : ∀ a, a < 0 → ∀ b, b < 0 → a ≠ b → (TJx2cfe8 a).2.1 ≠ (TJx2cfe8 b).2.1 := by decide +kernel
theorem tyJx2cfe8_ok : ∀ k, k < 0 → parseFieldDescriptor (TJx2cfe8 k).2.2.1 = some (tyJx2cfe8 k) := by decide +kernel
def RJx00060 : String := "java/lang/ArrayIndexOutOfBoundsException"
def TJx00060 : u_T := fun k => match k with
  | 0 => ("java/lang/Throwable", "backtrace", "Ljava/lang/Object;", false)
  | 1 => ("java/lang/Throwable", "detailMessage", "Ljava/lang/String;", false)
  | 2 => ("java/lang/Throwable", "cause", "Ljava/lang/Throwable;", false)
  | 3 => ("java/lang/Throwable", "stackTrace", "[Ljava/lang/StackTraceElement;", false)
  | 4 => ("java/lang/Throwable", "depth", "I", false)
  | _ => ("java/lang/Throwable", "suppressedExceptions", "Ljava/util/List;", false)
def tyJx00060 : Nat → FieldType := fun k => match k with
  | 0 => .object "java/lang/Object"
  | 1 => .object "java/lang/String"
  | 2 => .object "java/lang/Throwable"
  | 3 => .array (.object "java/lang/StackTraceElement")
  | 4 => .int
  | _ => .object "java/util/List"
abbrev wsJx000600 : List Cond := u_ws RJx00060 TJx00060 6
theorem nmJx00060 : ∀ a, a < 6 → ∀ b, b < 6 → a ≠ b → (TJx00060 a).2.1 ≠ (TJx00060 b).2.1 := by decide +kernel
theorem tyJx00060_ok : ∀ k, k < 6 → parseFieldDescriptor (TJx00060 k).2.2.1 = some (tyJx00060 k) := by decide +kernel
abbrev cJx00060_init_a7421 : ByteArray := prog_18_method_2_code
def yJx00060_init_a7421 : MethodName := ⟨RJx00060, "<init>", "(Ljava/lang/String;)V"⟩
def RJx9f9b0 : String := "java/lang/CharSequence"
def TJx9f9b0 : u_T := fun k => match k with
  | _ => ("", "", "", false)
def tyJx9f9b0 : Nat → FieldType := fun k => match k with
  | _ => .int
abbrev wsJx9f9b00 : List Cond := u_ws RJx9f9b0 TJx9f9b0 0
theorem nmJx9f9b0 : ∀ a, a < 0 → ∀ b, b < 0 → a ≠ b → (TJx9f9b0 a).2.1 ≠ (TJx9f9b0 b).2.1 := by decide +kernel
theorem tyJx9f9b0_ok : ∀ k, k < 0 → parseFieldDescriptor (TJx9f9b0 k).2.2.1 = some (tyJx9f9b0 k) := by decide +kernel
def RJ11 : String := "java/lang/Character"
def TJ11 : u_T := fun k => match k with
  | _ => ("", "", "", false)
def tyJ11 : Nat → FieldType := fun k => match k with
  | _ => .int
abbrev wsJ110 : List Cond := u_ws RJ11 TJ11 0
theorem nmJ11 : ∀ a, a < 0 → ∀ b, b < 0 → a ≠ b → (TJ11 a).2.1 ≠ (TJ11 b).2.1 := by decide +kernel
theorem tyJ11_ok : ∀ k, k < 0 → parseFieldDescriptor (TJ11 k).2.2.1 = some (tyJ11 k) := by decide +kernel
abbrev cJ11_isValidCodePoint_9a6ad : ByteArray := prog_20_method_11_code
def yJ11_isValidCodePoint_9a6ad : MethodName := ⟨RJ11, "isValidCodePoint", "(I)Z"⟩
abbrev cJ11_highSurrogate_5068e : ByteArray := prog_20_method_28_code
def yJ11_highSurrogate_5068e : MethodName := ⟨RJ11, "highSurrogate", "(I)C"⟩
abbrev cJ11_lowSurrogate_5068e : ByteArray := prog_20_method_29_code
def yJ11_lowSurrogate_5068e : MethodName := ⟨RJ11, "lowSurrogate", "(I)C"⟩
def RJx8e188 : String := "java/lang/Cloneable"
def TJx8e188 : u_T := fun k => match k with
  | _ => ("", "", "", false)
def tyJx8e188 : Nat → FieldType := fun k => match k with
  | _ => .int
abbrev wsJx8e1880 : List Cond := u_ws RJx8e188 TJx8e188 0
theorem nmJx8e188 : ∀ a, a < 0 → ∀ b, b < 0 → a ≠ b → (TJx8e188 a).2.1 ≠ (TJx8e188 b).2.1 := by decide +kernel
theorem tyJx8e188_ok : ∀ k, k < 0 → parseFieldDescriptor (TJx8e188 k).2.2.1 = some (tyJx8e188 k) := by decide +kernel
def RJxb160c : String := "java/lang/Comparable"
def TJxb160c : u_T := fun k => match k with
  | _ => ("", "", "", false)
def tyJxb160c : Nat → FieldType := fun k => match k with
  | _ => .int
abbrev wsJxb160c0 : List Cond := u_ws RJxb160c TJxb160c 0
theorem nmJxb160c : ∀ a, a < 0 → ∀ b, b < 0 → a ≠ b → (TJxb160c a).2.1 ≠ (TJxb160c b).2.1 := by decide +kernel
theorem tyJxb160c_ok : ∀ k, k < 0 → parseFieldDescriptor (TJxb160c k).2.2.1 = some (tyJxb160c k) := by decide +kernel
def RJ6 : String := "java/lang/Integer"
def TJ6 : u_T := fun k => match k with
  | _ => ("", "", "", false)
def tyJ6 : Nat → FieldType := fun k => match k with
  | _ => .int
abbrev wsJ60 : List Cond := u_ws RJ6 TJ6 0
theorem nmJ6 : ∀ a, a < 0 → ∀ b, b < 0 → a ≠ b → (TJ6 a).2.1 ≠ (TJ6 b).2.1 := by decide +kernel
theorem tyJ6_ok : ∀ k, k < 0 → parseFieldDescriptor (TJ6 k).2.2.1 = some (tyJ6 k) := by decide +kernel
abbrev cJ6_getChars_ba4f3 : ByteArray := prog_27_method_12_code
def yJ6_getChars_ba4f3 : MethodName := ⟨RJ6, "getChars", "(II[B)I"⟩
abbrev cJ6_stringSize_0f7a4 : ByteArray := prog_27_method_13_code
def yJ6_stringSize_0f7a4 : MethodName := ⟨RJ6, "stringSize", "(I)I"⟩
def RJxab1ab : String := "java/lang/Iterable"
def TJxab1ab : u_T := fun k => match k with
  | _ => ("", "", "", false)
def tyJxab1ab : Nat → FieldType := fun k => match k with
  | _ => .int
abbrev wsJxab1ab0 : List Cond := u_ws RJxab1ab TJxab1ab 0
theorem nmJxab1ab : ∀ a, a < 0 → ∀ b, b < 0 → a ≠ b → (TJxab1ab a).2.1 ≠ (TJxab1ab b).2.1 := by decide +kernel
theorem tyJxab1ab_ok : ∀ k, k < 0 → parseFieldDescriptor (TJxab1ab k).2.2.1 = some (tyJxab1ab k) := by decide +kernel
def RJ9 : String := "java/lang/Math"
def TJ9 : u_T := fun k => match k with
  | _ => ("", "", "", false)
def tyJ9 : Nat → FieldType := fun k => match k with
  | _ => .int
abbrev wsJ90 : List Cond := u_ws RJ9 TJ9 0
theorem nmJ9 : ∀ a, a < 0 → ∀ b, b < 0 → a ≠ b → (TJ9 a).2.1 ≠ (TJ9 b).2.1 := by decide +kernel
theorem tyJ9_ok : ∀ k, k < 0 → parseFieldDescriptor (TJ9 k).2.2.1 = some (tyJ9 k) := by decide +kernel
abbrev cJ9_max_7cf53 : ByteArray := prog_29_method_65_code
def yJ9_max_7cf53 : MethodName := ⟨RJ9, "max", "(II)I"⟩
abbrev cJ9_min_7cf53 : ByteArray := prog_29_method_69_code
def yJ9_min_7cf53 : MethodName := ⟨RJ9, "min", "(II)I"⟩
def RJxd2413 : String := "java/lang/Number"
def TJxd2413 : u_T := fun k => match k with
  | _ => ("", "", "", false)
def tyJxd2413 : Nat → FieldType := fun k => match k with
  | _ => .int
abbrev wsJxd24130 : List Cond := u_ws RJxd2413 TJxd2413 0
theorem nmJxd2413 : ∀ a, a < 0 → ∀ b, b < 0 → a ≠ b → (TJxd2413 a).2.1 ≠ (TJxd2413 b).2.1 := by decide +kernel
theorem tyJxd2413_ok : ∀ k, k < 0 → parseFieldDescriptor (TJxd2413 k).2.2.1 = some (tyJxd2413 k) := by decide +kernel
def RJ0 : String := "java/lang/String"
def TJ0 : u_T := fun k => match k with
  | 0 => ("java/lang/String", "value", "[B", true)
  | 1 => ("java/lang/String", "coder", "B", true)
  | 2 => ("java/lang/String", "hash", "I", false)
  | _ => ("java/lang/String", "hashIsZero", "Z", false)
def tyJ0 : Nat → FieldType := fun k => match k with
  | 0 => .array .byte
  | 1 => .byte
  | 2 => .int
  | _ => .boolean
abbrev wsJ00 : List Cond := u_ws RJ0 TJ0 4
theorem nmJ0 : ∀ a, a < 4 → ∀ b, b < 4 → a ≠ b → (TJ0 a).2.1 ≠ (TJ0 b).2.1 := by decide +kernel
theorem tyJ0_ok : ∀ k, k < 4 → parseFieldDescriptor (TJ0 k).2.2.1 = some (tyJ0 k) := by decide +kernel
abbrev cJ0_init_81219 : ByteArray := prog_32_method_53_code
def yJ0_init_81219 : MethodName := ⟨RJ0, "<init>", "(Ljava/lang/StringBuilder;)V"⟩
abbrev cJ0_length_8abf5 : ByteArray := prog_32_method_54_code
def yJ0_length_8abf5 : MethodName := ⟨RJ0, "length", "()I"⟩
abbrev cJ0_indexOf_0f7a4 : ByteArray := prog_32_method_79_code
def yJ0_indexOf_0f7a4 : MethodName := ⟨RJ0, "indexOf", "(I)I"⟩
abbrev cJ0_indexOf_7cf53 : ByteArray := prog_32_method_80_code
def yJ0_indexOf_7cf53 : MethodName := ⟨RJ0, "indexOf", "(II)I"⟩
abbrev cJ0_getBytes_840e7 : ByteArray := prog_32_method_147_code
def yJ0_getBytes_840e7 : MethodName := ⟨RJ0, "getBytes", "([BIB)V"⟩
abbrev cJ0_init_db425 : ByteArray := prog_32_method_150_code
def yJ0_init_db425 : MethodName := ⟨RJ0, "<init>", "(Ljava/lang/AbstractStringBuilder;Ljava/lang/Void;)V"⟩
abbrev cJ0_coder_7d493 : ByteArray := prog_32_method_152_code
def yJ0_coder_7d493 : MethodName := ⟨RJ0, "coder", "()B"⟩
abbrev cJ0_isLatin1_aae02 : ByteArray := prog_32_method_154_code
def yJ0_isLatin1_aae02 : MethodName := ⟨RJ0, "isLatin1", "()Z"⟩
abbrev cJ0_checkBoundsOffCount_cabcc : ByteArray := prog_32_method_157_code
def yJ0_checkBoundsOffCount_cabcc : MethodName := ⟨RJ0, "checkBoundsOffCount", "(III)I"⟩
abbrev cJ0_checkBoundsBeginEnd_23922 : ByteArray := prog_32_method_158_code
def yJ0_checkBoundsBeginEnd_23922 : MethodName := ⟨RJ0, "checkBoundsBeginEnd", "(III)V"⟩
def RJ4 : String := "java/lang/StringBuilder"
def TJ4 : u_T := fun k => match k with
  | 0 => ("java/lang/AbstractStringBuilder", "value", "[B", false)
  | 1 => ("java/lang/AbstractStringBuilder", "coder", "B", false)
  | 2 => ("java/lang/AbstractStringBuilder", "maybeLatin1", "Z", false)
  | _ => ("java/lang/AbstractStringBuilder", "count", "I", false)
def tyJ4 : Nat → FieldType := fun k => match k with
  | 0 => .array .byte
  | 1 => .byte
  | 2 => .boolean
  | _ => .int
abbrev wsJ40 : List Cond := u_ws RJ4 TJ4 4
theorem nmJ4 : ∀ a, a < 4 → ∀ b, b < 4 → a ≠ b → (TJ4 a).2.1 ≠ (TJ4 b).2.1 := by decide +kernel
theorem tyJ4_ok : ∀ k, k < 4 → parseFieldDescriptor (TJ4 k).2.2.1 = some (tyJ4 k) := by decide +kernel
abbrev cJ4_init_da8c8 : ByteArray := prog_33_method_1_code
def yJ4_init_da8c8 : MethodName := ⟨RJ4, "<init>", "()V"⟩
abbrev cJ4_append_15ec4 : ByteArray := prog_33_method_7_code
def yJ4_append_15ec4 : MethodName := ⟨RJ4, "append", "(Ljava/lang/String;)Ljava/lang/StringBuilder;"⟩
abbrev cJ4_append_bf812 : ByteArray := prog_33_method_15_code
def yJ4_append_bf812 : MethodName := ⟨RJ4, "append", "(I)Ljava/lang/StringBuilder;"⟩
abbrev cJ4_toString_0e30d : ByteArray := prog_33_method_42_code
def yJ4_toString_0e30d : MethodName := ⟨RJ4, "toString", "()Ljava/lang/String;"⟩
abbrev cJ4_length_8abf5 : ByteArray := prog_33_method_93_code
def yJ4_length_8abf5 : MethodName := ⟨RJ4, "length", "()I"⟩
def RJ1 : String := "java/lang/StringLatin1"
def TJ1 : u_T := fun k => match k with
  | _ => ("", "", "", false)
def tyJ1 : Nat → FieldType := fun k => match k with
  | _ => .int
abbrev wsJ10 : List Cond := u_ws RJ1 TJ1 0
theorem nmJ1 : ∀ a, a < 0 → ∀ b, b < 0 → a ≠ b → (TJ1 a).2.1 ≠ (TJ1 b).2.1 := by decide +kernel
theorem tyJ1_ok : ∀ k, k < 0 → parseFieldDescriptor (TJ1 k).2.2.1 = some (tyJ1 k) := by decide +kernel
abbrev cJ1_canEncode_9a6ad : ByteArray := prog_34_method_4_code
def yJ1_canEncode_9a6ad : MethodName := ⟨RJ1, "canEncode", "(I)Z"⟩
abbrev cJ1_indexOf_4cfef : ByteArray := prog_34_method_22_code
def yJ1_indexOf_4cfef : MethodName := ⟨RJ1, "indexOf", "([BIII)I"⟩
abbrev cJ1_indexOfChar_4cfef : ByteArray := prog_34_method_23_code
def yJ1_indexOfChar_4cfef : MethodName := ⟨RJ1, "indexOfChar", "([BIII)I"⟩
abbrev cJ1_inflate_0e8fd : ByteArray := prog_34_method_50_code
def yJ1_inflate_0e8fd : MethodName := ⟨RJ1, "inflate", "([BI[BII)V"⟩
def RJ2 : String := "java/lang/StringUTF16"
def TJ2 : u_T := fun k => match k with
  | _ => ("", "", "", false)
def tyJ2 : Nat → FieldType := fun k => match k with
  | _ => .int
abbrev wsJ20 : List Cond := u_ws RJ2 TJ2 0
theorem nmJ2 : ∀ a, a < 0 → ∀ b, b < 0 → a ≠ b → (TJ2 a).2.1 ≠ (TJ2 b).2.1 := by decide +kernel
theorem tyJ2_ok : ∀ k, k < 0 → parseFieldDescriptor (TJ2 k).2.2.1 = some (tyJ2 k) := by decide +kernel
abbrev cJ2_newBytesFor_77867 : ByteArray := prog_35_method_2_code
def yJ2_newBytesFor_77867 : MethodName := ⟨RJ2, "newBytesFor", "(I)[B"⟩
abbrev cJ2_newBytesLength_0f7a4 : ByteArray := prog_35_method_3_code
def yJ2_newBytesLength_0f7a4 : MethodName := ⟨RJ2, "newBytesLength", "(I)I"⟩
abbrev cJ2_putChar_b72d1 : ByteArray := prog_35_method_4_code
def yJ2_putChar_b72d1 : MethodName := ⟨RJ2, "putChar", "([BII)V"⟩
abbrev cJ2_getChar_3b067 : ByteArray := prog_35_method_5_code
def yJ2_getChar_3b067 : MethodName := ⟨RJ2, "getChar", "([BI)C"⟩
abbrev cJ2_length_9d52b : ByteArray := prog_35_method_6_code
def yJ2_length_9d52b : MethodName := ⟨RJ2, "length", "([B)I"⟩
abbrev cJ2_coderFromArrayLen_85cad : ByteArray := prog_35_method_15_code
def yJ2_coderFromArrayLen_85cad : MethodName := ⟨RJ2, "coderFromArrayLen", "([BI)B"⟩
abbrev cJ2_compress_39247 : ByteArray := prog_35_method_17_code
def yJ2_compress_39247 : MethodName := ⟨RJ2, "compress", "([BII)[B"⟩
abbrev cJ2_compress_5af95 : ByteArray := prog_35_method_22_code
def yJ2_compress_5af95 : MethodName := ⟨RJ2, "compress", "([BI[BII)I"⟩
abbrev cJ2_indexOf_4cfef : ByteArray := prog_35_method_40_code
def yJ2_indexOf_4cfef : MethodName := ⟨RJ2, "indexOf", "([BIII)I"⟩
abbrev cJ2_indexOfChar_4cfef : ByteArray := prog_35_method_47_code
def yJ2_indexOfChar_4cfef : MethodName := ⟨RJ2, "indexOfChar", "([BIII)I"⟩
abbrev cJ2_indexOfCharUnsafe_4cfef : ByteArray := prog_35_method_48_code
def yJ2_indexOfCharUnsafe_4cfef : MethodName := ⟨RJ2, "indexOfCharUnsafe", "([BIII)I"⟩
abbrev cJ2_indexOfSupplementary_4cfef : ByteArray := prog_35_method_49_code
def yJ2_indexOfSupplementary_4cfef : MethodName := ⟨RJ2, "indexOfSupplementary", "([BIII)I"⟩
abbrev cJ2_getChars_46870 : ByteArray := prog_35_method_77_code
def yJ2_getChars_46870 : MethodName := ⟨RJ2, "getChars", "(III[B)I"⟩
abbrev cJ2_putCharsAt_cd4e5 : ByteArray := prog_35_method_81_code
def yJ2_putCharsAt_cd4e5 : MethodName := ⟨RJ2, "putCharsAt", "([BICCCC)I"⟩
abbrev cJ2_inflate_0e8fd : ByteArray := prog_35_method_86_code
def yJ2_inflate_0e8fd : MethodName := ⟨RJ2, "inflate", "([BI[BII)V"⟩
abbrev cJ2_getChars_ba4f3 : ByteArray := prog_35_method_89_code
def yJ2_getChars_ba4f3 : MethodName := ⟨RJ2, "getChars", "(II[B)I"⟩
abbrev cJ2_checkBoundsBeginEnd_d044e : ByteArray := prog_35_method_93_code
def yJ2_checkBoundsBeginEnd_d044e : MethodName := ⟨RJ2, "checkBoundsBeginEnd", "(II[B)V"⟩
abbrev cJ2_checkBoundsOffCount_d044e : ByteArray := prog_35_method_94_code
def yJ2_checkBoundsOffCount_d044e : MethodName := ⟨RJ2, "checkBoundsOffCount", "(II[B)V"⟩
def RJ10 : String := "java/lang/System"
def TJ10 : u_T := fun k => match k with
  | _ => ("", "", "", false)
def tyJ10 : Nat → FieldType := fun k => match k with
  | _ => .int
abbrev wsJ100 : List Cond := u_ws RJ10 TJ10 0
theorem nmJ10 : ∀ a, a < 0 → ∀ b, b < 0 → a ≠ b → (TJ10 a).2.1 ≠ (TJ10 b).2.1 := by decide +kernel
theorem tyJ10_ok : ∀ k, k < 0 → parseFieldDescriptor (TJ10 k).2.2.1 = some (tyJ10 k) := by decide +kernel
def RJxfd54e : String := "java/lang/constant/Constable"
def TJxfd54e : u_T := fun k => match k with
  | _ => ("", "", "", false)
def tyJxfd54e : Nat → FieldType := fun k => match k with
  | _ => .int
abbrev wsJxfd54e0 : List Cond := u_ws RJxfd54e TJxfd54e 0
theorem nmJxfd54e : ∀ a, a < 0 → ∀ b, b < 0 → a ≠ b → (TJxfd54e a).2.1 ≠ (TJxfd54e b).2.1 := by decide +kernel
theorem tyJxfd54e_ok : ∀ k, k < 0 → parseFieldDescriptor (TJxfd54e k).2.2.1 = some (tyJxfd54e k) := by decide +kernel
def RJx3cf43 : String := "java/lang/constant/ConstantDesc"
def TJx3cf43 : u_T := fun k => match k with
  | _ => ("", "", "", false)
def tyJx3cf43 : Nat → FieldType := fun k => match k with
  | _ => .int
abbrev wsJx3cf430 : List Cond := u_ws RJx3cf43 TJx3cf43 0
theorem nmJx3cf43 : ∀ a, a < 0 → ∀ b, b < 0 → a ≠ b → (TJx3cf43 a).2.1 ≠ (TJx3cf43 b).2.1 := by decide +kernel
theorem tyJx3cf43_ok : ∀ k, k < 0 → parseFieldDescriptor (TJx3cf43 k).2.2.1 = some (tyJx3cf43 k) := by decide +kernel
def RJxa1e45 : String := "java/util/AbstractCollection"
def TJxa1e45 : u_T := fun k => match k with
  | _ => ("", "", "", false)
def tyJxa1e45 : Nat → FieldType := fun k => match k with
  | _ => .int
abbrev wsJxa1e450 : List Cond := u_ws RJxa1e45 TJxa1e45 0
theorem nmJxa1e45 : ∀ a, a < 0 → ∀ b, b < 0 → a ≠ b → (TJxa1e45 a).2.1 ≠ (TJxa1e45 b).2.1 := by decide +kernel
theorem tyJxa1e45_ok : ∀ k, k < 0 → parseFieldDescriptor (TJxa1e45 k).2.2.1 = some (tyJxa1e45 k) := by decide +kernel
abbrev cJxa1e45_init_da8c8 : ByteArray := prog_40_method_1_code
def yJxa1e45_init_da8c8 : MethodName := ⟨RJxa1e45, "<init>", "()V"⟩
def RJxc12de : String := "java/util/AbstractList"
def TJxc12de : u_T := fun k => match k with
  | _ => ("", "", "", false)
def tyJxc12de : Nat → FieldType := fun k => match k with
  | _ => .int
abbrev wsJxc12de0 : List Cond := u_ws RJxc12de TJxc12de 0
theorem nmJxc12de : ∀ a, a < 0 → ∀ b, b < 0 → a ≠ b → (TJxc12de a).2.1 ≠ (TJxc12de b).2.1 := by decide +kernel
theorem tyJxc12de_ok : ∀ k, k < 0 → parseFieldDescriptor (TJxc12de k).2.2.1 = some (tyJxc12de k) := by decide +kernel
abbrev cJxc12de_init_da8c8 : ByteArray := prog_41_method_1_code
def yJxc12de_init_da8c8 : MethodName := ⟨RJxc12de, "<init>", "()V"⟩
def RJx4a65c : String := "java/util/ArrayList"
def TJx4a65c : u_T := fun k => match k with
  | 0 => ("java/util/AbstractList", "modCount", "I", false)
  | 1 => ("java/util/ArrayList", "elementData", "[Ljava/lang/Object;", false)
  | _ => ("java/util/ArrayList", "size", "I", false)
def tyJx4a65c : Nat → FieldType := fun k => match k with
  | 0 => .int
  | 1 => .array (.object "java/lang/Object")
  | _ => .int
abbrev wsJx4a65c0 : List Cond := u_ws RJx4a65c TJx4a65c 3
theorem nmJx4a65c : ∀ a, a < 3 → ∀ b, b < 3 → a ≠ b → (TJx4a65c a).2.1 ≠ (TJx4a65c b).2.1 := by decide +kernel
theorem tyJx4a65c_ok : ∀ k, k < 3 → parseFieldDescriptor (TJx4a65c k).2.2.1 = some (tyJx4a65c k) := by decide +kernel
abbrev cJx4a65c_init_da8c8 : ByteArray := prog_42_method_2_code
def yJx4a65c_init_da8c8 : MethodName := ⟨RJx4a65c, "<init>", "()V"⟩
abbrev cJx4a65c_grow_92f84 : ByteArray := prog_42_method_6_code
def yJx4a65c_grow_92f84 : MethodName := ⟨RJx4a65c, "grow", "(I)[Ljava/lang/Object;"⟩
abbrev cJx4a65c_grow_d5877 : ByteArray := prog_42_method_7_code
def yJx4a65c_grow_d5877 : MethodName := ⟨RJx4a65c, "grow", "()[Ljava/lang/Object;"⟩
abbrev cJx4a65c_size_8abf5 : ByteArray := prog_42_method_8_code
def yJx4a65c_size_8abf5 : MethodName := ⟨RJx4a65c, "size", "()I"⟩
abbrev cJx4a65c_elementData_915e3 : ByteArray := prog_42_method_18_code
def yJx4a65c_elementData_915e3 : MethodName := ⟨RJx4a65c, "elementData", "(I)Ljava/lang/Object;"⟩
abbrev cJx4a65c_get_915e3 : ByteArray := prog_42_method_20_code
def yJx4a65c_get_915e3 : MethodName := ⟨RJx4a65c, "get", "(I)Ljava/lang/Object;"⟩
abbrev cJx4a65c_add_72be8 : ByteArray := prog_42_method_24_code
def yJx4a65c_add_72be8 : MethodName := ⟨RJx4a65c, "add", "(Ljava/lang/Object;[Ljava/lang/Object;I)V"⟩
abbrev cJx4a65c_add_9ea2d : ByteArray := prog_42_method_25_code
def yJx4a65c_add_9ea2d : MethodName := ⟨RJx4a65c, "add", "(Ljava/lang/Object;)Z"⟩
abbrev cJx4a65c_add_7a177 : ByteArray := prog_42_method_26_code
def yJx4a65c_add_7a177 : MethodName := ⟨RJx4a65c, "add", "(ILjava/lang/Object;)V"⟩
abbrev cJx4a65c_clear_da8c8 : ByteArray := prog_42_method_40_code
def yJx4a65c_clear_da8c8 : MethodName := ⟨RJx4a65c, "clear", "()V"⟩
abbrev cJx4a65c_rangeCheckForAdd_d00df : ByteArray := prog_42_method_45_code
def yJx4a65c_rangeCheckForAdd_d00df : MethodName := ⟨RJx4a65c, "rangeCheckForAdd", "(I)V"⟩
abbrev cJx4a65c_outOfBoundsMsg_b52d3 : ByteArray := prog_42_method_46_code
def yJx4a65c_outOfBoundsMsg_b52d3 : MethodName := ⟨RJx4a65c, "outOfBoundsMsg", "(I)Ljava/lang/String;"⟩
def RJ7 : String := "java/util/Arrays"
def TJ7 : u_T := fun k => match k with
  | _ => ("", "", "", false)
def tyJ7 : Nat → FieldType := fun k => match k with
  | _ => .int
abbrev wsJ70 : List Cond := u_ws RJ7 TJ7 0
theorem nmJ7 : ∀ a, a < 0 → ∀ b, b < 0 → a ≠ b → (TJ7 a).2.1 ≠ (TJ7 b).2.1 := by decide +kernel
theorem tyJ7_ok : ∀ k, k < 0 → parseFieldDescriptor (TJ7 k).2.2.1 = some (tyJ7 k) := by decide +kernel
abbrev cJ7_copyOf_1904c : ByteArray := prog_43_method_119_code
def yJ7_copyOf_1904c : MethodName := ⟨RJ7, "copyOf", "([Ljava/lang/Object;I)[Ljava/lang/Object;"⟩
abbrev cJ7_copyOf_6403c : ByteArray := prog_43_method_120_code
def yJ7_copyOf_6403c : MethodName := ⟨RJ7, "copyOf", "([Ljava/lang/Object;ILjava/lang/Class;)[Ljava/lang/Object;"⟩
abbrev cJ7_copyOf_9075b : ByteArray := prog_43_method_121_code
def yJ7_copyOf_9075b : MethodName := ⟨RJ7, "copyOf", "([BI)[B"⟩
abbrev cJ7_checkLength_df160 : ByteArray := prog_43_method_131_code
def yJ7_checkLength_df160 : MethodName := ⟨RJ7, "checkLength", "(II)V"⟩
abbrev cJ7_copyOfRange_39247 : ByteArray := prog_43_method_132_code
def yJ7_copyOfRange_39247 : MethodName := ⟨RJ7, "copyOfRange", "([BII)[B"⟩
abbrev cJ7_copyOfRangeByte_39247 : ByteArray := prog_43_method_133_code
def yJ7_copyOfRangeByte_39247 : MethodName := ⟨RJ7, "copyOfRangeByte", "([BII)[B"⟩
def RJx5ef63 : String := "java/util/Collection"
def TJx5ef63 : u_T := fun k => match k with
  | _ => ("", "", "", false)
def tyJx5ef63 : Nat → FieldType := fun k => match k with
  | _ => .int
abbrev wsJx5ef630 : List Cond := u_ws RJx5ef63 TJx5ef63 0
theorem nmJx5ef63 : ∀ a, a < 0 → ∀ b, b < 0 → a ≠ b → (TJx5ef63 a).2.1 ≠ (TJx5ef63 b).2.1 := by decide +kernel
theorem tyJx5ef63_ok : ∀ k, k < 0 → parseFieldDescriptor (TJx5ef63 k).2.2.1 = some (tyJx5ef63 k) := by decide +kernel
def RJxbd725 : String := "java/util/List"
def TJxbd725 : u_T := fun k => match k with
  | _ => ("", "", "", false)
def tyJxbd725 : Nat → FieldType := fun k => match k with
  | _ => .int
abbrev wsJxbd7250 : List Cond := u_ws RJxbd725 TJxbd725 0
theorem nmJxbd725 : ∀ a, a < 0 → ∀ b, b < 0 → a ≠ b → (TJxbd725 a).2.1 ≠ (TJxbd725 b).2.1 := by decide +kernel
theorem tyJxbd725_ok : ∀ k, k < 0 → parseFieldDescriptor (TJxbd725 k).2.2.1 = some (tyJxbd725 k) := by decide +kernel
def RJ15 : String := "java/util/Objects"
def TJ15 : u_T := fun k => match k with
  | _ => ("", "", "", false)
def tyJ15 : Nat → FieldType := fun k => match k with
  | _ => .int
abbrev wsJ150 : List Cond := u_ws RJ15 TJ15 0
theorem nmJ15 : ∀ a, a < 0 → ∀ b, b < 0 → a ≠ b → (TJ15 a).2.1 ≠ (TJ15 b).2.1 := by decide +kernel
theorem tyJ15_ok : ∀ k, k < 0 → parseFieldDescriptor (TJ15 k).2.2.1 = some (tyJ15 k) := by decide +kernel
abbrev cJ15_checkIndex_7cf53 : ByteArray := prog_47_method_17_code
def yJ15_checkIndex_7cf53 : MethodName := ⟨RJ15, "checkIndex", "(II)I"⟩
def RJxf0a74 : String := "java/util/RandomAccess"
def TJxf0a74 : u_T := fun k => match k with
  | _ => ("", "", "", false)
def tyJxf0a74 : Nat → FieldType := fun k => match k with
  | _ => .int
abbrev wsJxf0a740 : List Cond := u_ws RJxf0a74 TJxf0a74 0
theorem nmJxf0a74 : ∀ a, a < 0 → ∀ b, b < 0 → a ≠ b → (TJxf0a74 a).2.1 ≠ (TJxf0a74 b).2.1 := by decide +kernel
theorem tyJxf0a74_ok : ∀ k, k < 0 → parseFieldDescriptor (TJxf0a74 k).2.2.1 = some (tyJxf0a74 k) := by decide +kernel
def RJxa66e6 : String := "java/util/SequencedCollection"
def TJxa66e6 : u_T := fun k => match k with
  | _ => ("", "", "", false)
def tyJxa66e6 : Nat → FieldType := fun k => match k with
  | _ => .int
abbrev wsJxa66e60 : List Cond := u_ws RJxa66e6 TJxa66e6 0
theorem nmJxa66e6 : ∀ a, a < 0 → ∀ b, b < 0 → a ≠ b → (TJxa66e6 a).2.1 ≠ (TJxa66e6 b).2.1 := by decide +kernel
theorem tyJxa66e6_ok : ∀ k, k < 0 → parseFieldDescriptor (TJxa66e6 k).2.2.1 = some (tyJxa66e6 k) := by decide +kernel
def RJ8 : String := "jdk/internal/util/ArraysSupport"
def TJ8 : u_T := fun k => match k with
  | _ => ("", "", "", false)
def tyJ8 : Nat → FieldType := fun k => match k with
  | _ => .int
abbrev wsJ80 : List Cond := u_ws RJ8 TJ8 0
theorem nmJ8 : ∀ a, a < 0 → ∀ b, b < 0 → a ≠ b → (TJ8 a).2.1 ≠ (TJ8 b).2.1 := by decide +kernel
theorem tyJ8_ok : ∀ k, k < 0 → parseFieldDescriptor (TJ8 k).2.2.1 = some (tyJ8 k) := by decide +kernel
abbrev cJ8_newLength_cabcc : ByteArray := prog_50_method_27_code
def yJ8_newLength_cabcc : MethodName := ⟨RJ8, "newLength", "(III)I"⟩
abbrev cJ8_hugeLength_7cf53 : ByteArray := prog_50_method_28_code
def yJ8_hugeLength_7cf53 : MethodName := ⟨RJ8, "hugeLength", "(II)I"⟩
def RJ3 : String := "jdk/internal/util/Preconditions"
def TJ3 : u_T := fun k => match k with
  | _ => ("", "", "", false)
def tyJ3 : Nat → FieldType := fun k => match k with
  | _ => .int
abbrev wsJ30 : List Cond := u_ws RJ3 TJ3 0
theorem nmJ3 : ∀ a, a < 0 → ∀ b, b < 0 → a ≠ b → (TJ3 a).2.1 ≠ (TJ3 b).2.1 := by decide +kernel
theorem tyJ3_ok : ∀ k, k < 0 → parseFieldDescriptor (TJ3 k).2.2.1 = some (tyJ3 k) := by decide +kernel
abbrev cJ3_checkIndex_8e157 : ByteArray := prog_51_method_11_code
def yJ3_checkIndex_8e157 : MethodName := ⟨RJ3, "checkIndex", "(IILjava/util/function/BiFunction;)I"⟩
abbrev cJ3_checkFromToIndex_8c36e : ByteArray := prog_51_method_12_code
def yJ3_checkFromToIndex_8c36e : MethodName := ⟨RJ3, "checkFromToIndex", "(IIILjava/util/function/BiFunction;)I"⟩
abbrev cJ3_checkFromIndexSize_8c36e : ByteArray := prog_51_method_13_code
def yJ3_checkFromIndexSize_8c36e : MethodName := ⟨RJ3, "checkFromIndexSize", "(IIILjava/util/function/BiFunction;)I"⟩
def RL : String := "RoutepostLaw"
abbrev cL_cell : ByteArray := method_2_code
def yL_cell : MethodName := ⟨RL, "cell", "([II)I"⟩
abbrev cL_openHub : ByteArray := method_3_code
def yL_openHub : MethodName := ⟨RL, "openHub", "(LRoutepost;II)I"⟩
abbrev cL_addLine : ByteArray := method_4_code
def yL_addLine : MethodName := ⟨RL, "addLine", "(LRoutepost;IIIIII)I"⟩
abbrev cL_closeLine : ByteArray := method_5_code
def yL_closeLine : MethodName := ⟨RL, "closeLine", "(LRoutepost;I)I"⟩
abbrev cL_accept : ByteArray := method_6_code
def yL_accept : MethodName := ⟨RL, "accept", "(LRoutepost;IIII)I"⟩
abbrev cL_scan : ByteArray := method_7_code
def yL_scan : MethodName := ⟨RL, "scan", "(LRoutepost;II)I"⟩
abbrev cL_deliver : ByteArray := method_8_code
def yL_deliver : MethodName := ⟨RL, "deliver", "(LRoutepost;IZ)I"⟩
abbrev cL_recall : ByteArray := method_9_code
def yL_recall : MethodName := ⟨RL, "recall", "(LRoutepost;I)I"⟩
abbrev cL_pass : ByteArray := method_10_code
def yL_pass : MethodName := ⟨RL, "pass", "(LRoutepost;I)I"⟩
abbrev cL_hubOf : ByteArray := method_11_code
def yL_hubOf : MethodName := ⟨RL, "hubOf", "(LRoutepost;I)I"⟩
abbrev cL_hubByTrying : ByteArray := method_12_code
def yL_hubByTrying : MethodName := ⟨RL, "hubByTrying", "(LRoutepost;I)I"⟩
abbrev cL_nextDeparture : ByteArray := method_13_code
def yL_nextDeparture : MethodName := ⟨RL, "nextDeparture", "(LRoutepost;I)I"⟩
abbrev cL_state : ByteArray := method_14_code
def yL_state : MethodName := ⟨RL, "state", "(LRoutepost;I)I"⟩
abbrev cL_at : ByteArray := method_15_code
def yL_at : MethodName := ⟨RL, "at", "(LRoutepost;I)I"⟩
abbrev cL_rides : ByteArray := method_16_code
def yL_rides : MethodName := ⟨RL, "rides", "(LRoutepost;I)I"⟩
abbrev cL_nextLine : ByteArray := method_17_code
def yL_nextLine : MethodName := ⟨RL, "nextLine", "(LRoutepost;I)I"⟩
abbrev cL_nextLineByPaths : ByteArray := method_18_code
def yL_nextLineByPaths : MethodName := ⟨RL, "nextLineByPaths", "(LRoutepost;I)I"⟩
abbrev cL_arrival : ByteArray := method_19_code
def yL_arrival : MethodName := ⟨RL, "arrival", "(LRoutepost;I)I"⟩
abbrev cL_waitingAt : ByteArray := method_20_code
def yL_waitingAt : MethodName := ⟨RL, "waitingAt", "(LRoutepost;II)I"⟩
abbrev cL_bagVolume : ByteArray := method_21_code
def yL_bagVolume : MethodName := ⟨RL, "bagVolume", "(LRoutepost;II)I"⟩
abbrev cL_lateShare : ByteArray := method_22_code
def yL_lateShare : MethodName := ⟨RL, "lateShare", "(LRoutepost;)F"⟩
abbrev cL_meanTime : ByteArray := method_23_code
def yL_meanTime : MethodName := ⟨RL, "meanTime", "(LRoutepost;)D"⟩
abbrev cL_in : ByteArray := method_24_code
def yL_in : MethodName := ⟨RL, "in", "([III)I"⟩
abbrev cL_code : ByteArray := method_25_code
def yL_code : MethodName := ⟨RL, "code", "(I)I"⟩
abbrev cL_hubFor : ByteArray := method_26_code
def yL_hubFor : MethodName := ⟨RL, "hubFor", "([II)I"⟩
abbrev cL_isLaid : ByteArray := method_27_code
def yL_isLaid : MethodName := ⟨RL, "isLaid", "(LRoutepost;[I[II)Z"⟩
abbrev cL_begun : ByteArray := method_28_code
def yL_begun : MethodName := ⟨RL, "begun", "([I[I)LRoutepost;"⟩
abbrev cL_leaves : ByteArray := method_29_code
def yL_leaves : MethodName := ⟨RL, "leaves", "([III)I"⟩
abbrev cL_scanned : ByteArray := method_30_code
def yL_scanned : MethodName := ⟨RL, "scanned", "(LRoutepost;[III)V"⟩
abbrev cL_isAccepted : ByteArray := method_31_code
def yL_isAccepted : MethodName := ⟨RL, "isAccepted", "(LRoutepost;[I[II)Z"⟩
abbrev cL_isScanned : ByteArray := method_32_code
def yL_isScanned : MethodName := ⟨RL, "isScanned", "(LRoutepost;[I[III)Z"⟩
abbrev cL_isTurned : ByteArray := method_33_code
def yL_isTurned : MethodName := ⟨RL, "isTurned", "(LRoutepost;[II)Z"⟩
abbrev cL_isDelivered : ByteArray := method_34_code
def yL_isDelivered : MethodName := ⟨RL, "isDelivered", "(LRoutepost;[I[III)Z"⟩
abbrev cL_isDone : ByteArray := method_35_code
def yL_isDone : MethodName := ⟨RL, "isDone", "(LRoutepost;[I[II)Z"⟩
abbrev cL_isAhead : ByteArray := method_36_code
def yL_isAhead : MethodName := ⟨RL, "isAhead", "(LRoutepost;[III)Z"⟩
abbrev cL_bagged : ByteArray := method_37_code
def yL_bagged : MethodName := ⟨RL, "bagged", "(LRoutepost;[IIII[I)[I"⟩
abbrev cL_isOrdered : ByteArray := method_38_code
def yL_isOrdered : MethodName := ⟨RL, "isOrdered", "(LRoutepost;[II)Z"⟩
abbrev cL_isPassed : ByteArray := method_39_code
def yL_isPassed : MethodName := ⟨RL, "isPassed", "(LRoutepost;[I)Z"⟩
abbrev cL_areBagged : ByteArray := method_40_code
def yL_areBagged : MethodName := ⟨RL, "areBagged", "(LRoutepost;[I[[I)Z"⟩
abbrev cL_isTold : ByteArray := method_41_code
def yL_isTold : MethodName := ⟨RL, "isTold", "(LRoutepost;[I)Z"⟩
abbrev cL_law : ByteArray := code
def yL_law : MethodName := ⟨RL, "law", "([I)Z"⟩
abbrev vwCl : List vw_C := [(RJ0, TJ0, 4), (RJ4, TJ4, 4), (RJx00060, TJx00060, 6), (RJx4a65c, TJx4a65c, 3), (RX0, TX0, 3), (RX1, TX1, 3), (RX2, TX2, 2), (RX3, TX3, 3), (RX4, TX4, 9), (RX5, TX5, 20), (RX6, TX6, 7), (RX7, TX7, 3), (RX8, TX8, 5), (RX9, TX9, 2), (RX10, TX10, 10)]
