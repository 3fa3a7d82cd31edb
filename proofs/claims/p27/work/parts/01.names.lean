/-! the names of the class, as the kit's command prints them of the program (cut to the class); one list of words for all its methods -/
def RX0 : String := "MailDen$Box"
def TX0 : u_T := fun k => match k with
  | 0 => ("MailDen$Box", "tags", "[I", true)
  | 1 => ("MailDen$Box", "numbers", "[I", true)
  | _ => ("MailDen$Box", "count", "I", false)
def tyX0 : Nat → FieldType := fun k => match k with
  | 0 => .array .int
  | 1 => .array .int
  | _ => .int
theorem nmX0 : ∀ a, a < 3 → ∀ b, b < 3 → a ≠ b → (TX0 a).2.1 ≠ (TX0 b).2.1 := by decide +kernel
theorem tyX0_ok : ∀ k, k < 3 → parseFieldDescriptor (TX0 k).2.2.1 = some (tyX0 k) := by decide +kernel
abbrev cX0_init : ByteArray := prog_2_method_1_code
def yX0_init : MethodName := ⟨RX0, "<init>", "()V"⟩
abbrev cX0_put : ByteArray := prog_2_method_2_code
def yX0_put : MethodName := ⟨RX0, "put", "(II)Z"⟩
abbrev cX0_firstOf : ByteArray := prog_2_method_3_code
def yX0_firstOf : MethodName := ⟨RX0, "firstOf", "(I)I"⟩
abbrev cX0_takeOut : ByteArray := prog_2_method_4_code
def yX0_takeOut : MethodName := ⟨RX0, "takeOut", "(I)I"⟩
abbrev cX0_copyFrom : ByteArray := prog_2_method_5_code
def yX0_copyFrom : MethodName := ⟨RX0, "copyFrom", "(LMailDen$Box;)V"⟩
def RX1 : String := "MailDen$Codes"
def TX1 : u_T := fun k => match k with
  | 0 => ("MailDen$Codes", "modules", "I", false)
  | 1 => ("MailDen$Codes", "lineCounts", "[I", true)
  | 2 => ("MailDen$Codes", "kinds", "[I", true)
  | 3 => ("MailDen$Codes", "as", "[I", true)
  | _ => ("MailDen$Codes", "bs", "[I", true)
def tyX1 : Nat → FieldType := fun k => match k with
  | 0 => .int
  | 1 => .array .int
  | 2 => .array .int
  | 3 => .array .int
  | _ => .array .int
theorem nmX1 : ∀ a, a < 5 → ∀ b, b < 5 → a ≠ b → (TX1 a).2.1 ≠ (TX1 b).2.1 := by decide +kernel
theorem tyX1_ok : ∀ k, k < 5 → parseFieldDescriptor (TX1 k).2.2.1 = some (tyX1 k) := by decide +kernel
abbrev cX1_init : ByteArray := prog_3_method_1_code
def yX1_init : MethodName := ⟨RX1, "<init>", "()V"⟩
abbrev cX1_hasModule : ByteArray := prog_3_method_2_code
def yX1_hasModule : MethodName := ⟨RX1, "hasModule", "(I)Z"⟩
abbrev cX1_rowOf : ByteArray := prog_3_method_3_code
def yX1_rowOf : MethodName := ⟨RX1, "rowOf", "(II)I"⟩
abbrev cX1_linesOf : ByteArray := prog_3_method_4_code
def yX1_linesOf : MethodName := ⟨RX1, "linesOf", "(II)I"⟩
abbrev cX1_lineAt : ByteArray := prog_3_method_5_code
def yX1_lineAt : MethodName := ⟨RX1, "lineAt", "(III)I"⟩
abbrev cX1_isLine : ByteArray := prog_3_method_6_code
def yX1_isLine : MethodName := ⟨RX1, "isLine", "(IIII)Z"⟩
abbrev cX1_addLine : ByteArray := prog_3_method_7_code
def yX1_addLine : MethodName := ⟨RX1, "addLine", "(IIIII)I"⟩
def RX2 : String := "MailDen$Proc"
def TX2 : u_T := fun k => match k with
  | 0 => ("MailDen$Proc", "number", "I", true)
  | 1 => ("MailDen$Proc", "module", "I", false)
  | 2 => ("MailDen$Proc", "version", "I", false)
  | 3 => ("MailDen$Proc", "spec", "I", false)
  | 4 => ("MailDen$Proc", "parent", "I", false)
  | 5 => ("MailDen$Proc", "status", "I", false)
  | 6 => ("MailDen$Proc", "reason", "I", false)
  | 7 => ("MailDen$Proc", "there", "I", false)
  | 8 => ("MailDen$Proc", "line", "I", false)
  | 9 => ("MailDen$Proc", "until", "I", false)
  | 10 => ("MailDen$Proc", "wait", "I", false)
  | 11 => ("MailDen$Proc", "ticket", "I", false)
  | 12 => ("MailDen$Proc", "traps", "Z", false)
  | 13 => ("MailDen$Proc", "links", "I", false)
  | 14 => ("MailDen$Proc", "emptyPlaces", "I", false)
  | 15 => ("MailDen$Proc", "locals", "[I", true)
  | 16 => ("MailDen$Proc", "children", "[I", true)
  | 17 => ("MailDen$Proc", "box", "LMailDen$Box;", true)
  | _ => ("MailDen$Proc", "watches", "LMailDen$Watches;", true)
def tyX2 : Nat → FieldType := fun k => match k with
  | 0 => .int
  | 1 => .int
  | 2 => .int
  | 3 => .int
  | 4 => .int
  | 5 => .int
  | 6 => .int
  | 7 => .int
  | 8 => .int
  | 9 => .int
  | 10 => .int
  | 11 => .int
  | 12 => .boolean
  | 13 => .int
  | 14 => .int
  | 15 => .array .int
  | 16 => .array .int
  | 17 => .object "MailDen$Box"
  | _ => .object "MailDen$Watches"
theorem nmX2 : ∀ a, a < 19 → ∀ b, b < 19 → a ≠ b → (TX2 a).2.1 ≠ (TX2 b).2.1 := by decide +kernel
theorem tyX2_ok : ∀ k, k < 19 → parseFieldDescriptor (TX2 k).2.2.1 = some (tyX2 k) := by decide +kernel
abbrev cX2_init : ByteArray := prog_4_method_1_code
def yX2_init : MethodName := ⟨RX2, "<init>", "(I)V"⟩
abbrev cX2_copyFrom : ByteArray := prog_4_method_2_code
def yX2_copyFrom : MethodName := ⟨RX2, "copyFrom", "(LMailDen$Proc;)V"⟩
abbrev cX2_isSupervisor : ByteArray := prog_4_method_3_code
def yX2_isSupervisor : MethodName := ⟨RX2, "isSupervisor", "()Z"⟩
abbrev cX2_isLinkedWith : ByteArray := prog_4_method_4_code
def yX2_isLinkedWith : MethodName := ⟨RX2, "isLinkedWith", "(I)Z"⟩
abbrev cX2_isEmptyPlace : ByteArray := prog_4_method_5_code
def yX2_isEmptyPlace : MethodName := ⟨RX2, "isEmptyPlace", "(I)Z"⟩
abbrev cX2_localAt : ByteArray := prog_4_method_6_code
def yX2_localAt : MethodName := ⟨RX2, "localAt", "(I)I"⟩
abbrev cX2_putLocal : ByteArray := prog_4_method_7_code
def yX2_putLocal : MethodName := ⟨RX2, "putLocal", "(II)V"⟩
abbrev cX2_hold : ByteArray := prog_4_method_8_code
def yX2_hold : MethodName := ⟨RX2, "hold", "(I)V"⟩
abbrev cX2_takeMail : ByteArray := prog_4_method_9_code
def yX2_takeMail : MethodName := ⟨RX2, "takeMail", "(I)Z"⟩
abbrev cX2_waitFor : ByteArray := prog_4_method_10_code
def yX2_waitFor : MethodName := ⟨RX2, "waitFor", "(II)V"⟩
abbrev cX2_waitsForMail : ByteArray := prog_4_method_11_code
def yX2_waitsForMail : MethodName := ⟨RX2, "waitsForMail", "(I)Z"⟩
abbrev cX2_resume : ByteArray := prog_4_method_12_code
def yX2_resume : MethodName := ⟨RX2, "resume", "()V"⟩
abbrev cX2_placeOf : ByteArray := prog_4_method_13_code
def yX2_placeOf : MethodName := ⟨RX2, "placeOf", "(I)I"⟩
def RX3 : String := "MailDen$Specs"
def TX3 : u_T := fun k => match k with
  | 0 => ("MailDen$Specs", "count", "I", false)
  | 1 => ("MailDen$Specs", "strategies", "[I", true)
  | 2 => ("MailDen$Specs", "mosts", "[I", true)
  | 3 => ("MailDen$Specs", "withins", "[I", true)
  | 4 => ("MailDen$Specs", "placeCounts", "[I", true)
  | 5 => ("MailDen$Specs", "ofSpecs", "[Z", true)
  | 6 => ("MailDen$Specs", "numbers", "[I", true)
  | _ => ("MailDen$Specs", "modes", "[I", true)
def tyX3 : Nat → FieldType := fun k => match k with
  | 0 => .int
  | 1 => .array .int
  | 2 => .array .int
  | 3 => .array .int
  | 4 => .array .int
  | 5 => .array .boolean
  | 6 => .array .int
  | _ => .array .int
theorem nmX3 : ∀ a, a < 8 → ∀ b, b < 8 → a ≠ b → (TX3 a).2.1 ≠ (TX3 b).2.1 := by decide +kernel
theorem tyX3_ok : ∀ k, k < 8 → parseFieldDescriptor (TX3 k).2.2.1 = some (tyX3 k) := by decide +kernel
abbrev cX3_init : ByteArray := prog_5_method_1_code
def yX3_init : MethodName := ⟨RX3, "<init>", "()V"⟩
abbrev cX3_hasSpec : ByteArray := prog_5_method_2_code
def yX3_hasSpec : MethodName := ⟨RX3, "hasSpec", "(I)Z"⟩
abbrev cX3_placesOf : ByteArray := prog_5_method_3_code
def yX3_placesOf : MethodName := ⟨RX3, "placesOf", "(I)I"⟩
abbrev cX3_placeAt : ByteArray := prog_5_method_4_code
def yX3_placeAt : MethodName := ⟨RX3, "placeAt", "(II)I"⟩
abbrev cX3_addSpec : ByteArray := prog_5_method_5_code
def yX3_addSpec : MethodName := ⟨RX3, "addSpec", "(III)I"⟩
abbrev cX3_addPlace : ByteArray := prog_5_method_6_code
def yX3_addPlace : MethodName := ⟨RX3, "addPlace", "(IZII)I"⟩
def RX4 : String := "MailDen$Watches"
def TX4 : u_T := fun k => match k with
  | 0 => ("MailDen$Watches", "watchers", "[I", true)
  | 1 => ("MailDen$Watches", "times", "[I", true)
  | _ => ("MailDen$Watches", "count", "I", false)
def tyX4 : Nat → FieldType := fun k => match k with
  | 0 => .array .int
  | 1 => .array .int
  | _ => .int
theorem nmX4 : ∀ a, a < 3 → ∀ b, b < 3 → a ≠ b → (TX4 a).2.1 ≠ (TX4 b).2.1 := by decide +kernel
theorem tyX4_ok : ∀ k, k < 3 → parseFieldDescriptor (TX4 k).2.2.1 = some (tyX4 k) := by decide +kernel
abbrev cX4_init : ByteArray := prog_6_method_1_code
def yX4_init : MethodName := ⟨RX4, "<init>", "()V"⟩
abbrev cX4_add : ByteArray := prog_6_method_2_code
def yX4_add : MethodName := ⟨RX4, "add", "(I)V"⟩
abbrev cX4_copyFrom : ByteArray := prog_6_method_3_code
def yX4_copyFrom : MethodName := ⟨RX4, "copyFrom", "(LMailDen$Watches;)V"⟩
def RX5 : String := "MailDen$World"
def TX5 : u_T := fun k => match k with
  | 0 => ("MailDen$World", "codes", "LMailDen$Codes;", true)
  | 1 => ("MailDen$World", "specs", "LMailDen$Specs;", true)
  | 2 => ("MailDen$World", "current", "[I", true)
  | 3 => ("MailDen$World", "names", "[I", true)
  | 4 => ("MailDen$World", "procs", "[LMailDen$Proc;", true)
  | 5 => ("MailDen$World", "count", "I", false)
  | 6 => ("MailDen$World", "now", "I", false)
  | 7 => ("MailDen$World", "lost", "I", false)
  | 8 => ("MailDen$World", "turns", "I", false)
  | 9 => ("MailDen$World", "lines", "I", false)
  | 10 => ("MailDen$World", "tickets", "I", false)
  | 11 => ("MailDen$World", "ended", "[I", true)
  | 12 => ("MailDen$World", "endedCount", "I", false)
  | 13 => ("MailDen$World", "settledCount", "I", false)
  | 14 => ("MailDen$World", "restartOf", "[I", true)
  | 15 => ("MailDen$World", "restartAt", "[I", true)
  | _ => ("MailDen$World", "restartCount", "I", false)
def tyX5 : Nat → FieldType := fun k => match k with
  | 0 => .object "MailDen$Codes"
  | 1 => .object "MailDen$Specs"
  | 2 => .array .int
  | 3 => .array .int
  | 4 => .array (.object "MailDen$Proc")
  | 5 => .int
  | 6 => .int
  | 7 => .int
  | 8 => .int
  | 9 => .int
  | 10 => .int
  | 11 => .array .int
  | 12 => .int
  | 13 => .int
  | 14 => .array .int
  | 15 => .array .int
  | _ => .int
theorem nmX5 : ∀ a, a < 17 → ∀ b, b < 17 → a ≠ b → (TX5 a).2.1 ≠ (TX5 b).2.1 := by decide +kernel
theorem tyX5_ok : ∀ k, k < 17 → parseFieldDescriptor (TX5 k).2.2.1 = some (tyX5 k) := by decide +kernel
abbrev cX5_init : ByteArray := prog_7_method_1_code
def yX5_init : MethodName := ⟨RX5, "<init>", "(LMailDen$Codes;LMailDen$Specs;)V"⟩
abbrev cX5_copyFrom : ByteArray := prog_7_method_2_code
def yX5_copyFrom : MethodName := ⟨RX5, "copyFrom", "(LMailDen$World;)V"⟩
abbrev cX5_procAt : ByteArray := prog_7_method_3_code
def yX5_procAt : MethodName := ⟨RX5, "procAt", "(I)LMailDen$Proc;"⟩
abbrev cX5_living : ByteArray := prog_7_method_4_code
def yX5_living : MethodName := ⟨RX5, "living", "(I)LMailDen$Proc;"⟩
abbrev cX5_currentOf : ByteArray := prog_7_method_5_code
def yX5_currentOf : MethodName := ⟨RX5, "currentOf", "(I)I"⟩
abbrev cX5_holderOf : ByteArray := prog_7_method_6_code
def yX5_holderOf : MethodName := ⟨RX5, "holderOf", "(I)I"⟩
abbrev cX5_comesOfModule : ByteArray := prog_7_method_7_code
def yX5_comesOfModule : MethodName := ⟨RX5, "comesOfModule", "(II)LMailDen$Proc;"⟩
abbrev cX5_comesOfSpec : ByteArray := prog_7_method_8_code
def yX5_comesOfSpec : MethodName := ⟨RX5, "comesOfSpec", "(II)LMailDen$Proc;"⟩
abbrev cX5_ready : ByteArray := prog_7_method_9_code
def yX5_ready : MethodName := ⟨RX5, "ready", "(LMailDen$Proc;)V"⟩
abbrev cX5_startPlaces : ByteArray := prog_7_method_10_code
def yX5_startPlaces : MethodName := ⟨RX5, "startPlaces", "(LMailDen$World;LMailDen$Proc;III)V"⟩
abbrev cX5_comesFromOutside : ByteArray := prog_7_method_11_code
def yX5_comesFromOutside : MethodName := ⟨RX5, "comesFromOutside", "(I)I"⟩
abbrev cX5_putMail : ByteArray := prog_7_method_12_code
def yX5_putMail : MethodName := ⟨RX5, "putMail", "(III)Z"⟩
abbrev cX5_signalTo : ByteArray := prog_7_method_13_code
def yX5_signalTo : MethodName := ⟨RX5, "signalTo", "(III)V"⟩
abbrev cX5_end : ByteArray := prog_7_method_14_code
def yX5_end : MethodName := ⟨RX5, "end", "(LMailDen$Proc;I)V"⟩
abbrev cX5_settle : ByteArray := prog_7_method_15_code
def yX5_settle : MethodName := ⟨RX5, "settle", "()V"⟩
abbrev cX5_endChildren : ByteArray := prog_7_method_16_code
def yX5_endChildren : MethodName := ⟨RX5, "endChildren", "(LMailDen$Proc;II)V"⟩
abbrev cX5_tellWatchers : ByteArray := prog_7_method_17_code
def yX5_tellWatchers : MethodName := ⟨RX5, "tellWatchers", "(LMailDen$Proc;)V"⟩
abbrev cX5_link : ByteArray := prog_7_method_18_code
def yX5_link : MethodName := ⟨RX5, "link", "(LMailDen$Proc;LMailDen$Proc;)V"⟩
abbrev cX5_unlink : ByteArray := prog_7_method_19_code
def yX5_unlink : MethodName := ⟨RX5, "unlink", "(LMailDen$Proc;LMailDen$Proc;)V"⟩
abbrev cX5_superviseEnd : ByteArray := prog_7_method_20_code
def yX5_superviseEnd : MethodName := ⟨RX5, "superviseEnd", "(LMailDen$Proc;)V"⟩
abbrev cX5_noteRestart : ByteArray := prog_7_method_21_code
def yX5_noteRestart : MethodName := ⟨RX5, "noteRestart", "(I)V"⟩
abbrev cX5_restartsEver : ByteArray := prog_7_method_22_code
def yX5_restartsEver : MethodName := ⟨RX5, "restartsEver", "(LMailDen$Proc;)I"⟩
abbrev cX5_restartsLately : ByteArray := prog_7_method_23_code
def yX5_restartsLately : MethodName := ⟨RX5, "restartsLately", "(LMailDen$Proc;)I"⟩
abbrev cX5_restartsAbove : ByteArray := prog_7_method_24_code
def yX5_restartsAbove : MethodName := ⟨RX5, "restartsAbove", "(LMailDen$Proc;I)I"⟩
abbrev cX5_endedBehind : ByteArray := prog_7_method_25_code
def yX5_endedBehind : MethodName := ⟨RX5, "endedBehind", "(I)I"⟩
abbrev cX5_loadModule : ByteArray := prog_7_method_26_code
def yX5_loadModule : MethodName := ⟨RX5, "loadModule", "(I)V"⟩
abbrev cX5_passTime : ByteArray := prog_7_method_27_code
def yX5_passTime : MethodName := ⟨RX5, "passTime", "()I"⟩
abbrev cX5_firstReady : ByteArray := prog_7_method_28_code
def yX5_firstReady : MethodName := ⟨RX5, "firstReady", "()LMailDen$Proc;"⟩
abbrev cX5_doTurn : ByteArray := prog_7_method_29_code
def yX5_doTurn : MethodName := ⟨RX5, "doTurn", "()Z"⟩
abbrev cX5_goesOut : ByteArray := prog_7_method_30_code
def yX5_goesOut : MethodName := ⟨RX5, "goesOut", "(I)Z"⟩
abbrev cX5_doLine : ByteArray := prog_7_method_31_code
def yX5_doLine : MethodName := ⟨RX5, "doLine", "(LMailDen$Proc;I)I"⟩
abbrev cX5_doLineOut : ByteArray := prog_7_method_32_code
def yX5_doLineOut : MethodName := ⟨RX5, "doLineOut", "(LMailDen$Proc;I)I"⟩
abbrev cX5_takeName : ByteArray := prog_7_method_33_code
def yX5_takeName : MethodName := ⟨RX5, "takeName", "(LMailDen$Proc;I)V"⟩
abbrev cX5_callName : ByteArray := prog_7_method_34_code
def yX5_callName : MethodName := ⟨RX5, "callName", "(LMailDen$Proc;II)V"⟩
abbrev cX5_spawn : ByteArray := prog_7_method_35_code
def yX5_spawn : MethodName := ⟨RX5, "spawn", "(LMailDen$Proc;IZ)V"⟩
abbrev cX5_placeInRow : ByteArray := prog_7_method_36_code
def yX5_placeInRow : MethodName := ⟨RX5, "placeInRow", "(LMailDen$Proc;)I"⟩
abbrev cX5_watchesOf : ByteArray := prog_7_method_37_code
def yX5_watchesOf : MethodName := ⟨RX5, "watchesOf", "(LMailDen$Proc;)I"⟩
abbrev cX5_runners : ByteArray := prog_7_method_38_code
def yX5_runners : MethodName := ⟨RX5, "runners", "(III)I"⟩
abbrev cX5_madeOf : ByteArray := prog_7_method_39_code
def yX5_madeOf : MethodName := ⟨RX5, "madeOf", "(I)I"⟩
abbrev cX5_isCurrentUsed : ByteArray := prog_7_method_40_code
def yX5_isCurrentUsed : MethodName := ⟨RX5, "isCurrentUsed", "(I)Z"⟩
abbrev cX5_hadSupervisor : ByteArray := prog_7_method_41_code
def yX5_hadSupervisor : MethodName := ⟨RX5, "hadSupervisor", "(I)Z"⟩
abbrev cX5_supervisors : ByteArray := prog_7_method_42_code
def yX5_supervisors : MethodName := ⟨RX5, "supervisors", "()I"⟩
abbrev cX5_withStatus : ByteArray := prog_7_method_43_code
def yX5_withStatus : MethodName := ⟨RX5, "withStatus", "(I)I"⟩
abbrev cX5_linkCount : ByteArray := prog_7_method_44_code
def yX5_linkCount : MethodName := ⟨RX5, "linkCount", "()I"⟩
abbrev cX5_mailCount : ByteArray := prog_7_method_45_code
def yX5_mailCount : MethodName := ⟨RX5, "mailCount", "()I"⟩
def RX6 : String := "MailDen"
def TX6 : u_T := fun k => match k with
  | 0 => ("MailDen", "codes", "LMailDen$Codes;", true)
  | 1 => ("MailDen", "specs", "LMailDen$Specs;", true)
  | 2 => ("MailDen", "real", "LMailDen$World;", true)
  | _ => ("MailDen", "trial", "LMailDen$World;", true)
def tyX6 : Nat → FieldType := fun k => match k with
  | 0 => .object "MailDen$Codes"
  | 1 => .object "MailDen$Specs"
  | 2 => .object "MailDen$World"
  | _ => .object "MailDen$World"
theorem nmX6 : ∀ a, a < 4 → ∀ b, b < 4 → a ≠ b → (TX6 a).2.1 ≠ (TX6 b).2.1 := by decide +kernel
theorem tyX6_ok : ∀ k, k < 4 → parseFieldDescriptor (TX6 k).2.2.1 = some (tyX6 k) := by decide +kernel
abbrev cX6_init : ByteArray := prog_1_method_1_code
def yX6_init : MethodName := ⟨RX6, "<init>", "()V"⟩
abbrev cX6_module : ByteArray := prog_1_method_2_code
def yX6_module : MethodName := ⟨RX6, "module", "()I"⟩
abbrev cX6_line : ByteArray := prog_1_method_3_code
def yX6_line : MethodName := ⟨RX6, "line", "(IIII)I"⟩
abbrev cX6_load : ByteArray := prog_1_method_4_code
def yX6_load : MethodName := ⟨RX6, "load", "(I)I"⟩
abbrev cX6_spec : ByteArray := prog_1_method_5_code
def yX6_spec : MethodName := ⟨RX6, "spec", "(III)I"⟩
abbrev cX6_place : ByteArray := prog_1_method_6_code
def yX6_place : MethodName := ⟨RX6, "place", "(IZII)I"⟩
abbrev cX6_ofModule : ByteArray := prog_1_method_7_code
def yX6_ofModule : MethodName := ⟨RX6, "ofModule", "(II)I"⟩
abbrev cX6_start : ByteArray := prog_1_method_8_code
def yX6_start : MethodName := ⟨RX6, "start", "(I)I"⟩
abbrev cX6_supervise : ByteArray := prog_1_method_9_code
def yX6_supervise : MethodName := ⟨RX6, "supervise", "(I)I"⟩
abbrev cX6_run : ByteArray := prog_1_method_10_code
def yX6_run : MethodName := ⟨RX6, "run", "(I)I"⟩
abbrev cX6_tick : ByteArray := prog_1_method_11_code
def yX6_tick : MethodName := ⟨RX6, "tick", "(I)I"⟩
abbrev cX6_send : ByteArray := prog_1_method_12_code
def yX6_send : MethodName := ⟨RX6, "send", "(III)Z"⟩
abbrev cX6_signal : ByteArray := prog_1_method_13_code
def yX6_signal : MethodName := ⟨RX6, "signal", "(II)I"⟩
abbrev cX6_ofProcess : ByteArray := prog_1_method_14_code
def yX6_ofProcess : MethodName := ⟨RX6, "ofProcess", "(II)I"⟩
abbrev cX6_local : ByteArray := prog_1_method_15_code
def yX6_local : MethodName := ⟨RX6, "local", "(II)I"⟩
abbrev cX6_mail : ByteArray := prog_1_method_16_code
def yX6_mail : MethodName := ⟨RX6, "mail", "(III)I"⟩
abbrev cX6_ofSupervisor : ByteArray := prog_1_method_17_code
def yX6_ofSupervisor : MethodName := ⟨RX6, "ofSupervisor", "(II)I"⟩
abbrev cX6_named : ByteArray := prog_1_method_18_code
def yX6_named : MethodName := ⟨RX6, "named", "(I)I"⟩
abbrev cX6_many : ByteArray := prog_1_method_19_code
def yX6_many : MethodName := ⟨RX6, "many", "(I)I"⟩
abbrev cX6_wouldFall : ByteArray := prog_1_method_21_code
def yX6_wouldFall : MethodName := ⟨RX6, "wouldFall", "(II)I"⟩
abbrev cX6_wouldPurge : ByteArray := prog_1_method_22_code
def yX6_wouldPurge : MethodName := ⟨RX6, "wouldPurge", "(I)I"⟩
abbrev cX6_overBy : ByteArray := prog_1_method_23_code
def yX6_overBy : MethodName := ⟨RX6, "overBy", "(II)I"⟩
abbrev cX6_passedOver : ByteArray := prog_1_method_24_code
def yX6_passedOver : MethodName := ⟨RX6, "passedOver", "(II)I"⟩
abbrev cX6_digest : ByteArray := prog_1_method_25_code
def yX6_digest : MethodName := ⟨RX6, "digest", "()J"⟩
abbrev cX6_digestOfProcess : ByteArray := prog_1_method_26_code
def yX6_digestOfProcess : MethodName := ⟨RX6, "digestOfProcess", "(JI)J"⟩
abbrev cX6_isWithin : ByteArray := prog_1_method_27_code
def yX6_isWithin : MethodName := ⟨RX6, "isWithin", "(III)Z"⟩
abbrev cX6_checkIndex : ByteArray := prog_1_method_28_code
def yX6_checkIndex : MethodName := ⟨RX6, "checkIndex", "(Z)V"⟩
abbrev cX6_checkArgument : ByteArray := prog_1_method_29_code
def yX6_checkArgument : MethodName := ⟨RX6, "checkArgument", "(Z)V"⟩
abbrev cX6_checkState : ByteArray := prog_1_method_30_code
def yX6_checkState : MethodName := ⟨RX6, "checkState", "(Z)V"⟩
abbrev cX6_checkProcess : ByteArray := prog_1_method_31_code
def yX6_checkProcess : MethodName := ⟨RX6, "checkProcess", "(I)LMailDen$Proc;"⟩
def RL : String := "MailDenLaw"
abbrev cL_below : ByteArray := method_2_code
def yL_below : MethodName := ⟨RL, "below", "(II)I"⟩
abbrev cL_cell : ByteArray := method_3_code
def yL_cell : MethodName := ⟨RL, "cell", "([II)I"⟩
abbrev cL_law : ByteArray := code
def yL_law : MethodName := ⟨RL, "law", "([I)Z"⟩
abbrev cL_write : ByteArray := method_5_code
def yL_write : MethodName := ⟨RL, "write", "(LMailDen;[III)Z"⟩
abbrev cL_isActed : ByteArray := method_6_code
def yL_isActed : MethodName := ⟨RL, "isActed", "(LMailDen;[IIII)Z"⟩
abbrev cL_isLost : ByteArray := method_7_code
def yL_isLost : MethodName := ⟨RL, "isLost", "(LMailDen;II)Z"⟩
abbrev cL_areOver : ByteArray := method_8_code
def yL_areOver : MethodName := ⟨RL, "areOver", "(LMailDen;I)Z"⟩
abbrev cL_isSound : ByteArray := method_9_code
def yL_isSound : MethodName := ⟨RL, "isSound", "(LMailDen;[I)Z"⟩
abbrev cL_isKnown : ByteArray := method_10_code
def yL_isKnown : MethodName := ⟨RL, "isKnown", "(LMailDen;II)Z"⟩
def RJ6 : String := "java/lang/Integer"
abbrev cJ6_bitCount_0f7a4 : ByteArray := prog_20_method_49_code
def yJ6_bitCount_0f7a4 : MethodName := ⟨RJ6, "bitCount", "(I)I"⟩
def RJ7 : String := "java/util/Arrays"
abbrev cJ7_fill_53178 : ByteArray := prog_25_method_103_code
def yJ7_fill_53178 : MethodName := ⟨RJ7, "fill", "([II)V"⟩
abbrev wsU0 : List Cond := u_ws RX0 TX0 3
abbrev wsU1 : List Cond := u_ws RX1 TX1 5
abbrev wsU2 : List Cond := u_ws RX2 TX2 19
abbrev wsU3 : List Cond := u_ws RX3 TX3 8
abbrev wsU4 : List Cond := u_ws RX4 TX4 3
abbrev wsU5 : List Cond := u_ws RX5 TX5 17
abbrev wsU6 : List Cond := u_ws RX6 TX6 4
def wc0 : List Cond := [.methodLink RX0 3 objectInit, .instanceMethod objectInit, .code objectInit ⟨#[0xb1]⟩ 1 none, .arrayClass .int, .fieldLink RX0 9 "MailDen$Box" "tags" "[I", .fieldLink RX0 15 "MailDen$Box" "numbers" "[I", .code yX0_init cX0_init 1 none, .fieldLink RX0 18 "MailDen$Box" "count" "I", .code yX0_put cX0_put 3 (some .boolean), .code yX0_firstOf cX0_firstOf 3 (some .int), .code yX6_isWithin cX6_isWithin 3 (some .boolean), .static yX6_isWithin, .initialized RX6, .code yX0_takeOut cX0_takeOut 4 (some .int), .methodLink RX0 26 arraycopyName, .native arraycopyName, .static arraycopyName, .initialized "java/lang/System", .code yX0_copyFrom cX0_copyFrom 2 none, .methodLink RX1 3 objectInit, .fieldLink RX1 9 "MailDen$Codes" "lineCounts" "[I", .fieldLink RX1 15 "MailDen$Codes" "kinds" "[I", .fieldLink RX1 18 "MailDen$Codes" "as" "[I", .fieldLink RX1 21 "MailDen$Codes" "bs" "[I", .code yX1_init cX1_init 1 none, .fieldLink RX1 24 "MailDen$Codes" "modules" "I", .code yX1_hasModule cX1_hasModule 2 (some .boolean), .methodLink RX1 28 yX1_hasModule, .instanceMethod yX1_hasModule, .selects RX1 yX1_hasModule yX1_hasModule, .initialized RX1, .code yX1_rowOf cX1_rowOf 3 (some .int), .methodLink RX1 36 yX1_rowOf, .instanceMethod yX1_rowOf, .selects RX1 yX1_rowOf yX1_rowOf, .code yX1_linesOf cX1_linesOf 4 (some .int), .code yX1_lineAt cX1_lineAt 5 (some .int), .code yX1_isLine cX1_isLine 7 (some .boolean), .code yX1_addLine cX1_addLine 9 (some .int), .methodLink RX4 3 objectInit]
def wc1 : List Cond := [.fieldLink RX4 9 "MailDen$Watches" "watchers" "[I", .fieldLink RX4 15 "MailDen$Watches" "times" "[I", .code yX4_init cX4_init 1 none, .methodLink RX2 3 objectInit, .fieldLink RX2 9 "MailDen$Proc" "module" "I", .fieldLink RX2 15 "MailDen$Proc" "version" "I", .fieldLink RX2 18 "MailDen$Proc" "spec" "I", .fieldLink RX2 21 "MailDen$Proc" "parent" "I", .fieldLink RX2 24 "MailDen$Proc" "status" "I", .fieldLink RX2 27 "MailDen$Proc" "reason" "I", .fieldLink RX2 30 "MailDen$Proc" "until" "I", .fieldLink RX2 33 "MailDen$Proc" "wait" "I", .fieldLink RX2 36 "MailDen$Proc" "locals" "[I", .fieldLink RX2 40 "MailDen$Proc" "children" "[I", .classLink RX2 43 RX0, .instantiable RX0 3, .initialized RX0, .fieldLink RX2 46 "MailDen$Proc" "box" "LMailDen$Box;", .classLink RX2 50 RX4, .instantiable RX4 3, .initialized RX4, .fieldLink RX2 53 "MailDen$Proc" "watches" "LMailDen$Watches;", .fieldLink RX2 57 "MailDen$Proc" "number" "I", .instanceMethod yX0_init, .instanceMethod yX4_init, .methodLink RX2 60 yJ7_fill_53178, .static yJ7_fill_53178, .initialized RJ7, .code yJ7_fill_53178 cJ7_fill_53178 4 none, .code yX2_init cX2_init 2 none, .methodLink RX4 22 arraycopyName, .fieldLink RX4 18 "MailDen$Watches" "count" "I", .code yX4_copyFrom cX4_copyFrom 2 none, .fieldLink RX2 66 "MailDen$Proc" "there" "I", .fieldLink RX2 69 "MailDen$Proc" "line" "I", .fieldLink RX2 72 "MailDen$Proc" "ticket" "I", .fieldLink RX2 75 "MailDen$Proc" "traps" "Z", .fieldLink RX2 79 "MailDen$Proc" "links" "I", .fieldLink RX2 82 "MailDen$Proc" "emptyPlaces" "I", .methodLink RX2 85 arraycopyName]
def wc2 : List Cond := [.methodLink RX2 91 yX0_copyFrom, .instanceMethod yX0_copyFrom, .selects RX0 yX0_copyFrom yX0_copyFrom, .methodLink RX2 95 yX4_copyFrom, .instanceMethod yX4_copyFrom, .selects RX4 yX4_copyFrom yX4_copyFrom, .code yX2_copyFrom cX2_copyFrom 2 none, .code yX2_isSupervisor cX2_isSupervisor 1 (some .boolean), .code yX2_isLinkedWith cX2_isLinkedWith 2 (some .boolean), .code yX2_isEmptyPlace cX2_isEmptyPlace 2 (some .boolean), .code yX2_localAt cX2_localAt 2 (some .int), .code yX2_putLocal cX2_putLocal 3 none, .methodLink RX2 102 Lib.Math.min.name, .static Lib.Math.min.name, .initialized "java/lang/Math", .code Lib.Math.min.name Lib.Math.min.code 2 (some .int), .methodLink RX2 108 Lib.Math.max.name, .static Lib.Math.max.name, .code Lib.Math.max.name Lib.Math.max.code 2 (some .int), .code yX2_hold cX2_hold 2 none, .methodLink RX2 111 yX0_firstOf, .instanceMethod yX0_firstOf, .selects RX0 yX0_firstOf yX0_firstOf, .methodLink RX2 115 yX0_takeOut, .instanceMethod yX0_takeOut, .selects RX0 yX0_takeOut yX0_takeOut, .methodLink RX2 118 yX2_hold, .instanceMethod yX2_hold, .selects RX2 yX2_hold yX2_hold, .initialized RX2, .code yX2_takeMail cX2_takeMail 3 (some .boolean), .code yX2_waitFor cX2_waitFor 3 none, .code yX2_waitsForMail cX2_waitsForMail 2 (some .boolean), .methodLink RX2 122 yX2_takeMail, .instanceMethod yX2_takeMail, .selects RX2 yX2_takeMail yX2_takeMail, .code yX2_resume cX2_resume 1 none, .code yX2_placeOf cX2_placeOf 3 (some .int), .methodLink RX3 3 objectInit, .fieldLink RX3 9 "MailDen$Specs" "strategies" "[I"]
def wc3 : List Cond := [.fieldLink RX3 15 "MailDen$Specs" "mosts" "[I", .fieldLink RX3 18 "MailDen$Specs" "withins" "[I", .fieldLink RX3 21 "MailDen$Specs" "placeCounts" "[I", .arrayClass .boolean, .fieldLink RX3 24 "MailDen$Specs" "ofSpecs" "[Z", .fieldLink RX3 28 "MailDen$Specs" "numbers" "[I", .fieldLink RX3 31 "MailDen$Specs" "modes" "[I", .code yX3_init cX3_init 1 none, .fieldLink RX3 34 "MailDen$Specs" "count" "I", .code yX3_hasSpec cX3_hasSpec 2 (some .boolean), .methodLink RX3 38 yX3_hasSpec, .instanceMethod yX3_hasSpec, .selects RX3 yX3_hasSpec yX3_hasSpec, .initialized RX3, .code yX3_placesOf cX3_placesOf 2 (some .int), .code yX3_placeAt cX3_placeAt 3 (some .int), .code yX3_addSpec cX3_addSpec 5 (some .int), .code yX3_addPlace cX3_addPlace 7 (some .int), .code yX4_add cX4_add 3 none, .methodLink RX5 3 objectInit, .fieldLink RX5 9 "MailDen$World" "current" "[I", .fieldLink RX5 15 "MailDen$World" "names" "[I", .classLink RX5 18 RX2, .fieldLink RX5 20 "MailDen$World" "procs" "[LMailDen$Proc;", .fieldLink RX5 24 "MailDen$World" "ended" "[I", .fieldLink RX5 27 "MailDen$World" "restartOf" "[I", .fieldLink RX5 30 "MailDen$World" "restartAt" "[I", .fieldLink RX5 33 "MailDen$World" "codes" "LMailDen$Codes;", .fieldLink RX5 37 "MailDen$World" "specs" "LMailDen$Specs;", .instantiable RX2 19, .methodLink RX5 41 yJ7_fill_53178, .methodLink RX5 47 yX2_init, .instanceMethod yX2_init, .code yX5_init cX5_init 4 none, .methodLink RX5 50 arraycopyName, .fieldLink RX5 56 "MailDen$World" "count" "I", .methodLink RX5 60 Lib.Math.max.name, .fieldLink RX5 70 "MailDen$World" "now" "I", .fieldLink RX5 73 "MailDen$World" "lost" "I", .fieldLink RX5 76 "MailDen$World" "turns" "I"]
def wc4 : List Cond := [.fieldLink RX5 79 "MailDen$World" "lines" "I", .fieldLink RX5 82 "MailDen$World" "tickets" "I", .fieldLink RX5 85 "MailDen$World" "endedCount" "I", .fieldLink RX5 88 "MailDen$World" "settledCount" "I", .fieldLink RX5 91 "MailDen$World" "restartCount" "I", .methodLink RX5 66 yX2_copyFrom, .instanceMethod yX2_copyFrom, .selects RX2 yX2_copyFrom yX2_copyFrom, .code yX5_copyFrom cX5_copyFrom 4 none, .code yX5_procAt cX5_procAt 2 (some (.object "MailDen$Proc")), .fieldLink RX5 94 "MailDen$Proc" "status" "I", .code yX5_living cX5_living 2 (some (.object "MailDen$Proc")), .methodLink RX5 97 yX1_hasModule, .code yX5_currentOf cX5_currentOf 2 (some .int), .code yX5_holderOf cX5_holderOf 2 (some .int), .fieldLink RX5 107 "MailDen$Codes" "modules" "I", .fieldLink RX5 110 "MailDen$Proc" "module" "I", .fieldLink RX5 113 "MailDen$Proc" "version" "I", .fieldLink RX5 116 "MailDen$Proc" "parent" "I", .fieldLink RX5 119 "MailDen$Proc" "ticket" "I", .code yX5_comesOfModule cX5_comesOfModule 4 (some (.object "MailDen$Proc")), .fieldLink RX5 122 "MailDen$Proc" "spec" "I", .fieldLink RX5 125 "MailDen$Proc" "line" "I", .code yX5_comesOfSpec cX5_comesOfSpec 4 (some (.object "MailDen$Proc")), .fieldLink RX5 128 "MailDen$Proc" "until" "I", .code yX5_ready cX5_ready 2 none, .fieldLink RX5 201 "MailDen$Proc" "reason" "I", .fieldLink RX5 178 "MailDen$Proc" "box" "LMailDen$Box;", .fieldLink RX5 204 "MailDen$Box" "count" "I", .fieldLink RX5 146 "MailDen$Proc" "number" "I", .code yX5_end cX5_end 4 none, .fieldLink RX5 139 "MailDen$Specs" "ofSpecs" "[Z", .fieldLink RX5 143 "MailDen$Specs" "numbers" "[I", .fieldLink RX5 160 "MailDen$Proc" "children" "[I", .methodLink RX5 131 yX3_placeAt, .instanceMethod yX3_placeAt, .selects RX3 yX3_placeAt yX3_placeAt, .methodLink RX5 136 yX2_isEmptyPlace, .instanceMethod yX2_isEmptyPlace, .selects RX2 yX2_isEmptyPlace yX2_isEmptyPlace]
def wc5 : List Cond := [.methodLink RX5 149 yX5_comesOfSpec, .instanceMethod yX5_comesOfSpec, .selects RX5 yX5_comesOfSpec yX5_comesOfSpec, .initialized RX5, .methodLink RX5 153 yX5_comesOfModule, .instanceMethod yX5_comesOfModule, .selects RX5 yX5_comesOfModule yX5_comesOfModule, .methodLink RX5 156 yX5_end, .instanceMethod yX5_end, .selects RX5 yX5_end yX5_end, .methodLink RX5 163 yX5_startPlaces, .static yX5_startPlaces, .code yX5_startPlaces cX5_startPlaces 10 none, .methodLink RX5 205 yX5_procAt, .instanceMethod yX5_procAt, .selects RX5 yX5_procAt yX5_procAt, .code yX5_endChildren cX5_endChildren 6 none, .methodLink RX5 170 yX5_living, .instanceMethod yX5_living, .selects RX5 yX5_living yX5_living, .methodLink RX5 174 yX2_isSupervisor, .instanceMethod yX2_isSupervisor, .selects RX2 yX2_isSupervisor yX2_isSupervisor, .methodLink RX5 182 yX0_put, .instanceMethod yX0_put, .selects RX0 yX0_put yX0_put, .methodLink RX5 188 yX2_waitsForMail, .instanceMethod yX2_waitsForMail, .selects RX2 yX2_waitsForMail yX2_waitsForMail, .methodLink RX5 191 yX5_ready, .instanceMethod yX5_ready, .selects RX5 yX5_ready yX5_ready, .code yX5_putMail cX5_putMail 5 (some .boolean), .fieldLink RX5 229 "MailDen$Proc" "watches" "LMailDen$Watches;", .fieldLink RX5 233 "MailDen$Watches" "count" "I", .fieldLink RX5 236 "MailDen$Watches" "watchers" "[I", .fieldLink RX5 239 "MailDen$Watches" "times" "[I", .methodLink RX5 198 yX5_putMail, .instanceMethod yX5_putMail, .selects RX5 yX5_putMail yX5_putMail]
def wc6 : List Cond := [.code yX5_tellWatchers cX5_tellWatchers 6 none, .fieldLink RX5 242 "MailDen$Proc" "links" "I", .code yX5_unlink cX5_unlink 3 none, .fieldLink RX5 194 "MailDen$Proc" "traps" "Z", .code yX5_signalTo cX5_signalTo 5 none, .code yX5_noteRestart cX5_noteRestart 2 none, .code yX5_restartsAbove cX5_restartsAbove 5 (some .int), .fieldLink RX5 275 "MailDen$Specs" "withins" "[I", .methodLink RX5 249 yX3_hasSpec, .methodLink RX5 271 yX5_restartsAbove, .instanceMethod yX5_restartsAbove, .selects RX5 yX5_restartsAbove yX5_restartsAbove, .code yX5_restartsLately cX5_restartsLately 2 (some .int), .fieldLink RX5 252 "MailDen$Specs" "modes" "[I", .fieldLink RX5 255 "MailDen$Proc" "emptyPlaces" "I", .fieldLink RX5 265 "MailDen$Specs" "mosts" "[I", .fieldLink RX5 268 "MailDen$Specs" "strategies" "[I", .methodLink RX5 245 yX2_placeOf, .instanceMethod yX2_placeOf, .selects RX2 yX2_placeOf yX2_placeOf, .methodLink RX5 258 yX5_noteRestart, .instanceMethod yX5_noteRestart, .selects RX5 yX5_noteRestart yX5_noteRestart, .methodLink RX5 261 yX5_restartsLately, .instanceMethod yX5_restartsLately, .selects RX5 yX5_restartsLately yX5_restartsLately, .methodLink RX5 208 yX5_endChildren, .instanceMethod yX5_endChildren, .selects RX5 yX5_endChildren yX5_endChildren, .code yX5_superviseEnd cX5_superviseEnd 8 none, .methodLink RX5 212 yX5_tellWatchers, .instanceMethod yX5_tellWatchers, .selects RX5 yX5_tellWatchers yX5_tellWatchers, .methodLink RX5 215 yX2_isLinkedWith, .instanceMethod yX2_isLinkedWith, .selects RX2 yX2_isLinkedWith yX2_isLinkedWith, .methodLink RX5 218 yX5_unlink, .instanceMethod yX5_unlink, .selects RX5 yX5_unlink yX5_unlink, .methodLink RX5 222 yX5_signalTo]
def wc7 : List Cond := [.instanceMethod yX5_signalTo, .selects RX5 yX5_signalTo yX5_signalTo, .methodLink RX5 226 yX5_superviseEnd, .instanceMethod yX5_superviseEnd, .selects RX5 yX5_superviseEnd yX5_superviseEnd, .code yX5_settle cX5_settle 3 none, .methodLink RX5 167 yX5_settle, .instanceMethod yX5_settle, .selects RX5 yX5_settle yX5_settle, .code yX5_comesFromOutside cX5_comesFromOutside 3 (some .int), .code yX5_link cX5_link 3 none, .code yX5_restartsEver cX5_restartsEver 2 (some .int), .code yX5_endedBehind cX5_endedBehind 4 (some .int), .code yX5_loadModule cX5_loadModule 5 none, .code yX5_passTime cX5_passTime 3 (some .int), .code yX5_firstReady cX5_firstReady 4 (some (.object "MailDen$Proc")), .code yX5_goesOut cX5_goesOut 1 (some .boolean), .fieldLink RX5 307 "MailDen$Proc" "there" "I", .methodLink RX5 333 yX5_link, .instanceMethod yX5_link, .selects RX5 yX5_link yX5_link, .code yX5_spawn cX5_spawn 5 none, .methodLink RX5 345 yX5_holderOf, .instanceMethod yX5_holderOf, .selects RX5 yX5_holderOf yX5_holderOf, .code yX5_takeName cX5_takeName 4 none, .code yX5_callName cX5_callName 5 none, .fieldLink RX5 301 "MailDen$Codes" "as" "[I", .fieldLink RX5 304 "MailDen$Codes" "bs" "[I", .fieldLink RX5 289 "MailDen$Codes" "kinds" "[I", .methodLink RX5 329 yX5_spawn, .instanceMethod yX5_spawn, .selects RX5 yX5_spawn yX5_spawn, .methodLink RX5 336 yX4_add, .instanceMethod yX4_add, .selects RX4 yX4_add yX4_add, .methodLink RX5 339 yX5_takeName, .instanceMethod yX5_takeName, .selects RX5 yX5_takeName yX5_takeName, .methodLink RX5 313 yX2_localAt]
def wc8 : List Cond := [.instanceMethod yX2_localAt, .selects RX2 yX2_localAt yX2_localAt, .methodLink RX5 342 yX5_callName, .instanceMethod yX5_callName, .selects RX5 yX5_callName yX5_callName, .code yX5_doLineOut cX5_doLineOut 6 (some .int), .methodLink RX5 310 yX2_hold, .methodLink RX5 316 yX2_putLocal, .instanceMethod yX2_putLocal, .selects RX2 yX2_putLocal yX2_putLocal, .methodLink RX5 320 yX2_takeMail, .methodLink RX5 323 yX2_waitFor, .instanceMethod yX2_waitFor, .selects RX2 yX2_waitFor yX2_waitFor, .methodLink RX5 326 yX5_currentOf, .instanceMethod yX5_currentOf, .selects RX5 yX5_currentOf yX5_currentOf, .code yX5_doLine cX5_doLine 6 (some .int), .methodLink RX5 278 yX5_firstReady, .instanceMethod yX5_firstReady, .selects RX5 yX5_firstReady yX5_firstReady, .methodLink RX5 282 yX2_resume, .instanceMethod yX2_resume, .selects RX2 yX2_resume yX2_resume, .methodLink RX5 285 yX1_lineAt, .instanceMethod yX1_lineAt, .selects RX1 yX1_lineAt yX1_lineAt, .methodLink RX5 292 yX5_goesOut, .static yX5_goesOut, .methodLink RX5 295 yX5_doLineOut, .instanceMethod yX5_doLineOut, .selects RX5 yX5_doLineOut yX5_doLineOut, .methodLink RX5 298 yX5_doLine, .instanceMethod yX5_doLine, .selects RX5 yX5_doLine yX5_doLine, .code yX5_doTurn cX5_doTurn 5 (some .boolean), .code yX5_placeInRow cX5_placeInRow 4 (some .int), .code yX5_watchesOf cX5_watchesOf 4 (some .int), .code yX5_runners cX5_runners 7 (some .int), .code yX5_madeOf cX5_madeOf 4 (some .int)]
def wc9 : List Cond := [.code yX5_isCurrentUsed cX5_isCurrentUsed 3 (some .boolean), .code yX5_hadSupervisor cX5_hadSupervisor 3 (some .boolean), .code yX5_supervisors cX5_supervisors 3 (some .int), .code yX5_withStatus cX5_withStatus 4 (some .int), .methodLink RX5 348 yJ6_bitCount_0f7a4, .static yJ6_bitCount_0f7a4, .initialized RJ6, .code yJ6_bitCount_0f7a4 cJ6_bitCount_0f7a4 1 (some .int), .constant RJ6 265 (1431655765), .constant RJ6 266 (858993459), .constant RJ6 267 (252645135), .code yX5_linkCount cX5_linkCount 3 (some .int), .code yX5_mailCount cX5_mailCount 3 (some .int), .methodLink RX6 3 objectInit, .classLink RX6 9 RX1, .instantiable RX1 5, .fieldLink RX6 12 "MailDen" "codes" "LMailDen$Codes;", .classLink RX6 16 RX3, .instantiable RX3 8, .fieldLink RX6 19 "MailDen" "specs" "LMailDen$Specs;", .classLink RX6 23 RX5, .instantiable RX5 17, .fieldLink RX6 28 "MailDen" "real" "LMailDen$World;", .fieldLink RX6 32 "MailDen" "trial" "LMailDen$World;", .instanceMethod yX1_init, .instanceMethod yX3_init, .methodLink RX6 25 yX5_init, .instanceMethod yX5_init, .code yX6_init cX6_init 1 none, .code yX6_checkState cX6_checkState 1 none, .fieldLink RX6 35 "MailDen$Codes" "modules" "I", .methodLink RX6 39 yX6_checkState, .static yX6_checkState, .code yX6_module cX6_module 2 (some .int), .code yX6_checkIndex cX6_checkIndex 1 none, .code yX6_checkArgument cX6_checkArgument 1 none, .methodLink RX6 43 yX1_hasModule, .methodLink RX6 47 yX6_checkIndex, .static yX6_checkIndex, .methodLink RX6 50 yX5_currentOf]
def wc10 : List Cond := [.methodLink RX6 54 yX1_linesOf, .instanceMethod yX1_linesOf, .selects RX1 yX1_linesOf yX1_linesOf, .methodLink RX6 58 yX1_isLine, .instanceMethod yX1_isLine, .selects RX1 yX1_isLine yX1_isLine, .methodLink RX6 62 yX6_checkArgument, .static yX6_checkArgument, .methodLink RX6 65 yX5_isCurrentUsed, .instanceMethod yX5_isCurrentUsed, .selects RX5 yX5_isCurrentUsed yX5_isCurrentUsed, .methodLink RX6 68 yX1_addLine, .instanceMethod yX1_addLine, .selects RX1 yX1_addLine yX1_addLine, .code yX6_line cX6_line 7 (some .int), .fieldLink RX6 72 "MailDen$World" "endedCount" "I", .methodLink RX6 75 yX5_loadModule, .instanceMethod yX5_loadModule, .selects RX5 yX5_loadModule yX5_loadModule, .code yX6_load cX6_load 3 (some .int), .fieldLink RX6 83 "MailDen$Specs" "count" "I", .methodLink RX6 79 yX6_isWithin, .methodLink RX6 86 yX3_addSpec, .instanceMethod yX3_addSpec, .selects RX3 yX3_addSpec yX3_addSpec, .code yX6_spec cX6_spec 4 (some .int), .methodLink RX6 90 yX3_hasSpec, .methodLink RX6 93 yX5_hadSupervisor, .instanceMethod yX5_hadSupervisor, .selects RX5 yX5_hadSupervisor yX5_hadSupervisor, .methodLink RX6 96 yX3_placesOf, .instanceMethod yX3_placesOf, .selects RX3 yX3_placesOf yX3_placesOf, .methodLink RX6 99 yX3_addPlace, .instanceMethod yX3_addPlace, .selects RX3 yX3_addPlace yX3_addPlace, .code yX6_place cX6_place 5 (some .int), .methodLink RX6 103 yX5_runners, .instanceMethod yX5_runners, .selects RX5 yX5_runners yX5_runners]
def wc11 : List Cond := [.methodLink RX6 106 yX5_madeOf, .instanceMethod yX5_madeOf, .selects RX5 yX5_madeOf yX5_madeOf, .code yX6_ofModule cX6_ofModule 4 (some .int), .fieldLink RX6 113 "MailDen$Proc" "number" "I", .methodLink RX6 109 yX5_comesOfModule, .code yX6_start cX6_start 3 (some .int), .fieldLink RX6 118 "MailDen$World" "count" "I", .methodLink RX6 119 yX5_comesFromOutside, .instanceMethod yX5_comesFromOutside, .selects RX5 yX5_comesFromOutside yX5_comesFromOutside, .code yX6_supervise cX6_supervise 2 (some .int), .methodLink RX6 122 yX5_doTurn, .instanceMethod yX5_doTurn, .selects RX5 yX5_doTurn yX5_doTurn, .code yX6_run cX6_run 3 (some .int), .methodLink RX6 126 yX5_passTime, .instanceMethod yX5_passTime, .selects RX5 yX5_passTime yX5_passTime, .code yX6_tick cX6_tick 4 (some .int), .methodLink RX6 301 yX5_procAt, .code yX6_checkProcess cX6_checkProcess 3 (some (.object "MailDen$Proc")), .methodLink RX6 130 yX6_checkProcess, .instanceMethod yX6_checkProcess, .selects RX6 yX6_checkProcess yX6_checkProcess, .methodLink RX6 134 yX5_putMail, .code yX6_send cX6_send 4 (some .boolean), .methodLink RX6 137 yX5_signalTo, .methodLink RX6 141 yX5_settle, .code yX6_signal cX6_signal 4 (some .int), .fieldLink RX6 144 "MailDen$Proc" "module" "I", .fieldLink RX6 147 "MailDen$Proc" "version" "I", .fieldLink RX6 150 "MailDen$Proc" "status" "I", .fieldLink RX6 153 "MailDen$Proc" "reason" "I", .fieldLink RX6 160 "MailDen$Proc" "there" "I", .fieldLink RX6 163 "MailDen$Proc" "line" "I", .fieldLink RX6 166 "MailDen$Proc" "until" "I", .fieldLink RX6 169 "MailDen$Proc" "box" "LMailDen$Box;", .fieldLink RX6 173 "MailDen$Box" "count" "I", .fieldLink RX6 176 "MailDen$Proc" "links" "I"]
def wc12 : List Cond := [.fieldLink RX6 179 "MailDen$Proc" "traps" "Z", .fieldLink RX6 183 "MailDen$Proc" "parent" "I", .methodLink RX6 156 yX5_placeInRow, .instanceMethod yX5_placeInRow, .selects RX5 yX5_placeInRow yX5_placeInRow, .methodLink RX6 186 yX5_watchesOf, .instanceMethod yX5_watchesOf, .selects RX5 yX5_watchesOf yX5_watchesOf, .code yX6_ofProcess cX6_ofProcess 4 (some .int), .methodLink RX6 189 yX2_localAt, .code yX6_local cX6_local 4 (some .int), .fieldLink RX6 192 "MailDen$Box" "tags" "[I", .fieldLink RX6 196 "MailDen$Box" "numbers" "[I", .code yX6_mail cX6_mail 5 (some .int), .fieldLink RX6 202 "MailDen$Proc" "spec" "I", .fieldLink RX6 211 "MailDen$Proc" "children" "[I", .methodLink RX6 199 yX2_isSupervisor, .methodLink RX6 205 yX5_restartsEver, .instanceMethod yX5_restartsEver, .selects RX5 yX5_restartsEver yX5_restartsEver, .methodLink RX6 208 yX5_restartsLately, .code yX6_ofSupervisor cX6_ofSupervisor 4 (some .int), .methodLink RX6 214 yX5_holderOf, .code yX6_named cX6_named 2 (some .int), .fieldLink RX6 229 "MailDen$World" "lost" "I", .fieldLink RX6 232 "MailDen$World" "now" "I", .fieldLink RX6 235 "MailDen$World" "turns" "I", .fieldLink RX6 238 "MailDen$World" "lines" "I", .methodLink RX6 217 yX5_withStatus, .instanceMethod yX5_withStatus, .selects RX5 yX5_withStatus yX5_withStatus, .methodLink RX6 220 yX5_supervisors, .instanceMethod yX5_supervisors, .selects RX5 yX5_supervisors yX5_supervisors, .methodLink RX6 223 yX5_linkCount, .instanceMethod yX5_linkCount, .selects RX5 yX5_linkCount yX5_linkCount, .methodLink RX6 226 yX5_mailCount, .instanceMethod yX5_mailCount, .selects RX5 yX5_mailCount yX5_mailCount]
def wc13 : List Cond := [.code yX6_many cX6_many 2 (some .int), .methodLink RX6 241 yX5_copyFrom, .instanceMethod yX5_copyFrom, .selects RX5 yX5_copyFrom yX5_copyFrom, .methodLink RX6 245 yX5_endedBehind, .instanceMethod yX5_endedBehind, .selects RX5 yX5_endedBehind yX5_endedBehind, .code yX6_wouldFall cX6_wouldFall 3 (some .int), .code yX6_wouldPurge cX6_wouldPurge 2 (some .int), .code yX6_overBy cX6_overBy 5 (some .int), .methodLink RX6 248 yX0_firstOf, .code yX6_passedOver cX6_passedOver 4 (some .int), .constantLong RX6 253 (31), .methodLink RX6 274 yX6_ofProcess, .instanceMethod yX6_ofProcess, .selects RX6 yX6_ofProcess yX6_ofProcess, .methodLink RX6 277 yX6_local, .instanceMethod yX6_local, .selects RX6 yX6_local yX6_local, .methodLink RX6 280 yX6_mail, .instanceMethod yX6_mail, .selects RX6 yX6_mail yX6_mail, .methodLink RX6 283 yX6_ofSupervisor, .instanceMethod yX6_ofSupervisor, .selects RX6 yX6_ofSupervisor yX6_ofSupervisor, .methodLink RX6 286 yX6_wouldFall, .instanceMethod yX6_wouldFall, .selects RX6 yX6_wouldFall yX6_wouldFall, .methodLink RX6 289 yX6_passedOver, .instanceMethod yX6_passedOver, .selects RX6 yX6_passedOver yX6_passedOver, .code yX6_digestOfProcess cX6_digestOfProcess 8 (some .long), .constantLong RX6 251 (58144), .methodLink RX6 255 yX6_many, .instanceMethod yX6_many, .selects RX6 yX6_many yX6_many, .methodLink RX6 258 yX6_ofModule, .instanceMethod yX6_ofModule, .selects RX6 yX6_ofModule yX6_ofModule, .methodLink RX6 261 yX6_wouldPurge]
def wc14 : List Cond := [.instanceMethod yX6_wouldPurge, .selects RX6 yX6_wouldPurge yX6_wouldPurge, .methodLink RX6 264 yX6_digestOfProcess, .instanceMethod yX6_digestOfProcess, .selects RX6 yX6_digestOfProcess yX6_digestOfProcess, .methodLink RX6 268 yX6_named, .instanceMethod yX6_named, .selects RX6 yX6_named yX6_named, .methodLink RX6 271 yX6_overBy, .instanceMethod yX6_overBy, .selects RX6 yX6_overBy yX6_overBy, .code yX6_digest cX6_digest 5 (some .long), .constant RL 7 (2147483647), .code yL_below cL_below 2 (some .int), .constant RL 8 (790386105), .code yL_cell cL_cell 2 (some .int), .classLink RL 63 "[I", .methodLink RL 12 yL_cell, .static yL_cell, .initialized RL, .methodLink RL 18 yL_below, .static yL_below, .methodLink RL 65 yX6_line, .instanceMethod yX6_line, .selects RX6 yX6_line yX6_line, .code yL_write cL_write 10 (some .boolean), .methodLink RL 110 yX6_ofProcess, .code yL_isLost cL_isLost 3 (some .boolean), .methodLink RL 57 yX6_many, .code yL_areOver cL_areOver 3 (some .boolean), .methodLink RL 38 yX6_start, .instanceMethod yX6_start, .selects RX6 yX6_start yX6_start, .methodLink RL 69 yX6_supervise, .instanceMethod yX6_supervise, .selects RX6 yX6_supervise yX6_supervise, .methodLink RL 72 yX6_send, .instanceMethod yX6_send, .selects RX6 yX6_send yX6_send, .methodLink RL 76 yL_isLost]
def wc15 : List Cond := [.static yL_isLost, .methodLink RL 80 yX6_tick, .instanceMethod yX6_tick, .selects RX6 yX6_tick yX6_tick, .methodLink RL 83 yX6_wouldFall, .methodLink RL 86 yX6_signal, .instanceMethod yX6_signal, .selects RX6 yX6_signal yX6_signal, .methodLink RL 89 yJ6_bitCount_0f7a4, .methodLink RL 94 yL_areOver, .static yL_areOver, .methodLink RL 98 yX6_wouldPurge, .methodLink RL 101 yX6_ofModule, .methodLink RL 104 yX6_load, .instanceMethod yX6_load, .selects RX6 yX6_load yX6_load, .methodLink RL 107 yX6_run, .instanceMethod yX6_run, .selects RX6 yX6_run yX6_run, .code yL_isActed cL_isActed 13 (some .boolean), .methodLink RL 119 yX6_ofSupervisor, .code yL_isKnown cL_isKnown 5 (some .boolean), .methodLink RL 113 yL_isKnown, .static yL_isKnown, .methodLink RL 116 yX6_named, .code yL_isSound cL_isSound 8 (some .boolean), .classLink RL 9 RX6, .instantiable RX6 4, .methodLink RL 11 yX6_init, .instanceMethod yX6_init, .methodLink RL 22 yX6_module, .instanceMethod yX6_module, .selects RX6 yX6_module yX6_module, .methodLink RL 26 yL_write, .static yL_write, .methodLink RL 30 yX6_spec, .instanceMethod yX6_spec, .selects RX6 yX6_spec yX6_spec, .methodLink RL 34 yX6_place, .instanceMethod yX6_place]
def wc16 : List Cond := [.selects RX6 yX6_place yX6_place, .methodLink RL 42 yL_isActed, .static yL_isActed, .methodLink RL 46 yL_isSound, .static yL_isSound, .methodLink RL 50 yX6_digest, .instanceMethod yX6_digest, .selects RX6 yX6_digest yX6_digest, .methodLink RL 54 yX6_overBy, .methodLink RL 60 yX6_passedOver]
def WM : List Cond := wc0 ++ (wc1 ++ (wc2 ++ (wc3 ++ (wc4 ++ (wc5 ++ (wc6 ++ (wc7 ++ (wc8 ++ (wc9 ++ (wc10 ++ (wc11 ++ (wc12 ++ (wc13 ++ (wc14 ++ (wc15 ++ (wc16 ++ (wsU0 ++ (wsU1 ++ (wsU2 ++ (wsU3 ++ (wsU4 ++ (wsU5 ++ (wsU6)))))))))))))))))))))))
theorem ic_wc0 : ∀ w ∈ wc0, w ∈ WM := fun w h => List.mem_append_left _ h
theorem ic_wc1 : ∀ w ∈ wc1, w ∈ WM := fun w h => List.mem_append_right _ (List.mem_append_left _ h)
theorem ic_wc2 : ∀ w ∈ wc2, w ∈ WM := fun w h => List.mem_append_right _ (List.mem_append_right _ (List.mem_append_left _ h))
theorem ic_wc3 : ∀ w ∈ wc3, w ∈ WM := fun w h => List.mem_append_right _ (List.mem_append_right _ (List.mem_append_right _ (List.mem_append_left _ h)))
theorem ic_wc4 : ∀ w ∈ wc4, w ∈ WM := fun w h => List.mem_append_right _ (List.mem_append_right _ (List.mem_append_right _ (List.mem_append_right _ (List.mem_append_left _ h))))
theorem ic_wc5 : ∀ w ∈ wc5, w ∈ WM := fun w h => List.mem_append_right _ (List.mem_append_right _ (List.mem_append_right _ (List.mem_append_right _ (List.mem_append_right _ (List.mem_append_left _ h)))))
theorem ic_wc6 : ∀ w ∈ wc6, w ∈ WM := fun w h => List.mem_append_right _ (List.mem_append_right _ (List.mem_append_right _ (List.mem_append_right _ (List.mem_append_right _ (List.mem_append_right _ (List.mem_append_left _ h))))))
theorem ic_wc7 : ∀ w ∈ wc7, w ∈ WM := fun w h => List.mem_append_right _ (List.mem_append_right _ (List.mem_append_right _ (List.mem_append_right _ (List.mem_append_right _ (List.mem_append_right _ (List.mem_append_right _ (List.mem_append_left _ h)))))))
theorem ic_wc8 : ∀ w ∈ wc8, w ∈ WM := fun w h => List.mem_append_right _ (List.mem_append_right _ (List.mem_append_right _ (List.mem_append_right _ (List.mem_append_right _ (List.mem_append_right _ (List.mem_append_right _ (List.mem_append_right _ (List.mem_append_left _ h))))))))
theorem ic_wc9 : ∀ w ∈ wc9, w ∈ WM := fun w h => List.mem_append_right _ (List.mem_append_right _ (List.mem_append_right _ (List.mem_append_right _ (List.mem_append_right _ (List.mem_append_right _ (List.mem_append_right _ (List.mem_append_right _ (List.mem_append_right _ (List.mem_append_left _ h)))))))))
theorem ic_wc10 : ∀ w ∈ wc10, w ∈ WM := fun w h => List.mem_append_right _ (List.mem_append_right _ (List.mem_append_right _ (List.mem_append_right _ (List.mem_append_right _ (List.mem_append_right _ (List.mem_append_right _ (List.mem_append_right _ (List.mem_append_right _ (List.mem_append_right _ (List.mem_append_left _ h))))))))))
theorem ic_wc11 : ∀ w ∈ wc11, w ∈ WM := fun w h => List.mem_append_right _ (List.mem_append_right _ (List.mem_append_right _ (List.mem_append_right _ (List.mem_append_right _ (List.mem_append_right _ (List.mem_append_right _ (List.mem_append_right _ (List.mem_append_right _ (List.mem_append_right _ (List.mem_append_right _ (List.mem_append_left _ h)))))))))))
theorem ic_wc12 : ∀ w ∈ wc12, w ∈ WM := fun w h => List.mem_append_right _ (List.mem_append_right _ (List.mem_append_right _ (List.mem_append_right _ (List.mem_append_right _ (List.mem_append_right _ (List.mem_append_right _ (List.mem_append_right _ (List.mem_append_right _ (List.mem_append_right _ (List.mem_append_right _ (List.mem_append_right _ (List.mem_append_left _ h))))))))))))
theorem ic_wc13 : ∀ w ∈ wc13, w ∈ WM := fun w h => List.mem_append_right _ (List.mem_append_right _ (List.mem_append_right _ (List.mem_append_right _ (List.mem_append_right _ (List.mem_append_right _ (List.mem_append_right _ (List.mem_append_right _ (List.mem_append_right _ (List.mem_append_right _ (List.mem_append_right _ (List.mem_append_right _ (List.mem_append_right _ (List.mem_append_left _ h)))))))))))))
theorem ic_wc14 : ∀ w ∈ wc14, w ∈ WM := fun w h => List.mem_append_right _ (List.mem_append_right _ (List.mem_append_right _ (List.mem_append_right _ (List.mem_append_right _ (List.mem_append_right _ (List.mem_append_right _ (List.mem_append_right _ (List.mem_append_right _ (List.mem_append_right _ (List.mem_append_right _ (List.mem_append_right _ (List.mem_append_right _ (List.mem_append_right _ (List.mem_append_left _ h))))))))))))))
theorem ic_wc15 : ∀ w ∈ wc15, w ∈ WM := fun w h => List.mem_append_right _ (List.mem_append_right _ (List.mem_append_right _ (List.mem_append_right _ (List.mem_append_right _ (List.mem_append_right _ (List.mem_append_right _ (List.mem_append_right _ (List.mem_append_right _ (List.mem_append_right _ (List.mem_append_right _ (List.mem_append_right _ (List.mem_append_right _ (List.mem_append_right _ (List.mem_append_right _ (List.mem_append_left _ h)))))))))))))))
theorem ic_wc16 : ∀ w ∈ wc16, w ∈ WM := fun w h => List.mem_append_right _ (List.mem_append_right _ (List.mem_append_right _ (List.mem_append_right _ (List.mem_append_right _ (List.mem_append_right _ (List.mem_append_right _ (List.mem_append_right _ (List.mem_append_right _ (List.mem_append_right _ (List.mem_append_right _ (List.mem_append_right _ (List.mem_append_right _ (List.mem_append_right _ (List.mem_append_right _ (List.mem_append_right _ (List.mem_append_left _ h))))))))))))))))
theorem ic_wsU0 : ∀ w ∈ wsU0, w ∈ WM := fun w h => List.mem_append_right _ (List.mem_append_right _ (List.mem_append_right _ (List.mem_append_right _ (List.mem_append_right _ (List.mem_append_right _ (List.mem_append_right _ (List.mem_append_right _ (List.mem_append_right _ (List.mem_append_right _ (List.mem_append_right _ (List.mem_append_right _ (List.mem_append_right _ (List.mem_append_right _ (List.mem_append_right _ (List.mem_append_right _ (List.mem_append_right _ (List.mem_append_left _ h)))))))))))))))))
theorem ic_wsU1 : ∀ w ∈ wsU1, w ∈ WM := fun w h => List.mem_append_right _ (List.mem_append_right _ (List.mem_append_right _ (List.mem_append_right _ (List.mem_append_right _ (List.mem_append_right _ (List.mem_append_right _ (List.mem_append_right _ (List.mem_append_right _ (List.mem_append_right _ (List.mem_append_right _ (List.mem_append_right _ (List.mem_append_right _ (List.mem_append_right _ (List.mem_append_right _ (List.mem_append_right _ (List.mem_append_right _ (List.mem_append_right _ (List.mem_append_left _ h))))))))))))))))))
theorem ic_wsU2 : ∀ w ∈ wsU2, w ∈ WM := fun w h => List.mem_append_right _ (List.mem_append_right _ (List.mem_append_right _ (List.mem_append_right _ (List.mem_append_right _ (List.mem_append_right _ (List.mem_append_right _ (List.mem_append_right _ (List.mem_append_right _ (List.mem_append_right _ (List.mem_append_right _ (List.mem_append_right _ (List.mem_append_right _ (List.mem_append_right _ (List.mem_append_right _ (List.mem_append_right _ (List.mem_append_right _ (List.mem_append_right _ (List.mem_append_right _ (List.mem_append_left _ h)))))))))))))))))))
theorem ic_wsU3 : ∀ w ∈ wsU3, w ∈ WM := fun w h => List.mem_append_right _ (List.mem_append_right _ (List.mem_append_right _ (List.mem_append_right _ (List.mem_append_right _ (List.mem_append_right _ (List.mem_append_right _ (List.mem_append_right _ (List.mem_append_right _ (List.mem_append_right _ (List.mem_append_right _ (List.mem_append_right _ (List.mem_append_right _ (List.mem_append_right _ (List.mem_append_right _ (List.mem_append_right _ (List.mem_append_right _ (List.mem_append_right _ (List.mem_append_right _ (List.mem_append_right _ (List.mem_append_left _ h))))))))))))))))))))
theorem ic_wsU4 : ∀ w ∈ wsU4, w ∈ WM := fun w h => List.mem_append_right _ (List.mem_append_right _ (List.mem_append_right _ (List.mem_append_right _ (List.mem_append_right _ (List.mem_append_right _ (List.mem_append_right _ (List.mem_append_right _ (List.mem_append_right _ (List.mem_append_right _ (List.mem_append_right _ (List.mem_append_right _ (List.mem_append_right _ (List.mem_append_right _ (List.mem_append_right _ (List.mem_append_right _ (List.mem_append_right _ (List.mem_append_right _ (List.mem_append_right _ (List.mem_append_right _ (List.mem_append_right _ (List.mem_append_left _ h)))))))))))))))))))))
theorem ic_wsU5 : ∀ w ∈ wsU5, w ∈ WM := fun w h => List.mem_append_right _ (List.mem_append_right _ (List.mem_append_right _ (List.mem_append_right _ (List.mem_append_right _ (List.mem_append_right _ (List.mem_append_right _ (List.mem_append_right _ (List.mem_append_right _ (List.mem_append_right _ (List.mem_append_right _ (List.mem_append_right _ (List.mem_append_right _ (List.mem_append_right _ (List.mem_append_right _ (List.mem_append_right _ (List.mem_append_right _ (List.mem_append_right _ (List.mem_append_right _ (List.mem_append_right _ (List.mem_append_right _ (List.mem_append_right _ (List.mem_append_left _ h))))))))))))))))))))))
theorem ic_wsU6 : ∀ w ∈ wsU6, w ∈ WM := fun w h => List.mem_append_right _ (List.mem_append_right _ (List.mem_append_right _ (List.mem_append_right _ (List.mem_append_right _ (List.mem_append_right _ (List.mem_append_right _ (List.mem_append_right _ (List.mem_append_right _ (List.mem_append_right _ (List.mem_append_right _ (List.mem_append_right _ (List.mem_append_right _ (List.mem_append_right _ (List.mem_append_right _ (List.mem_append_right _ (List.mem_append_right _ (List.mem_append_right _ (List.mem_append_right _ (List.mem_append_right _ (List.mem_append_right _ (List.mem_append_right _ (List.mem_append_right _ (h)))))))))))))))))))))))
set_option maxRecDepth 20000 in
theorem gd_wc0 : wc0.all goodWord = true := by decide +kernel
set_option maxRecDepth 20000 in
theorem gd_wc1 : wc1.all goodWord = true := by decide +kernel
set_option maxRecDepth 20000 in
theorem gd_wc2 : wc2.all goodWord = true := by decide +kernel
set_option maxRecDepth 20000 in
theorem gd_wc3 : wc3.all goodWord = true := by decide +kernel
set_option maxRecDepth 20000 in
theorem gd_wc4 : wc4.all goodWord = true := by decide +kernel
set_option maxRecDepth 20000 in
theorem gd_wc5 : wc5.all goodWord = true := by decide +kernel
set_option maxRecDepth 20000 in
theorem gd_wc6 : wc6.all goodWord = true := by decide +kernel
set_option maxRecDepth 20000 in
theorem gd_wc7 : wc7.all goodWord = true := by decide +kernel
set_option maxRecDepth 20000 in
theorem gd_wc8 : wc8.all goodWord = true := by decide +kernel
set_option maxRecDepth 20000 in
theorem gd_wc9 : wc9.all goodWord = true := by decide +kernel
set_option maxRecDepth 20000 in
theorem gd_wc10 : wc10.all goodWord = true := by decide +kernel
set_option maxRecDepth 20000 in
theorem gd_wc11 : wc11.all goodWord = true := by decide +kernel
set_option maxRecDepth 20000 in
theorem gd_wc12 : wc12.all goodWord = true := by decide +kernel
set_option maxRecDepth 20000 in
theorem gd_wc13 : wc13.all goodWord = true := by decide +kernel
set_option maxRecDepth 20000 in
theorem gd_wc14 : wc14.all goodWord = true := by decide +kernel
set_option maxRecDepth 20000 in
theorem gd_wc15 : wc15.all goodWord = true := by decide +kernel
set_option maxRecDepth 20000 in
theorem gd_wc16 : wc16.all goodWord = true := by decide +kernel
set_option maxRecDepth 20000 in
theorem gd_wsU0 : wsU0.all goodWord = true := by decide +kernel
set_option maxRecDepth 20000 in
theorem gd_wsU1 : wsU1.all goodWord = true := by decide +kernel
set_option maxRecDepth 20000 in
theorem gd_wsU2 : wsU2.all goodWord = true := by decide +kernel
set_option maxRecDepth 20000 in
theorem gd_wsU3 : wsU3.all goodWord = true := by decide +kernel
set_option maxRecDepth 20000 in
theorem gd_wsU4 : wsU4.all goodWord = true := by decide +kernel
set_option maxRecDepth 20000 in
theorem gd_wsU5 : wsU5.all goodWord = true := by decide +kernel
set_option maxRecDepth 20000 in
theorem gd_wsU6 : wsU6.all goodWord = true := by decide +kernel
theorem ge_wc0 : ∀ w ∈ wc0, goodWord w = true := fun w h => List.all_eq_true.mp gd_wc0 w h
theorem ge_wc1 : ∀ w ∈ wc1, goodWord w = true := fun w h => List.all_eq_true.mp gd_wc1 w h
theorem ge_wc2 : ∀ w ∈ wc2, goodWord w = true := fun w h => List.all_eq_true.mp gd_wc2 w h
theorem ge_wc3 : ∀ w ∈ wc3, goodWord w = true := fun w h => List.all_eq_true.mp gd_wc3 w h
theorem ge_wc4 : ∀ w ∈ wc4, goodWord w = true := fun w h => List.all_eq_true.mp gd_wc4 w h
theorem ge_wc5 : ∀ w ∈ wc5, goodWord w = true := fun w h => List.all_eq_true.mp gd_wc5 w h
theorem ge_wc6 : ∀ w ∈ wc6, goodWord w = true := fun w h => List.all_eq_true.mp gd_wc6 w h
theorem ge_wc7 : ∀ w ∈ wc7, goodWord w = true := fun w h => List.all_eq_true.mp gd_wc7 w h
theorem ge_wc8 : ∀ w ∈ wc8, goodWord w = true := fun w h => List.all_eq_true.mp gd_wc8 w h
theorem ge_wc9 : ∀ w ∈ wc9, goodWord w = true := fun w h => List.all_eq_true.mp gd_wc9 w h
theorem ge_wc10 : ∀ w ∈ wc10, goodWord w = true := fun w h => List.all_eq_true.mp gd_wc10 w h
theorem ge_wc11 : ∀ w ∈ wc11, goodWord w = true := fun w h => List.all_eq_true.mp gd_wc11 w h
theorem ge_wc12 : ∀ w ∈ wc12, goodWord w = true := fun w h => List.all_eq_true.mp gd_wc12 w h
theorem ge_wc13 : ∀ w ∈ wc13, goodWord w = true := fun w h => List.all_eq_true.mp gd_wc13 w h
theorem ge_wc14 : ∀ w ∈ wc14, goodWord w = true := fun w h => List.all_eq_true.mp gd_wc14 w h
theorem ge_wc15 : ∀ w ∈ wc15, goodWord w = true := fun w h => List.all_eq_true.mp gd_wc15 w h
theorem ge_wc16 : ∀ w ∈ wc16, goodWord w = true := fun w h => List.all_eq_true.mp gd_wc16 w h
theorem ge_wsU0 : ∀ w ∈ wsU0, goodWord w = true := fun w h => List.all_eq_true.mp gd_wsU0 w h
theorem ge_wsU1 : ∀ w ∈ wsU1, goodWord w = true := fun w h => List.all_eq_true.mp gd_wsU1 w h
theorem ge_wsU2 : ∀ w ∈ wsU2, goodWord w = true := fun w h => List.all_eq_true.mp gd_wsU2 w h
theorem ge_wsU3 : ∀ w ∈ wsU3, goodWord w = true := fun w h => List.all_eq_true.mp gd_wsU3 w h
theorem ge_wsU4 : ∀ w ∈ wsU4, goodWord w = true := fun w h => List.all_eq_true.mp gd_wsU4 w h
theorem ge_wsU5 : ∀ w ∈ wsU5, goodWord w = true := fun w h => List.all_eq_true.mp gd_wsU5 w h
theorem ge_wsU6 : ∀ w ∈ wsU6, goodWord w = true := fun w h => List.all_eq_true.mp gd_wsU6 w h
theorem gd_WM : ∀ w ∈ WM, goodWord w = true := by
  intro w h
  rcases List.mem_append.mp h with h | h
  · exact ge_wc0 w h
  rcases List.mem_append.mp h with h | h
  · exact ge_wc1 w h
  rcases List.mem_append.mp h with h | h
  · exact ge_wc2 w h
  rcases List.mem_append.mp h with h | h
  · exact ge_wc3 w h
  rcases List.mem_append.mp h with h | h
  · exact ge_wc4 w h
  rcases List.mem_append.mp h with h | h
  · exact ge_wc5 w h
  rcases List.mem_append.mp h with h | h
  · exact ge_wc6 w h
  rcases List.mem_append.mp h with h | h
  · exact ge_wc7 w h
  rcases List.mem_append.mp h with h | h
  · exact ge_wc8 w h
  rcases List.mem_append.mp h with h | h
  · exact ge_wc9 w h
  rcases List.mem_append.mp h with h | h
  · exact ge_wc10 w h
  rcases List.mem_append.mp h with h | h
  · exact ge_wc11 w h
  rcases List.mem_append.mp h with h | h
  · exact ge_wc12 w h
  rcases List.mem_append.mp h with h | h
  · exact ge_wc13 w h
  rcases List.mem_append.mp h with h | h
  · exact ge_wc14 w h
  rcases List.mem_append.mp h with h | h
  · exact ge_wc15 w h
  rcases List.mem_append.mp h with h | h
  · exact ge_wc16 w h
  rcases List.mem_append.mp h with h | h
  · exact ge_wsU0 w h
  rcases List.mem_append.mp h with h | h
  · exact ge_wsU1 w h
  rcases List.mem_append.mp h with h | h
  · exact ge_wsU2 w h
  rcases List.mem_append.mp h with h | h
  · exact ge_wsU3 w h
  rcases List.mem_append.mp h with h | h
  · exact ge_wsU4 w h
  rcases List.mem_append.mp h with h | h
  · exact ge_wsU5 w h
  exact ge_wsU6 w h
theorem qw_0 : (.methodLink RX0 3 objectInit : Cond) ∈ WM := ic_wc0 _ (List.mem_of_getElem? (i := 0) rfl)
theorem qw_1 : (.instanceMethod objectInit : Cond) ∈ WM := ic_wc0 _ (List.mem_of_getElem? (i := 1) rfl)
theorem qw_2 : (.code objectInit ⟨#[0xb1]⟩ 1 none : Cond) ∈ WM := ic_wc0 _ (List.mem_of_getElem? (i := 2) rfl)
theorem qw_3 : (.arrayClass .int : Cond) ∈ WM := ic_wc0 _ (List.mem_of_getElem? (i := 3) rfl)
theorem qw_4 : (.fieldLink RX0 9 "MailDen$Box" "tags" "[I" : Cond) ∈ WM := ic_wc0 _ (List.mem_of_getElem? (i := 4) rfl)
theorem qw_5 : (.fieldLink RX0 15 "MailDen$Box" "numbers" "[I" : Cond) ∈ WM := ic_wc0 _ (List.mem_of_getElem? (i := 5) rfl)
theorem qw_6 : (.code yX0_init cX0_init 1 none : Cond) ∈ WM := ic_wc0 _ (List.mem_of_getElem? (i := 6) rfl)
theorem qw_7 : (.fieldLink RX0 18 "MailDen$Box" "count" "I" : Cond) ∈ WM := ic_wc0 _ (List.mem_of_getElem? (i := 7) rfl)
theorem qw_8 : (.code yX0_put cX0_put 3 (some .boolean) : Cond) ∈ WM := ic_wc0 _ (List.mem_of_getElem? (i := 8) rfl)
theorem qw_9 : (.code yX0_firstOf cX0_firstOf 3 (some .int) : Cond) ∈ WM := ic_wc0 _ (List.mem_of_getElem? (i := 9) rfl)
theorem qw_10 : (.code yX6_isWithin cX6_isWithin 3 (some .boolean) : Cond) ∈ WM := ic_wc0 _ (List.mem_of_getElem? (i := 10) rfl)
theorem qw_11 : (.static yX6_isWithin : Cond) ∈ WM := ic_wc0 _ (List.mem_of_getElem? (i := 11) rfl)
theorem qw_12 : (.initialized RX6 : Cond) ∈ WM := ic_wc0 _ (List.mem_of_getElem? (i := 12) rfl)
theorem qw_13 : (.code yX0_takeOut cX0_takeOut 4 (some .int) : Cond) ∈ WM := ic_wc0 _ (List.mem_of_getElem? (i := 13) rfl)
theorem qw_14 : (.methodLink RX0 26 arraycopyName : Cond) ∈ WM := ic_wc0 _ (List.mem_of_getElem? (i := 14) rfl)
theorem qw_15 : (.native arraycopyName : Cond) ∈ WM := ic_wc0 _ (List.mem_of_getElem? (i := 15) rfl)
theorem qw_16 : (.static arraycopyName : Cond) ∈ WM := ic_wc0 _ (List.mem_of_getElem? (i := 16) rfl)
theorem qw_17 : (.initialized "java/lang/System" : Cond) ∈ WM := ic_wc0 _ (List.mem_of_getElem? (i := 17) rfl)
theorem qw_18 : (.code yX0_copyFrom cX0_copyFrom 2 none : Cond) ∈ WM := ic_wc0 _ (List.mem_of_getElem? (i := 18) rfl)
theorem qw_19 : (.methodLink RX1 3 objectInit : Cond) ∈ WM := ic_wc0 _ (List.mem_of_getElem? (i := 19) rfl)
theorem qw_20 : (.fieldLink RX1 9 "MailDen$Codes" "lineCounts" "[I" : Cond) ∈ WM := ic_wc0 _ (List.mem_of_getElem? (i := 20) rfl)
theorem qw_21 : (.fieldLink RX1 15 "MailDen$Codes" "kinds" "[I" : Cond) ∈ WM := ic_wc0 _ (List.mem_of_getElem? (i := 21) rfl)
theorem qw_22 : (.fieldLink RX1 18 "MailDen$Codes" "as" "[I" : Cond) ∈ WM := ic_wc0 _ (List.mem_of_getElem? (i := 22) rfl)
theorem qw_23 : (.fieldLink RX1 21 "MailDen$Codes" "bs" "[I" : Cond) ∈ WM := ic_wc0 _ (List.mem_of_getElem? (i := 23) rfl)
theorem qw_24 : (.code yX1_init cX1_init 1 none : Cond) ∈ WM := ic_wc0 _ (List.mem_of_getElem? (i := 24) rfl)
theorem qw_25 : (.fieldLink RX1 24 "MailDen$Codes" "modules" "I" : Cond) ∈ WM := ic_wc0 _ (List.mem_of_getElem? (i := 25) rfl)
theorem qw_26 : (.code yX1_hasModule cX1_hasModule 2 (some .boolean) : Cond) ∈ WM := ic_wc0 _ (List.mem_of_getElem? (i := 26) rfl)
theorem qw_27 : (.methodLink RX1 28 yX1_hasModule : Cond) ∈ WM := ic_wc0 _ (List.mem_of_getElem? (i := 27) rfl)
theorem qw_28 : (.instanceMethod yX1_hasModule : Cond) ∈ WM := ic_wc0 _ (List.mem_of_getElem? (i := 28) rfl)
theorem qw_29 : (.selects RX1 yX1_hasModule yX1_hasModule : Cond) ∈ WM := ic_wc0 _ (List.mem_of_getElem? (i := 29) rfl)
theorem qw_30 : (.initialized RX1 : Cond) ∈ WM := ic_wc0 _ (List.mem_of_getElem? (i := 30) rfl)
theorem qw_31 : (.code yX1_rowOf cX1_rowOf 3 (some .int) : Cond) ∈ WM := ic_wc0 _ (List.mem_of_getElem? (i := 31) rfl)
theorem qw_32 : (.methodLink RX1 36 yX1_rowOf : Cond) ∈ WM := ic_wc0 _ (List.mem_of_getElem? (i := 32) rfl)
theorem qw_33 : (.instanceMethod yX1_rowOf : Cond) ∈ WM := ic_wc0 _ (List.mem_of_getElem? (i := 33) rfl)
theorem qw_34 : (.selects RX1 yX1_rowOf yX1_rowOf : Cond) ∈ WM := ic_wc0 _ (List.mem_of_getElem? (i := 34) rfl)
theorem qw_35 : (.code yX1_linesOf cX1_linesOf 4 (some .int) : Cond) ∈ WM := ic_wc0 _ (List.mem_of_getElem? (i := 35) rfl)
theorem qw_36 : (.code yX1_lineAt cX1_lineAt 5 (some .int) : Cond) ∈ WM := ic_wc0 _ (List.mem_of_getElem? (i := 36) rfl)
theorem qw_37 : (.code yX1_isLine cX1_isLine 7 (some .boolean) : Cond) ∈ WM := ic_wc0 _ (List.mem_of_getElem? (i := 37) rfl)
theorem qw_38 : (.code yX1_addLine cX1_addLine 9 (some .int) : Cond) ∈ WM := ic_wc0 _ (List.mem_of_getElem? (i := 38) rfl)
theorem qw_39 : (.methodLink RX4 3 objectInit : Cond) ∈ WM := ic_wc0 _ (List.mem_of_getElem? (i := 39) rfl)
theorem qw_40 : (.fieldLink RX4 9 "MailDen$Watches" "watchers" "[I" : Cond) ∈ WM := ic_wc1 _ (List.mem_of_getElem? (i := 0) rfl)
theorem qw_41 : (.fieldLink RX4 15 "MailDen$Watches" "times" "[I" : Cond) ∈ WM := ic_wc1 _ (List.mem_of_getElem? (i := 1) rfl)
theorem qw_42 : (.code yX4_init cX4_init 1 none : Cond) ∈ WM := ic_wc1 _ (List.mem_of_getElem? (i := 2) rfl)
theorem qw_43 : (.methodLink RX2 3 objectInit : Cond) ∈ WM := ic_wc1 _ (List.mem_of_getElem? (i := 3) rfl)
theorem qw_44 : (.fieldLink RX2 9 "MailDen$Proc" "module" "I" : Cond) ∈ WM := ic_wc1 _ (List.mem_of_getElem? (i := 4) rfl)
theorem qw_45 : (.fieldLink RX2 15 "MailDen$Proc" "version" "I" : Cond) ∈ WM := ic_wc1 _ (List.mem_of_getElem? (i := 5) rfl)
theorem qw_46 : (.fieldLink RX2 18 "MailDen$Proc" "spec" "I" : Cond) ∈ WM := ic_wc1 _ (List.mem_of_getElem? (i := 6) rfl)
theorem qw_47 : (.fieldLink RX2 21 "MailDen$Proc" "parent" "I" : Cond) ∈ WM := ic_wc1 _ (List.mem_of_getElem? (i := 7) rfl)
theorem qw_48 : (.fieldLink RX2 24 "MailDen$Proc" "status" "I" : Cond) ∈ WM := ic_wc1 _ (List.mem_of_getElem? (i := 8) rfl)
theorem qw_49 : (.fieldLink RX2 27 "MailDen$Proc" "reason" "I" : Cond) ∈ WM := ic_wc1 _ (List.mem_of_getElem? (i := 9) rfl)
theorem qw_50 : (.fieldLink RX2 30 "MailDen$Proc" "until" "I" : Cond) ∈ WM := ic_wc1 _ (List.mem_of_getElem? (i := 10) rfl)
theorem qw_51 : (.fieldLink RX2 33 "MailDen$Proc" "wait" "I" : Cond) ∈ WM := ic_wc1 _ (List.mem_of_getElem? (i := 11) rfl)
theorem qw_52 : (.fieldLink RX2 36 "MailDen$Proc" "locals" "[I" : Cond) ∈ WM := ic_wc1 _ (List.mem_of_getElem? (i := 12) rfl)
theorem qw_53 : (.fieldLink RX2 40 "MailDen$Proc" "children" "[I" : Cond) ∈ WM := ic_wc1 _ (List.mem_of_getElem? (i := 13) rfl)
theorem qw_54 : (.classLink RX2 43 RX0 : Cond) ∈ WM := ic_wc1 _ (List.mem_of_getElem? (i := 14) rfl)
theorem qw_55 : (.instantiable RX0 3 : Cond) ∈ WM := ic_wc1 _ (List.mem_of_getElem? (i := 15) rfl)
theorem qw_56 : (.initialized RX0 : Cond) ∈ WM := ic_wc1 _ (List.mem_of_getElem? (i := 16) rfl)
theorem qw_57 : (.fieldLink RX2 46 "MailDen$Proc" "box" "LMailDen$Box;" : Cond) ∈ WM := ic_wc1 _ (List.mem_of_getElem? (i := 17) rfl)
theorem qw_58 : (.classLink RX2 50 RX4 : Cond) ∈ WM := ic_wc1 _ (List.mem_of_getElem? (i := 18) rfl)
theorem qw_59 : (.instantiable RX4 3 : Cond) ∈ WM := ic_wc1 _ (List.mem_of_getElem? (i := 19) rfl)
theorem qw_60 : (.initialized RX4 : Cond) ∈ WM := ic_wc1 _ (List.mem_of_getElem? (i := 20) rfl)
theorem qw_61 : (.fieldLink RX2 53 "MailDen$Proc" "watches" "LMailDen$Watches;" : Cond) ∈ WM := ic_wc1 _ (List.mem_of_getElem? (i := 21) rfl)
theorem qw_62 : (.fieldLink RX2 57 "MailDen$Proc" "number" "I" : Cond) ∈ WM := ic_wc1 _ (List.mem_of_getElem? (i := 22) rfl)
theorem qw_63 : (.instanceMethod yX0_init : Cond) ∈ WM := ic_wc1 _ (List.mem_of_getElem? (i := 23) rfl)
theorem qw_64 : (.instanceMethod yX4_init : Cond) ∈ WM := ic_wc1 _ (List.mem_of_getElem? (i := 24) rfl)
theorem qw_65 : (.methodLink RX2 60 yJ7_fill_53178 : Cond) ∈ WM := ic_wc1 _ (List.mem_of_getElem? (i := 25) rfl)
theorem qw_66 : (.static yJ7_fill_53178 : Cond) ∈ WM := ic_wc1 _ (List.mem_of_getElem? (i := 26) rfl)
theorem qw_67 : (.initialized RJ7 : Cond) ∈ WM := ic_wc1 _ (List.mem_of_getElem? (i := 27) rfl)
theorem qw_68 : (.code yJ7_fill_53178 cJ7_fill_53178 4 none : Cond) ∈ WM := ic_wc1 _ (List.mem_of_getElem? (i := 28) rfl)
theorem qw_69 : (.code yX2_init cX2_init 2 none : Cond) ∈ WM := ic_wc1 _ (List.mem_of_getElem? (i := 29) rfl)
theorem qw_70 : (.methodLink RX4 22 arraycopyName : Cond) ∈ WM := ic_wc1 _ (List.mem_of_getElem? (i := 30) rfl)
theorem qw_71 : (.fieldLink RX4 18 "MailDen$Watches" "count" "I" : Cond) ∈ WM := ic_wc1 _ (List.mem_of_getElem? (i := 31) rfl)
theorem qw_72 : (.code yX4_copyFrom cX4_copyFrom 2 none : Cond) ∈ WM := ic_wc1 _ (List.mem_of_getElem? (i := 32) rfl)
theorem qw_73 : (.fieldLink RX2 66 "MailDen$Proc" "there" "I" : Cond) ∈ WM := ic_wc1 _ (List.mem_of_getElem? (i := 33) rfl)
theorem qw_74 : (.fieldLink RX2 69 "MailDen$Proc" "line" "I" : Cond) ∈ WM := ic_wc1 _ (List.mem_of_getElem? (i := 34) rfl)
theorem qw_75 : (.fieldLink RX2 72 "MailDen$Proc" "ticket" "I" : Cond) ∈ WM := ic_wc1 _ (List.mem_of_getElem? (i := 35) rfl)
theorem qw_76 : (.fieldLink RX2 75 "MailDen$Proc" "traps" "Z" : Cond) ∈ WM := ic_wc1 _ (List.mem_of_getElem? (i := 36) rfl)
theorem qw_77 : (.fieldLink RX2 79 "MailDen$Proc" "links" "I" : Cond) ∈ WM := ic_wc1 _ (List.mem_of_getElem? (i := 37) rfl)
theorem qw_78 : (.fieldLink RX2 82 "MailDen$Proc" "emptyPlaces" "I" : Cond) ∈ WM := ic_wc1 _ (List.mem_of_getElem? (i := 38) rfl)
theorem qw_79 : (.methodLink RX2 85 arraycopyName : Cond) ∈ WM := ic_wc1 _ (List.mem_of_getElem? (i := 39) rfl)
theorem qw_80 : (.methodLink RX2 91 yX0_copyFrom : Cond) ∈ WM := ic_wc2 _ (List.mem_of_getElem? (i := 0) rfl)
theorem qw_81 : (.instanceMethod yX0_copyFrom : Cond) ∈ WM := ic_wc2 _ (List.mem_of_getElem? (i := 1) rfl)
theorem qw_82 : (.selects RX0 yX0_copyFrom yX0_copyFrom : Cond) ∈ WM := ic_wc2 _ (List.mem_of_getElem? (i := 2) rfl)
theorem qw_83 : (.methodLink RX2 95 yX4_copyFrom : Cond) ∈ WM := ic_wc2 _ (List.mem_of_getElem? (i := 3) rfl)
theorem qw_84 : (.instanceMethod yX4_copyFrom : Cond) ∈ WM := ic_wc2 _ (List.mem_of_getElem? (i := 4) rfl)
theorem qw_85 : (.selects RX4 yX4_copyFrom yX4_copyFrom : Cond) ∈ WM := ic_wc2 _ (List.mem_of_getElem? (i := 5) rfl)
theorem qw_86 : (.code yX2_copyFrom cX2_copyFrom 2 none : Cond) ∈ WM := ic_wc2 _ (List.mem_of_getElem? (i := 6) rfl)
theorem qw_87 : (.code yX2_isSupervisor cX2_isSupervisor 1 (some .boolean) : Cond) ∈ WM := ic_wc2 _ (List.mem_of_getElem? (i := 7) rfl)
theorem qw_88 : (.code yX2_isLinkedWith cX2_isLinkedWith 2 (some .boolean) : Cond) ∈ WM := ic_wc2 _ (List.mem_of_getElem? (i := 8) rfl)
theorem qw_89 : (.code yX2_isEmptyPlace cX2_isEmptyPlace 2 (some .boolean) : Cond) ∈ WM := ic_wc2 _ (List.mem_of_getElem? (i := 9) rfl)
theorem qw_90 : (.code yX2_localAt cX2_localAt 2 (some .int) : Cond) ∈ WM := ic_wc2 _ (List.mem_of_getElem? (i := 10) rfl)
theorem qw_91 : (.code yX2_putLocal cX2_putLocal 3 none : Cond) ∈ WM := ic_wc2 _ (List.mem_of_getElem? (i := 11) rfl)
theorem qw_92 : (.methodLink RX2 102 Lib.Math.min.name : Cond) ∈ WM := ic_wc2 _ (List.mem_of_getElem? (i := 12) rfl)
theorem qw_93 : (.static Lib.Math.min.name : Cond) ∈ WM := ic_wc2 _ (List.mem_of_getElem? (i := 13) rfl)
theorem qw_94 : (.initialized "java/lang/Math" : Cond) ∈ WM := ic_wc2 _ (List.mem_of_getElem? (i := 14) rfl)
theorem qw_95 : (.code Lib.Math.min.name Lib.Math.min.code 2 (some .int) : Cond) ∈ WM := ic_wc2 _ (List.mem_of_getElem? (i := 15) rfl)
theorem qw_96 : (.methodLink RX2 108 Lib.Math.max.name : Cond) ∈ WM := ic_wc2 _ (List.mem_of_getElem? (i := 16) rfl)
theorem qw_97 : (.static Lib.Math.max.name : Cond) ∈ WM := ic_wc2 _ (List.mem_of_getElem? (i := 17) rfl)
theorem qw_98 : (.code Lib.Math.max.name Lib.Math.max.code 2 (some .int) : Cond) ∈ WM := ic_wc2 _ (List.mem_of_getElem? (i := 18) rfl)
theorem qw_99 : (.code yX2_hold cX2_hold 2 none : Cond) ∈ WM := ic_wc2 _ (List.mem_of_getElem? (i := 19) rfl)
theorem qw_100 : (.methodLink RX2 111 yX0_firstOf : Cond) ∈ WM := ic_wc2 _ (List.mem_of_getElem? (i := 20) rfl)
theorem qw_101 : (.instanceMethod yX0_firstOf : Cond) ∈ WM := ic_wc2 _ (List.mem_of_getElem? (i := 21) rfl)
theorem qw_102 : (.selects RX0 yX0_firstOf yX0_firstOf : Cond) ∈ WM := ic_wc2 _ (List.mem_of_getElem? (i := 22) rfl)
theorem qw_103 : (.methodLink RX2 115 yX0_takeOut : Cond) ∈ WM := ic_wc2 _ (List.mem_of_getElem? (i := 23) rfl)
theorem qw_104 : (.instanceMethod yX0_takeOut : Cond) ∈ WM := ic_wc2 _ (List.mem_of_getElem? (i := 24) rfl)
theorem qw_105 : (.selects RX0 yX0_takeOut yX0_takeOut : Cond) ∈ WM := ic_wc2 _ (List.mem_of_getElem? (i := 25) rfl)
theorem qw_106 : (.methodLink RX2 118 yX2_hold : Cond) ∈ WM := ic_wc2 _ (List.mem_of_getElem? (i := 26) rfl)
theorem qw_107 : (.instanceMethod yX2_hold : Cond) ∈ WM := ic_wc2 _ (List.mem_of_getElem? (i := 27) rfl)
theorem qw_108 : (.selects RX2 yX2_hold yX2_hold : Cond) ∈ WM := ic_wc2 _ (List.mem_of_getElem? (i := 28) rfl)
theorem qw_109 : (.initialized RX2 : Cond) ∈ WM := ic_wc2 _ (List.mem_of_getElem? (i := 29) rfl)
theorem qw_110 : (.code yX2_takeMail cX2_takeMail 3 (some .boolean) : Cond) ∈ WM := ic_wc2 _ (List.mem_of_getElem? (i := 30) rfl)
theorem qw_111 : (.code yX2_waitFor cX2_waitFor 3 none : Cond) ∈ WM := ic_wc2 _ (List.mem_of_getElem? (i := 31) rfl)
theorem qw_112 : (.code yX2_waitsForMail cX2_waitsForMail 2 (some .boolean) : Cond) ∈ WM := ic_wc2 _ (List.mem_of_getElem? (i := 32) rfl)
theorem qw_113 : (.methodLink RX2 122 yX2_takeMail : Cond) ∈ WM := ic_wc2 _ (List.mem_of_getElem? (i := 33) rfl)
theorem qw_114 : (.instanceMethod yX2_takeMail : Cond) ∈ WM := ic_wc2 _ (List.mem_of_getElem? (i := 34) rfl)
theorem qw_115 : (.selects RX2 yX2_takeMail yX2_takeMail : Cond) ∈ WM := ic_wc2 _ (List.mem_of_getElem? (i := 35) rfl)
theorem qw_116 : (.code yX2_resume cX2_resume 1 none : Cond) ∈ WM := ic_wc2 _ (List.mem_of_getElem? (i := 36) rfl)
theorem qw_117 : (.code yX2_placeOf cX2_placeOf 3 (some .int) : Cond) ∈ WM := ic_wc2 _ (List.mem_of_getElem? (i := 37) rfl)
theorem qw_118 : (.methodLink RX3 3 objectInit : Cond) ∈ WM := ic_wc2 _ (List.mem_of_getElem? (i := 38) rfl)
theorem qw_119 : (.fieldLink RX3 9 "MailDen$Specs" "strategies" "[I" : Cond) ∈ WM := ic_wc2 _ (List.mem_of_getElem? (i := 39) rfl)
theorem qw_120 : (.fieldLink RX3 15 "MailDen$Specs" "mosts" "[I" : Cond) ∈ WM := ic_wc3 _ (List.mem_of_getElem? (i := 0) rfl)
theorem qw_121 : (.fieldLink RX3 18 "MailDen$Specs" "withins" "[I" : Cond) ∈ WM := ic_wc3 _ (List.mem_of_getElem? (i := 1) rfl)
theorem qw_122 : (.fieldLink RX3 21 "MailDen$Specs" "placeCounts" "[I" : Cond) ∈ WM := ic_wc3 _ (List.mem_of_getElem? (i := 2) rfl)
theorem qw_123 : (.arrayClass .boolean : Cond) ∈ WM := ic_wc3 _ (List.mem_of_getElem? (i := 3) rfl)
theorem qw_124 : (.fieldLink RX3 24 "MailDen$Specs" "ofSpecs" "[Z" : Cond) ∈ WM := ic_wc3 _ (List.mem_of_getElem? (i := 4) rfl)
theorem qw_125 : (.fieldLink RX3 28 "MailDen$Specs" "numbers" "[I" : Cond) ∈ WM := ic_wc3 _ (List.mem_of_getElem? (i := 5) rfl)
theorem qw_126 : (.fieldLink RX3 31 "MailDen$Specs" "modes" "[I" : Cond) ∈ WM := ic_wc3 _ (List.mem_of_getElem? (i := 6) rfl)
theorem qw_127 : (.code yX3_init cX3_init 1 none : Cond) ∈ WM := ic_wc3 _ (List.mem_of_getElem? (i := 7) rfl)
theorem qw_128 : (.fieldLink RX3 34 "MailDen$Specs" "count" "I" : Cond) ∈ WM := ic_wc3 _ (List.mem_of_getElem? (i := 8) rfl)
theorem qw_129 : (.code yX3_hasSpec cX3_hasSpec 2 (some .boolean) : Cond) ∈ WM := ic_wc3 _ (List.mem_of_getElem? (i := 9) rfl)
theorem qw_130 : (.methodLink RX3 38 yX3_hasSpec : Cond) ∈ WM := ic_wc3 _ (List.mem_of_getElem? (i := 10) rfl)
theorem qw_131 : (.instanceMethod yX3_hasSpec : Cond) ∈ WM := ic_wc3 _ (List.mem_of_getElem? (i := 11) rfl)
theorem qw_132 : (.selects RX3 yX3_hasSpec yX3_hasSpec : Cond) ∈ WM := ic_wc3 _ (List.mem_of_getElem? (i := 12) rfl)
theorem qw_133 : (.initialized RX3 : Cond) ∈ WM := ic_wc3 _ (List.mem_of_getElem? (i := 13) rfl)
theorem qw_134 : (.code yX3_placesOf cX3_placesOf 2 (some .int) : Cond) ∈ WM := ic_wc3 _ (List.mem_of_getElem? (i := 14) rfl)
theorem qw_135 : (.code yX3_placeAt cX3_placeAt 3 (some .int) : Cond) ∈ WM := ic_wc3 _ (List.mem_of_getElem? (i := 15) rfl)
theorem qw_136 : (.code yX3_addSpec cX3_addSpec 5 (some .int) : Cond) ∈ WM := ic_wc3 _ (List.mem_of_getElem? (i := 16) rfl)
theorem qw_137 : (.code yX3_addPlace cX3_addPlace 7 (some .int) : Cond) ∈ WM := ic_wc3 _ (List.mem_of_getElem? (i := 17) rfl)
theorem qw_138 : (.code yX4_add cX4_add 3 none : Cond) ∈ WM := ic_wc3 _ (List.mem_of_getElem? (i := 18) rfl)
theorem qw_139 : (.methodLink RX5 3 objectInit : Cond) ∈ WM := ic_wc3 _ (List.mem_of_getElem? (i := 19) rfl)
theorem qw_140 : (.fieldLink RX5 9 "MailDen$World" "current" "[I" : Cond) ∈ WM := ic_wc3 _ (List.mem_of_getElem? (i := 20) rfl)
theorem qw_141 : (.fieldLink RX5 15 "MailDen$World" "names" "[I" : Cond) ∈ WM := ic_wc3 _ (List.mem_of_getElem? (i := 21) rfl)
theorem qw_142 : (.classLink RX5 18 RX2 : Cond) ∈ WM := ic_wc3 _ (List.mem_of_getElem? (i := 22) rfl)
theorem qw_143 : (.fieldLink RX5 20 "MailDen$World" "procs" "[LMailDen$Proc;" : Cond) ∈ WM := ic_wc3 _ (List.mem_of_getElem? (i := 23) rfl)
theorem qw_144 : (.fieldLink RX5 24 "MailDen$World" "ended" "[I" : Cond) ∈ WM := ic_wc3 _ (List.mem_of_getElem? (i := 24) rfl)
theorem qw_145 : (.fieldLink RX5 27 "MailDen$World" "restartOf" "[I" : Cond) ∈ WM := ic_wc3 _ (List.mem_of_getElem? (i := 25) rfl)
theorem qw_146 : (.fieldLink RX5 30 "MailDen$World" "restartAt" "[I" : Cond) ∈ WM := ic_wc3 _ (List.mem_of_getElem? (i := 26) rfl)
theorem qw_147 : (.fieldLink RX5 33 "MailDen$World" "codes" "LMailDen$Codes;" : Cond) ∈ WM := ic_wc3 _ (List.mem_of_getElem? (i := 27) rfl)
theorem qw_148 : (.fieldLink RX5 37 "MailDen$World" "specs" "LMailDen$Specs;" : Cond) ∈ WM := ic_wc3 _ (List.mem_of_getElem? (i := 28) rfl)
theorem qw_149 : (.instantiable RX2 19 : Cond) ∈ WM := ic_wc3 _ (List.mem_of_getElem? (i := 29) rfl)
theorem qw_150 : (.methodLink RX5 41 yJ7_fill_53178 : Cond) ∈ WM := ic_wc3 _ (List.mem_of_getElem? (i := 30) rfl)
theorem qw_151 : (.methodLink RX5 47 yX2_init : Cond) ∈ WM := ic_wc3 _ (List.mem_of_getElem? (i := 31) rfl)
theorem qw_152 : (.instanceMethod yX2_init : Cond) ∈ WM := ic_wc3 _ (List.mem_of_getElem? (i := 32) rfl)
theorem qw_153 : (.code yX5_init cX5_init 4 none : Cond) ∈ WM := ic_wc3 _ (List.mem_of_getElem? (i := 33) rfl)
theorem qw_154 : (.methodLink RX5 50 arraycopyName : Cond) ∈ WM := ic_wc3 _ (List.mem_of_getElem? (i := 34) rfl)
theorem qw_155 : (.fieldLink RX5 56 "MailDen$World" "count" "I" : Cond) ∈ WM := ic_wc3 _ (List.mem_of_getElem? (i := 35) rfl)
theorem qw_156 : (.methodLink RX5 60 Lib.Math.max.name : Cond) ∈ WM := ic_wc3 _ (List.mem_of_getElem? (i := 36) rfl)
theorem qw_157 : (.fieldLink RX5 70 "MailDen$World" "now" "I" : Cond) ∈ WM := ic_wc3 _ (List.mem_of_getElem? (i := 37) rfl)
theorem qw_158 : (.fieldLink RX5 73 "MailDen$World" "lost" "I" : Cond) ∈ WM := ic_wc3 _ (List.mem_of_getElem? (i := 38) rfl)
theorem qw_159 : (.fieldLink RX5 76 "MailDen$World" "turns" "I" : Cond) ∈ WM := ic_wc3 _ (List.mem_of_getElem? (i := 39) rfl)
theorem qw_160 : (.fieldLink RX5 79 "MailDen$World" "lines" "I" : Cond) ∈ WM := ic_wc4 _ (List.mem_of_getElem? (i := 0) rfl)
theorem qw_161 : (.fieldLink RX5 82 "MailDen$World" "tickets" "I" : Cond) ∈ WM := ic_wc4 _ (List.mem_of_getElem? (i := 1) rfl)
theorem qw_162 : (.fieldLink RX5 85 "MailDen$World" "endedCount" "I" : Cond) ∈ WM := ic_wc4 _ (List.mem_of_getElem? (i := 2) rfl)
theorem qw_163 : (.fieldLink RX5 88 "MailDen$World" "settledCount" "I" : Cond) ∈ WM := ic_wc4 _ (List.mem_of_getElem? (i := 3) rfl)
theorem qw_164 : (.fieldLink RX5 91 "MailDen$World" "restartCount" "I" : Cond) ∈ WM := ic_wc4 _ (List.mem_of_getElem? (i := 4) rfl)
theorem qw_165 : (.methodLink RX5 66 yX2_copyFrom : Cond) ∈ WM := ic_wc4 _ (List.mem_of_getElem? (i := 5) rfl)
theorem qw_166 : (.instanceMethod yX2_copyFrom : Cond) ∈ WM := ic_wc4 _ (List.mem_of_getElem? (i := 6) rfl)
theorem qw_167 : (.selects RX2 yX2_copyFrom yX2_copyFrom : Cond) ∈ WM := ic_wc4 _ (List.mem_of_getElem? (i := 7) rfl)
theorem qw_168 : (.code yX5_copyFrom cX5_copyFrom 4 none : Cond) ∈ WM := ic_wc4 _ (List.mem_of_getElem? (i := 8) rfl)
theorem qw_169 : (.code yX5_procAt cX5_procAt 2 (some (.object "MailDen$Proc")) : Cond) ∈ WM := ic_wc4 _ (List.mem_of_getElem? (i := 9) rfl)
theorem qw_170 : (.fieldLink RX5 94 "MailDen$Proc" "status" "I" : Cond) ∈ WM := ic_wc4 _ (List.mem_of_getElem? (i := 10) rfl)
theorem qw_171 : (.code yX5_living cX5_living 2 (some (.object "MailDen$Proc")) : Cond) ∈ WM := ic_wc4 _ (List.mem_of_getElem? (i := 11) rfl)
theorem qw_172 : (.methodLink RX5 97 yX1_hasModule : Cond) ∈ WM := ic_wc4 _ (List.mem_of_getElem? (i := 12) rfl)
theorem qw_173 : (.code yX5_currentOf cX5_currentOf 2 (some .int) : Cond) ∈ WM := ic_wc4 _ (List.mem_of_getElem? (i := 13) rfl)
theorem qw_174 : (.code yX5_holderOf cX5_holderOf 2 (some .int) : Cond) ∈ WM := ic_wc4 _ (List.mem_of_getElem? (i := 14) rfl)
theorem qw_175 : (.fieldLink RX5 107 "MailDen$Codes" "modules" "I" : Cond) ∈ WM := ic_wc4 _ (List.mem_of_getElem? (i := 15) rfl)
theorem qw_176 : (.fieldLink RX5 110 "MailDen$Proc" "module" "I" : Cond) ∈ WM := ic_wc4 _ (List.mem_of_getElem? (i := 16) rfl)
theorem qw_177 : (.fieldLink RX5 113 "MailDen$Proc" "version" "I" : Cond) ∈ WM := ic_wc4 _ (List.mem_of_getElem? (i := 17) rfl)
theorem qw_178 : (.fieldLink RX5 116 "MailDen$Proc" "parent" "I" : Cond) ∈ WM := ic_wc4 _ (List.mem_of_getElem? (i := 18) rfl)
theorem qw_179 : (.fieldLink RX5 119 "MailDen$Proc" "ticket" "I" : Cond) ∈ WM := ic_wc4 _ (List.mem_of_getElem? (i := 19) rfl)
theorem qw_180 : (.code yX5_comesOfModule cX5_comesOfModule 4 (some (.object "MailDen$Proc")) : Cond) ∈ WM := ic_wc4 _ (List.mem_of_getElem? (i := 20) rfl)
theorem qw_181 : (.fieldLink RX5 122 "MailDen$Proc" "spec" "I" : Cond) ∈ WM := ic_wc4 _ (List.mem_of_getElem? (i := 21) rfl)
theorem qw_182 : (.fieldLink RX5 125 "MailDen$Proc" "line" "I" : Cond) ∈ WM := ic_wc4 _ (List.mem_of_getElem? (i := 22) rfl)
theorem qw_183 : (.code yX5_comesOfSpec cX5_comesOfSpec 4 (some (.object "MailDen$Proc")) : Cond) ∈ WM := ic_wc4 _ (List.mem_of_getElem? (i := 23) rfl)
theorem qw_184 : (.fieldLink RX5 128 "MailDen$Proc" "until" "I" : Cond) ∈ WM := ic_wc4 _ (List.mem_of_getElem? (i := 24) rfl)
theorem qw_185 : (.code yX5_ready cX5_ready 2 none : Cond) ∈ WM := ic_wc4 _ (List.mem_of_getElem? (i := 25) rfl)
theorem qw_186 : (.fieldLink RX5 201 "MailDen$Proc" "reason" "I" : Cond) ∈ WM := ic_wc4 _ (List.mem_of_getElem? (i := 26) rfl)
theorem qw_187 : (.fieldLink RX5 178 "MailDen$Proc" "box" "LMailDen$Box;" : Cond) ∈ WM := ic_wc4 _ (List.mem_of_getElem? (i := 27) rfl)
theorem qw_188 : (.fieldLink RX5 204 "MailDen$Box" "count" "I" : Cond) ∈ WM := ic_wc4 _ (List.mem_of_getElem? (i := 28) rfl)
theorem qw_189 : (.fieldLink RX5 146 "MailDen$Proc" "number" "I" : Cond) ∈ WM := ic_wc4 _ (List.mem_of_getElem? (i := 29) rfl)
theorem qw_190 : (.code yX5_end cX5_end 4 none : Cond) ∈ WM := ic_wc4 _ (List.mem_of_getElem? (i := 30) rfl)
theorem qw_191 : (.fieldLink RX5 139 "MailDen$Specs" "ofSpecs" "[Z" : Cond) ∈ WM := ic_wc4 _ (List.mem_of_getElem? (i := 31) rfl)
theorem qw_192 : (.fieldLink RX5 143 "MailDen$Specs" "numbers" "[I" : Cond) ∈ WM := ic_wc4 _ (List.mem_of_getElem? (i := 32) rfl)
theorem qw_193 : (.fieldLink RX5 160 "MailDen$Proc" "children" "[I" : Cond) ∈ WM := ic_wc4 _ (List.mem_of_getElem? (i := 33) rfl)
theorem qw_194 : (.methodLink RX5 131 yX3_placeAt : Cond) ∈ WM := ic_wc4 _ (List.mem_of_getElem? (i := 34) rfl)
theorem qw_195 : (.instanceMethod yX3_placeAt : Cond) ∈ WM := ic_wc4 _ (List.mem_of_getElem? (i := 35) rfl)
theorem qw_196 : (.selects RX3 yX3_placeAt yX3_placeAt : Cond) ∈ WM := ic_wc4 _ (List.mem_of_getElem? (i := 36) rfl)
theorem qw_197 : (.methodLink RX5 136 yX2_isEmptyPlace : Cond) ∈ WM := ic_wc4 _ (List.mem_of_getElem? (i := 37) rfl)
theorem qw_198 : (.instanceMethod yX2_isEmptyPlace : Cond) ∈ WM := ic_wc4 _ (List.mem_of_getElem? (i := 38) rfl)
theorem qw_199 : (.selects RX2 yX2_isEmptyPlace yX2_isEmptyPlace : Cond) ∈ WM := ic_wc4 _ (List.mem_of_getElem? (i := 39) rfl)
theorem qw_200 : (.methodLink RX5 149 yX5_comesOfSpec : Cond) ∈ WM := ic_wc5 _ (List.mem_of_getElem? (i := 0) rfl)
theorem qw_201 : (.instanceMethod yX5_comesOfSpec : Cond) ∈ WM := ic_wc5 _ (List.mem_of_getElem? (i := 1) rfl)
theorem qw_202 : (.selects RX5 yX5_comesOfSpec yX5_comesOfSpec : Cond) ∈ WM := ic_wc5 _ (List.mem_of_getElem? (i := 2) rfl)
theorem qw_203 : (.initialized RX5 : Cond) ∈ WM := ic_wc5 _ (List.mem_of_getElem? (i := 3) rfl)
theorem qw_204 : (.methodLink RX5 153 yX5_comesOfModule : Cond) ∈ WM := ic_wc5 _ (List.mem_of_getElem? (i := 4) rfl)
theorem qw_205 : (.instanceMethod yX5_comesOfModule : Cond) ∈ WM := ic_wc5 _ (List.mem_of_getElem? (i := 5) rfl)
theorem qw_206 : (.selects RX5 yX5_comesOfModule yX5_comesOfModule : Cond) ∈ WM := ic_wc5 _ (List.mem_of_getElem? (i := 6) rfl)
theorem qw_207 : (.methodLink RX5 156 yX5_end : Cond) ∈ WM := ic_wc5 _ (List.mem_of_getElem? (i := 7) rfl)
theorem qw_208 : (.instanceMethod yX5_end : Cond) ∈ WM := ic_wc5 _ (List.mem_of_getElem? (i := 8) rfl)
theorem qw_209 : (.selects RX5 yX5_end yX5_end : Cond) ∈ WM := ic_wc5 _ (List.mem_of_getElem? (i := 9) rfl)
theorem qw_210 : (.methodLink RX5 163 yX5_startPlaces : Cond) ∈ WM := ic_wc5 _ (List.mem_of_getElem? (i := 10) rfl)
theorem qw_211 : (.static yX5_startPlaces : Cond) ∈ WM := ic_wc5 _ (List.mem_of_getElem? (i := 11) rfl)
theorem qw_212 : (.code yX5_startPlaces cX5_startPlaces 10 none : Cond) ∈ WM := ic_wc5 _ (List.mem_of_getElem? (i := 12) rfl)
theorem qw_213 : (.methodLink RX5 205 yX5_procAt : Cond) ∈ WM := ic_wc5 _ (List.mem_of_getElem? (i := 13) rfl)
theorem qw_214 : (.instanceMethod yX5_procAt : Cond) ∈ WM := ic_wc5 _ (List.mem_of_getElem? (i := 14) rfl)
theorem qw_215 : (.selects RX5 yX5_procAt yX5_procAt : Cond) ∈ WM := ic_wc5 _ (List.mem_of_getElem? (i := 15) rfl)
theorem qw_216 : (.code yX5_endChildren cX5_endChildren 6 none : Cond) ∈ WM := ic_wc5 _ (List.mem_of_getElem? (i := 16) rfl)
theorem qw_217 : (.methodLink RX5 170 yX5_living : Cond) ∈ WM := ic_wc5 _ (List.mem_of_getElem? (i := 17) rfl)
theorem qw_218 : (.instanceMethod yX5_living : Cond) ∈ WM := ic_wc5 _ (List.mem_of_getElem? (i := 18) rfl)
theorem qw_219 : (.selects RX5 yX5_living yX5_living : Cond) ∈ WM := ic_wc5 _ (List.mem_of_getElem? (i := 19) rfl)
theorem qw_220 : (.methodLink RX5 174 yX2_isSupervisor : Cond) ∈ WM := ic_wc5 _ (List.mem_of_getElem? (i := 20) rfl)
theorem qw_221 : (.instanceMethod yX2_isSupervisor : Cond) ∈ WM := ic_wc5 _ (List.mem_of_getElem? (i := 21) rfl)
theorem qw_222 : (.selects RX2 yX2_isSupervisor yX2_isSupervisor : Cond) ∈ WM := ic_wc5 _ (List.mem_of_getElem? (i := 22) rfl)
theorem qw_223 : (.methodLink RX5 182 yX0_put : Cond) ∈ WM := ic_wc5 _ (List.mem_of_getElem? (i := 23) rfl)
theorem qw_224 : (.instanceMethod yX0_put : Cond) ∈ WM := ic_wc5 _ (List.mem_of_getElem? (i := 24) rfl)
theorem qw_225 : (.selects RX0 yX0_put yX0_put : Cond) ∈ WM := ic_wc5 _ (List.mem_of_getElem? (i := 25) rfl)
theorem qw_226 : (.methodLink RX5 188 yX2_waitsForMail : Cond) ∈ WM := ic_wc5 _ (List.mem_of_getElem? (i := 26) rfl)
theorem qw_227 : (.instanceMethod yX2_waitsForMail : Cond) ∈ WM := ic_wc5 _ (List.mem_of_getElem? (i := 27) rfl)
theorem qw_228 : (.selects RX2 yX2_waitsForMail yX2_waitsForMail : Cond) ∈ WM := ic_wc5 _ (List.mem_of_getElem? (i := 28) rfl)
theorem qw_229 : (.methodLink RX5 191 yX5_ready : Cond) ∈ WM := ic_wc5 _ (List.mem_of_getElem? (i := 29) rfl)
theorem qw_230 : (.instanceMethod yX5_ready : Cond) ∈ WM := ic_wc5 _ (List.mem_of_getElem? (i := 30) rfl)
theorem qw_231 : (.selects RX5 yX5_ready yX5_ready : Cond) ∈ WM := ic_wc5 _ (List.mem_of_getElem? (i := 31) rfl)
theorem qw_232 : (.code yX5_putMail cX5_putMail 5 (some .boolean) : Cond) ∈ WM := ic_wc5 _ (List.mem_of_getElem? (i := 32) rfl)
theorem qw_233 : (.fieldLink RX5 229 "MailDen$Proc" "watches" "LMailDen$Watches;" : Cond) ∈ WM := ic_wc5 _ (List.mem_of_getElem? (i := 33) rfl)
theorem qw_234 : (.fieldLink RX5 233 "MailDen$Watches" "count" "I" : Cond) ∈ WM := ic_wc5 _ (List.mem_of_getElem? (i := 34) rfl)
theorem qw_235 : (.fieldLink RX5 236 "MailDen$Watches" "watchers" "[I" : Cond) ∈ WM := ic_wc5 _ (List.mem_of_getElem? (i := 35) rfl)
theorem qw_236 : (.fieldLink RX5 239 "MailDen$Watches" "times" "[I" : Cond) ∈ WM := ic_wc5 _ (List.mem_of_getElem? (i := 36) rfl)
theorem qw_237 : (.methodLink RX5 198 yX5_putMail : Cond) ∈ WM := ic_wc5 _ (List.mem_of_getElem? (i := 37) rfl)
theorem qw_238 : (.instanceMethod yX5_putMail : Cond) ∈ WM := ic_wc5 _ (List.mem_of_getElem? (i := 38) rfl)
theorem qw_239 : (.selects RX5 yX5_putMail yX5_putMail : Cond) ∈ WM := ic_wc5 _ (List.mem_of_getElem? (i := 39) rfl)
theorem qw_240 : (.code yX5_tellWatchers cX5_tellWatchers 6 none : Cond) ∈ WM := ic_wc6 _ (List.mem_of_getElem? (i := 0) rfl)
theorem qw_241 : (.fieldLink RX5 242 "MailDen$Proc" "links" "I" : Cond) ∈ WM := ic_wc6 _ (List.mem_of_getElem? (i := 1) rfl)
theorem qw_242 : (.code yX5_unlink cX5_unlink 3 none : Cond) ∈ WM := ic_wc6 _ (List.mem_of_getElem? (i := 2) rfl)
theorem qw_243 : (.fieldLink RX5 194 "MailDen$Proc" "traps" "Z" : Cond) ∈ WM := ic_wc6 _ (List.mem_of_getElem? (i := 3) rfl)
theorem qw_244 : (.code yX5_signalTo cX5_signalTo 5 none : Cond) ∈ WM := ic_wc6 _ (List.mem_of_getElem? (i := 4) rfl)
theorem qw_245 : (.code yX5_noteRestart cX5_noteRestart 2 none : Cond) ∈ WM := ic_wc6 _ (List.mem_of_getElem? (i := 5) rfl)
theorem qw_246 : (.code yX5_restartsAbove cX5_restartsAbove 5 (some .int) : Cond) ∈ WM := ic_wc6 _ (List.mem_of_getElem? (i := 6) rfl)
theorem qw_247 : (.fieldLink RX5 275 "MailDen$Specs" "withins" "[I" : Cond) ∈ WM := ic_wc6 _ (List.mem_of_getElem? (i := 7) rfl)
theorem qw_248 : (.methodLink RX5 249 yX3_hasSpec : Cond) ∈ WM := ic_wc6 _ (List.mem_of_getElem? (i := 8) rfl)
theorem qw_249 : (.methodLink RX5 271 yX5_restartsAbove : Cond) ∈ WM := ic_wc6 _ (List.mem_of_getElem? (i := 9) rfl)
theorem qw_250 : (.instanceMethod yX5_restartsAbove : Cond) ∈ WM := ic_wc6 _ (List.mem_of_getElem? (i := 10) rfl)
theorem qw_251 : (.selects RX5 yX5_restartsAbove yX5_restartsAbove : Cond) ∈ WM := ic_wc6 _ (List.mem_of_getElem? (i := 11) rfl)
theorem qw_252 : (.code yX5_restartsLately cX5_restartsLately 2 (some .int) : Cond) ∈ WM := ic_wc6 _ (List.mem_of_getElem? (i := 12) rfl)
theorem qw_253 : (.fieldLink RX5 252 "MailDen$Specs" "modes" "[I" : Cond) ∈ WM := ic_wc6 _ (List.mem_of_getElem? (i := 13) rfl)
theorem qw_254 : (.fieldLink RX5 255 "MailDen$Proc" "emptyPlaces" "I" : Cond) ∈ WM := ic_wc6 _ (List.mem_of_getElem? (i := 14) rfl)
theorem qw_255 : (.fieldLink RX5 265 "MailDen$Specs" "mosts" "[I" : Cond) ∈ WM := ic_wc6 _ (List.mem_of_getElem? (i := 15) rfl)
theorem qw_256 : (.fieldLink RX5 268 "MailDen$Specs" "strategies" "[I" : Cond) ∈ WM := ic_wc6 _ (List.mem_of_getElem? (i := 16) rfl)
theorem qw_257 : (.methodLink RX5 245 yX2_placeOf : Cond) ∈ WM := ic_wc6 _ (List.mem_of_getElem? (i := 17) rfl)
theorem qw_258 : (.instanceMethod yX2_placeOf : Cond) ∈ WM := ic_wc6 _ (List.mem_of_getElem? (i := 18) rfl)
theorem qw_259 : (.selects RX2 yX2_placeOf yX2_placeOf : Cond) ∈ WM := ic_wc6 _ (List.mem_of_getElem? (i := 19) rfl)
theorem qw_260 : (.methodLink RX5 258 yX5_noteRestart : Cond) ∈ WM := ic_wc6 _ (List.mem_of_getElem? (i := 20) rfl)
theorem qw_261 : (.instanceMethod yX5_noteRestart : Cond) ∈ WM := ic_wc6 _ (List.mem_of_getElem? (i := 21) rfl)
theorem qw_262 : (.selects RX5 yX5_noteRestart yX5_noteRestart : Cond) ∈ WM := ic_wc6 _ (List.mem_of_getElem? (i := 22) rfl)
theorem qw_263 : (.methodLink RX5 261 yX5_restartsLately : Cond) ∈ WM := ic_wc6 _ (List.mem_of_getElem? (i := 23) rfl)
theorem qw_264 : (.instanceMethod yX5_restartsLately : Cond) ∈ WM := ic_wc6 _ (List.mem_of_getElem? (i := 24) rfl)
theorem qw_265 : (.selects RX5 yX5_restartsLately yX5_restartsLately : Cond) ∈ WM := ic_wc6 _ (List.mem_of_getElem? (i := 25) rfl)
theorem qw_266 : (.methodLink RX5 208 yX5_endChildren : Cond) ∈ WM := ic_wc6 _ (List.mem_of_getElem? (i := 26) rfl)
theorem qw_267 : (.instanceMethod yX5_endChildren : Cond) ∈ WM := ic_wc6 _ (List.mem_of_getElem? (i := 27) rfl)
theorem qw_268 : (.selects RX5 yX5_endChildren yX5_endChildren : Cond) ∈ WM := ic_wc6 _ (List.mem_of_getElem? (i := 28) rfl)
theorem qw_269 : (.code yX5_superviseEnd cX5_superviseEnd 8 none : Cond) ∈ WM := ic_wc6 _ (List.mem_of_getElem? (i := 29) rfl)
theorem qw_270 : (.methodLink RX5 212 yX5_tellWatchers : Cond) ∈ WM := ic_wc6 _ (List.mem_of_getElem? (i := 30) rfl)
theorem qw_271 : (.instanceMethod yX5_tellWatchers : Cond) ∈ WM := ic_wc6 _ (List.mem_of_getElem? (i := 31) rfl)
theorem qw_272 : (.selects RX5 yX5_tellWatchers yX5_tellWatchers : Cond) ∈ WM := ic_wc6 _ (List.mem_of_getElem? (i := 32) rfl)
theorem qw_273 : (.methodLink RX5 215 yX2_isLinkedWith : Cond) ∈ WM := ic_wc6 _ (List.mem_of_getElem? (i := 33) rfl)
theorem qw_274 : (.instanceMethod yX2_isLinkedWith : Cond) ∈ WM := ic_wc6 _ (List.mem_of_getElem? (i := 34) rfl)
theorem qw_275 : (.selects RX2 yX2_isLinkedWith yX2_isLinkedWith : Cond) ∈ WM := ic_wc6 _ (List.mem_of_getElem? (i := 35) rfl)
theorem qw_276 : (.methodLink RX5 218 yX5_unlink : Cond) ∈ WM := ic_wc6 _ (List.mem_of_getElem? (i := 36) rfl)
theorem qw_277 : (.instanceMethod yX5_unlink : Cond) ∈ WM := ic_wc6 _ (List.mem_of_getElem? (i := 37) rfl)
theorem qw_278 : (.selects RX5 yX5_unlink yX5_unlink : Cond) ∈ WM := ic_wc6 _ (List.mem_of_getElem? (i := 38) rfl)
theorem qw_279 : (.methodLink RX5 222 yX5_signalTo : Cond) ∈ WM := ic_wc6 _ (List.mem_of_getElem? (i := 39) rfl)
theorem qw_280 : (.instanceMethod yX5_signalTo : Cond) ∈ WM := ic_wc7 _ (List.mem_of_getElem? (i := 0) rfl)
theorem qw_281 : (.selects RX5 yX5_signalTo yX5_signalTo : Cond) ∈ WM := ic_wc7 _ (List.mem_of_getElem? (i := 1) rfl)
theorem qw_282 : (.methodLink RX5 226 yX5_superviseEnd : Cond) ∈ WM := ic_wc7 _ (List.mem_of_getElem? (i := 2) rfl)
theorem qw_283 : (.instanceMethod yX5_superviseEnd : Cond) ∈ WM := ic_wc7 _ (List.mem_of_getElem? (i := 3) rfl)
theorem qw_284 : (.selects RX5 yX5_superviseEnd yX5_superviseEnd : Cond) ∈ WM := ic_wc7 _ (List.mem_of_getElem? (i := 4) rfl)
theorem qw_285 : (.code yX5_settle cX5_settle 3 none : Cond) ∈ WM := ic_wc7 _ (List.mem_of_getElem? (i := 5) rfl)
theorem qw_286 : (.methodLink RX5 167 yX5_settle : Cond) ∈ WM := ic_wc7 _ (List.mem_of_getElem? (i := 6) rfl)
theorem qw_287 : (.instanceMethod yX5_settle : Cond) ∈ WM := ic_wc7 _ (List.mem_of_getElem? (i := 7) rfl)
theorem qw_288 : (.selects RX5 yX5_settle yX5_settle : Cond) ∈ WM := ic_wc7 _ (List.mem_of_getElem? (i := 8) rfl)
theorem qw_289 : (.code yX5_comesFromOutside cX5_comesFromOutside 3 (some .int) : Cond) ∈ WM := ic_wc7 _ (List.mem_of_getElem? (i := 9) rfl)
theorem qw_290 : (.code yX5_link cX5_link 3 none : Cond) ∈ WM := ic_wc7 _ (List.mem_of_getElem? (i := 10) rfl)
theorem qw_291 : (.code yX5_restartsEver cX5_restartsEver 2 (some .int) : Cond) ∈ WM := ic_wc7 _ (List.mem_of_getElem? (i := 11) rfl)
theorem qw_292 : (.code yX5_endedBehind cX5_endedBehind 4 (some .int) : Cond) ∈ WM := ic_wc7 _ (List.mem_of_getElem? (i := 12) rfl)
theorem qw_293 : (.code yX5_loadModule cX5_loadModule 5 none : Cond) ∈ WM := ic_wc7 _ (List.mem_of_getElem? (i := 13) rfl)
theorem qw_294 : (.code yX5_passTime cX5_passTime 3 (some .int) : Cond) ∈ WM := ic_wc7 _ (List.mem_of_getElem? (i := 14) rfl)
theorem qw_295 : (.code yX5_firstReady cX5_firstReady 4 (some (.object "MailDen$Proc")) : Cond) ∈ WM := ic_wc7 _ (List.mem_of_getElem? (i := 15) rfl)
theorem qw_296 : (.code yX5_goesOut cX5_goesOut 1 (some .boolean) : Cond) ∈ WM := ic_wc7 _ (List.mem_of_getElem? (i := 16) rfl)
theorem qw_297 : (.fieldLink RX5 307 "MailDen$Proc" "there" "I" : Cond) ∈ WM := ic_wc7 _ (List.mem_of_getElem? (i := 17) rfl)
theorem qw_298 : (.methodLink RX5 333 yX5_link : Cond) ∈ WM := ic_wc7 _ (List.mem_of_getElem? (i := 18) rfl)
theorem qw_299 : (.instanceMethod yX5_link : Cond) ∈ WM := ic_wc7 _ (List.mem_of_getElem? (i := 19) rfl)
theorem qw_300 : (.selects RX5 yX5_link yX5_link : Cond) ∈ WM := ic_wc7 _ (List.mem_of_getElem? (i := 20) rfl)
theorem qw_301 : (.code yX5_spawn cX5_spawn 5 none : Cond) ∈ WM := ic_wc7 _ (List.mem_of_getElem? (i := 21) rfl)
theorem qw_302 : (.methodLink RX5 345 yX5_holderOf : Cond) ∈ WM := ic_wc7 _ (List.mem_of_getElem? (i := 22) rfl)
theorem qw_303 : (.instanceMethod yX5_holderOf : Cond) ∈ WM := ic_wc7 _ (List.mem_of_getElem? (i := 23) rfl)
theorem qw_304 : (.selects RX5 yX5_holderOf yX5_holderOf : Cond) ∈ WM := ic_wc7 _ (List.mem_of_getElem? (i := 24) rfl)
theorem qw_305 : (.code yX5_takeName cX5_takeName 4 none : Cond) ∈ WM := ic_wc7 _ (List.mem_of_getElem? (i := 25) rfl)
theorem qw_306 : (.code yX5_callName cX5_callName 5 none : Cond) ∈ WM := ic_wc7 _ (List.mem_of_getElem? (i := 26) rfl)
theorem qw_307 : (.fieldLink RX5 301 "MailDen$Codes" "as" "[I" : Cond) ∈ WM := ic_wc7 _ (List.mem_of_getElem? (i := 27) rfl)
theorem qw_308 : (.fieldLink RX5 304 "MailDen$Codes" "bs" "[I" : Cond) ∈ WM := ic_wc7 _ (List.mem_of_getElem? (i := 28) rfl)
theorem qw_309 : (.fieldLink RX5 289 "MailDen$Codes" "kinds" "[I" : Cond) ∈ WM := ic_wc7 _ (List.mem_of_getElem? (i := 29) rfl)
theorem qw_310 : (.methodLink RX5 329 yX5_spawn : Cond) ∈ WM := ic_wc7 _ (List.mem_of_getElem? (i := 30) rfl)
theorem qw_311 : (.instanceMethod yX5_spawn : Cond) ∈ WM := ic_wc7 _ (List.mem_of_getElem? (i := 31) rfl)
theorem qw_312 : (.selects RX5 yX5_spawn yX5_spawn : Cond) ∈ WM := ic_wc7 _ (List.mem_of_getElem? (i := 32) rfl)
theorem qw_313 : (.methodLink RX5 336 yX4_add : Cond) ∈ WM := ic_wc7 _ (List.mem_of_getElem? (i := 33) rfl)
theorem qw_314 : (.instanceMethod yX4_add : Cond) ∈ WM := ic_wc7 _ (List.mem_of_getElem? (i := 34) rfl)
theorem qw_315 : (.selects RX4 yX4_add yX4_add : Cond) ∈ WM := ic_wc7 _ (List.mem_of_getElem? (i := 35) rfl)
theorem qw_316 : (.methodLink RX5 339 yX5_takeName : Cond) ∈ WM := ic_wc7 _ (List.mem_of_getElem? (i := 36) rfl)
theorem qw_317 : (.instanceMethod yX5_takeName : Cond) ∈ WM := ic_wc7 _ (List.mem_of_getElem? (i := 37) rfl)
theorem qw_318 : (.selects RX5 yX5_takeName yX5_takeName : Cond) ∈ WM := ic_wc7 _ (List.mem_of_getElem? (i := 38) rfl)
theorem qw_319 : (.methodLink RX5 313 yX2_localAt : Cond) ∈ WM := ic_wc7 _ (List.mem_of_getElem? (i := 39) rfl)
theorem qw_320 : (.instanceMethod yX2_localAt : Cond) ∈ WM := ic_wc8 _ (List.mem_of_getElem? (i := 0) rfl)
theorem qw_321 : (.selects RX2 yX2_localAt yX2_localAt : Cond) ∈ WM := ic_wc8 _ (List.mem_of_getElem? (i := 1) rfl)
theorem qw_322 : (.methodLink RX5 342 yX5_callName : Cond) ∈ WM := ic_wc8 _ (List.mem_of_getElem? (i := 2) rfl)
theorem qw_323 : (.instanceMethod yX5_callName : Cond) ∈ WM := ic_wc8 _ (List.mem_of_getElem? (i := 3) rfl)
theorem qw_324 : (.selects RX5 yX5_callName yX5_callName : Cond) ∈ WM := ic_wc8 _ (List.mem_of_getElem? (i := 4) rfl)
theorem qw_325 : (.code yX5_doLineOut cX5_doLineOut 6 (some .int) : Cond) ∈ WM := ic_wc8 _ (List.mem_of_getElem? (i := 5) rfl)
theorem qw_326 : (.methodLink RX5 310 yX2_hold : Cond) ∈ WM := ic_wc8 _ (List.mem_of_getElem? (i := 6) rfl)
theorem qw_327 : (.methodLink RX5 316 yX2_putLocal : Cond) ∈ WM := ic_wc8 _ (List.mem_of_getElem? (i := 7) rfl)
theorem qw_328 : (.instanceMethod yX2_putLocal : Cond) ∈ WM := ic_wc8 _ (List.mem_of_getElem? (i := 8) rfl)
theorem qw_329 : (.selects RX2 yX2_putLocal yX2_putLocal : Cond) ∈ WM := ic_wc8 _ (List.mem_of_getElem? (i := 9) rfl)
theorem qw_330 : (.methodLink RX5 320 yX2_takeMail : Cond) ∈ WM := ic_wc8 _ (List.mem_of_getElem? (i := 10) rfl)
theorem qw_331 : (.methodLink RX5 323 yX2_waitFor : Cond) ∈ WM := ic_wc8 _ (List.mem_of_getElem? (i := 11) rfl)
theorem qw_332 : (.instanceMethod yX2_waitFor : Cond) ∈ WM := ic_wc8 _ (List.mem_of_getElem? (i := 12) rfl)
theorem qw_333 : (.selects RX2 yX2_waitFor yX2_waitFor : Cond) ∈ WM := ic_wc8 _ (List.mem_of_getElem? (i := 13) rfl)
theorem qw_334 : (.methodLink RX5 326 yX5_currentOf : Cond) ∈ WM := ic_wc8 _ (List.mem_of_getElem? (i := 14) rfl)
theorem qw_335 : (.instanceMethod yX5_currentOf : Cond) ∈ WM := ic_wc8 _ (List.mem_of_getElem? (i := 15) rfl)
theorem qw_336 : (.selects RX5 yX5_currentOf yX5_currentOf : Cond) ∈ WM := ic_wc8 _ (List.mem_of_getElem? (i := 16) rfl)
theorem qw_337 : (.code yX5_doLine cX5_doLine 6 (some .int) : Cond) ∈ WM := ic_wc8 _ (List.mem_of_getElem? (i := 17) rfl)
theorem qw_338 : (.methodLink RX5 278 yX5_firstReady : Cond) ∈ WM := ic_wc8 _ (List.mem_of_getElem? (i := 18) rfl)
theorem qw_339 : (.instanceMethod yX5_firstReady : Cond) ∈ WM := ic_wc8 _ (List.mem_of_getElem? (i := 19) rfl)
theorem qw_340 : (.selects RX5 yX5_firstReady yX5_firstReady : Cond) ∈ WM := ic_wc8 _ (List.mem_of_getElem? (i := 20) rfl)
theorem qw_341 : (.methodLink RX5 282 yX2_resume : Cond) ∈ WM := ic_wc8 _ (List.mem_of_getElem? (i := 21) rfl)
theorem qw_342 : (.instanceMethod yX2_resume : Cond) ∈ WM := ic_wc8 _ (List.mem_of_getElem? (i := 22) rfl)
theorem qw_343 : (.selects RX2 yX2_resume yX2_resume : Cond) ∈ WM := ic_wc8 _ (List.mem_of_getElem? (i := 23) rfl)
theorem qw_344 : (.methodLink RX5 285 yX1_lineAt : Cond) ∈ WM := ic_wc8 _ (List.mem_of_getElem? (i := 24) rfl)
theorem qw_345 : (.instanceMethod yX1_lineAt : Cond) ∈ WM := ic_wc8 _ (List.mem_of_getElem? (i := 25) rfl)
theorem qw_346 : (.selects RX1 yX1_lineAt yX1_lineAt : Cond) ∈ WM := ic_wc8 _ (List.mem_of_getElem? (i := 26) rfl)
theorem qw_347 : (.methodLink RX5 292 yX5_goesOut : Cond) ∈ WM := ic_wc8 _ (List.mem_of_getElem? (i := 27) rfl)
theorem qw_348 : (.static yX5_goesOut : Cond) ∈ WM := ic_wc8 _ (List.mem_of_getElem? (i := 28) rfl)
theorem qw_349 : (.methodLink RX5 295 yX5_doLineOut : Cond) ∈ WM := ic_wc8 _ (List.mem_of_getElem? (i := 29) rfl)
theorem qw_350 : (.instanceMethod yX5_doLineOut : Cond) ∈ WM := ic_wc8 _ (List.mem_of_getElem? (i := 30) rfl)
theorem qw_351 : (.selects RX5 yX5_doLineOut yX5_doLineOut : Cond) ∈ WM := ic_wc8 _ (List.mem_of_getElem? (i := 31) rfl)
theorem qw_352 : (.methodLink RX5 298 yX5_doLine : Cond) ∈ WM := ic_wc8 _ (List.mem_of_getElem? (i := 32) rfl)
theorem qw_353 : (.instanceMethod yX5_doLine : Cond) ∈ WM := ic_wc8 _ (List.mem_of_getElem? (i := 33) rfl)
theorem qw_354 : (.selects RX5 yX5_doLine yX5_doLine : Cond) ∈ WM := ic_wc8 _ (List.mem_of_getElem? (i := 34) rfl)
theorem qw_355 : (.code yX5_doTurn cX5_doTurn 5 (some .boolean) : Cond) ∈ WM := ic_wc8 _ (List.mem_of_getElem? (i := 35) rfl)
theorem qw_356 : (.code yX5_placeInRow cX5_placeInRow 4 (some .int) : Cond) ∈ WM := ic_wc8 _ (List.mem_of_getElem? (i := 36) rfl)
theorem qw_357 : (.code yX5_watchesOf cX5_watchesOf 4 (some .int) : Cond) ∈ WM := ic_wc8 _ (List.mem_of_getElem? (i := 37) rfl)
theorem qw_358 : (.code yX5_runners cX5_runners 7 (some .int) : Cond) ∈ WM := ic_wc8 _ (List.mem_of_getElem? (i := 38) rfl)
theorem qw_359 : (.code yX5_madeOf cX5_madeOf 4 (some .int) : Cond) ∈ WM := ic_wc8 _ (List.mem_of_getElem? (i := 39) rfl)
theorem qw_360 : (.code yX5_isCurrentUsed cX5_isCurrentUsed 3 (some .boolean) : Cond) ∈ WM := ic_wc9 _ (List.mem_of_getElem? (i := 0) rfl)
theorem qw_361 : (.code yX5_hadSupervisor cX5_hadSupervisor 3 (some .boolean) : Cond) ∈ WM := ic_wc9 _ (List.mem_of_getElem? (i := 1) rfl)
theorem qw_362 : (.code yX5_supervisors cX5_supervisors 3 (some .int) : Cond) ∈ WM := ic_wc9 _ (List.mem_of_getElem? (i := 2) rfl)
theorem qw_363 : (.code yX5_withStatus cX5_withStatus 4 (some .int) : Cond) ∈ WM := ic_wc9 _ (List.mem_of_getElem? (i := 3) rfl)
theorem qw_364 : (.methodLink RX5 348 yJ6_bitCount_0f7a4 : Cond) ∈ WM := ic_wc9 _ (List.mem_of_getElem? (i := 4) rfl)
theorem qw_365 : (.static yJ6_bitCount_0f7a4 : Cond) ∈ WM := ic_wc9 _ (List.mem_of_getElem? (i := 5) rfl)
theorem qw_366 : (.initialized RJ6 : Cond) ∈ WM := ic_wc9 _ (List.mem_of_getElem? (i := 6) rfl)
theorem qw_367 : (.code yJ6_bitCount_0f7a4 cJ6_bitCount_0f7a4 1 (some .int) : Cond) ∈ WM := ic_wc9 _ (List.mem_of_getElem? (i := 7) rfl)
theorem qw_368 : (.constant RJ6 265 (1431655765) : Cond) ∈ WM := ic_wc9 _ (List.mem_of_getElem? (i := 8) rfl)
theorem qw_369 : (.constant RJ6 266 (858993459) : Cond) ∈ WM := ic_wc9 _ (List.mem_of_getElem? (i := 9) rfl)
theorem qw_370 : (.constant RJ6 267 (252645135) : Cond) ∈ WM := ic_wc9 _ (List.mem_of_getElem? (i := 10) rfl)
theorem qw_371 : (.code yX5_linkCount cX5_linkCount 3 (some .int) : Cond) ∈ WM := ic_wc9 _ (List.mem_of_getElem? (i := 11) rfl)
theorem qw_372 : (.code yX5_mailCount cX5_mailCount 3 (some .int) : Cond) ∈ WM := ic_wc9 _ (List.mem_of_getElem? (i := 12) rfl)
theorem qw_373 : (.methodLink RX6 3 objectInit : Cond) ∈ WM := ic_wc9 _ (List.mem_of_getElem? (i := 13) rfl)
theorem qw_374 : (.classLink RX6 9 RX1 : Cond) ∈ WM := ic_wc9 _ (List.mem_of_getElem? (i := 14) rfl)
theorem qw_375 : (.instantiable RX1 5 : Cond) ∈ WM := ic_wc9 _ (List.mem_of_getElem? (i := 15) rfl)
theorem qw_376 : (.fieldLink RX6 12 "MailDen" "codes" "LMailDen$Codes;" : Cond) ∈ WM := ic_wc9 _ (List.mem_of_getElem? (i := 16) rfl)
theorem qw_377 : (.classLink RX6 16 RX3 : Cond) ∈ WM := ic_wc9 _ (List.mem_of_getElem? (i := 17) rfl)
theorem qw_378 : (.instantiable RX3 8 : Cond) ∈ WM := ic_wc9 _ (List.mem_of_getElem? (i := 18) rfl)
theorem qw_379 : (.fieldLink RX6 19 "MailDen" "specs" "LMailDen$Specs;" : Cond) ∈ WM := ic_wc9 _ (List.mem_of_getElem? (i := 19) rfl)
theorem qw_380 : (.classLink RX6 23 RX5 : Cond) ∈ WM := ic_wc9 _ (List.mem_of_getElem? (i := 20) rfl)
theorem qw_381 : (.instantiable RX5 17 : Cond) ∈ WM := ic_wc9 _ (List.mem_of_getElem? (i := 21) rfl)
theorem qw_382 : (.fieldLink RX6 28 "MailDen" "real" "LMailDen$World;" : Cond) ∈ WM := ic_wc9 _ (List.mem_of_getElem? (i := 22) rfl)
theorem qw_383 : (.fieldLink RX6 32 "MailDen" "trial" "LMailDen$World;" : Cond) ∈ WM := ic_wc9 _ (List.mem_of_getElem? (i := 23) rfl)
theorem qw_384 : (.instanceMethod yX1_init : Cond) ∈ WM := ic_wc9 _ (List.mem_of_getElem? (i := 24) rfl)
theorem qw_385 : (.instanceMethod yX3_init : Cond) ∈ WM := ic_wc9 _ (List.mem_of_getElem? (i := 25) rfl)
theorem qw_386 : (.methodLink RX6 25 yX5_init : Cond) ∈ WM := ic_wc9 _ (List.mem_of_getElem? (i := 26) rfl)
theorem qw_387 : (.instanceMethod yX5_init : Cond) ∈ WM := ic_wc9 _ (List.mem_of_getElem? (i := 27) rfl)
theorem qw_388 : (.code yX6_init cX6_init 1 none : Cond) ∈ WM := ic_wc9 _ (List.mem_of_getElem? (i := 28) rfl)
theorem qw_389 : (.code yX6_checkState cX6_checkState 1 none : Cond) ∈ WM := ic_wc9 _ (List.mem_of_getElem? (i := 29) rfl)
theorem qw_390 : (.fieldLink RX6 35 "MailDen$Codes" "modules" "I" : Cond) ∈ WM := ic_wc9 _ (List.mem_of_getElem? (i := 30) rfl)
theorem qw_391 : (.methodLink RX6 39 yX6_checkState : Cond) ∈ WM := ic_wc9 _ (List.mem_of_getElem? (i := 31) rfl)
theorem qw_392 : (.static yX6_checkState : Cond) ∈ WM := ic_wc9 _ (List.mem_of_getElem? (i := 32) rfl)
theorem qw_393 : (.code yX6_module cX6_module 2 (some .int) : Cond) ∈ WM := ic_wc9 _ (List.mem_of_getElem? (i := 33) rfl)
theorem qw_394 : (.code yX6_checkIndex cX6_checkIndex 1 none : Cond) ∈ WM := ic_wc9 _ (List.mem_of_getElem? (i := 34) rfl)
theorem qw_395 : (.code yX6_checkArgument cX6_checkArgument 1 none : Cond) ∈ WM := ic_wc9 _ (List.mem_of_getElem? (i := 35) rfl)
theorem qw_396 : (.methodLink RX6 43 yX1_hasModule : Cond) ∈ WM := ic_wc9 _ (List.mem_of_getElem? (i := 36) rfl)
theorem qw_397 : (.methodLink RX6 47 yX6_checkIndex : Cond) ∈ WM := ic_wc9 _ (List.mem_of_getElem? (i := 37) rfl)
theorem qw_398 : (.static yX6_checkIndex : Cond) ∈ WM := ic_wc9 _ (List.mem_of_getElem? (i := 38) rfl)
theorem qw_399 : (.methodLink RX6 50 yX5_currentOf : Cond) ∈ WM := ic_wc9 _ (List.mem_of_getElem? (i := 39) rfl)
theorem qw_400 : (.methodLink RX6 54 yX1_linesOf : Cond) ∈ WM := ic_wc10 _ (List.mem_of_getElem? (i := 0) rfl)
theorem qw_401 : (.instanceMethod yX1_linesOf : Cond) ∈ WM := ic_wc10 _ (List.mem_of_getElem? (i := 1) rfl)
theorem qw_402 : (.selects RX1 yX1_linesOf yX1_linesOf : Cond) ∈ WM := ic_wc10 _ (List.mem_of_getElem? (i := 2) rfl)
theorem qw_403 : (.methodLink RX6 58 yX1_isLine : Cond) ∈ WM := ic_wc10 _ (List.mem_of_getElem? (i := 3) rfl)
theorem qw_404 : (.instanceMethod yX1_isLine : Cond) ∈ WM := ic_wc10 _ (List.mem_of_getElem? (i := 4) rfl)
theorem qw_405 : (.selects RX1 yX1_isLine yX1_isLine : Cond) ∈ WM := ic_wc10 _ (List.mem_of_getElem? (i := 5) rfl)
theorem qw_406 : (.methodLink RX6 62 yX6_checkArgument : Cond) ∈ WM := ic_wc10 _ (List.mem_of_getElem? (i := 6) rfl)
theorem qw_407 : (.static yX6_checkArgument : Cond) ∈ WM := ic_wc10 _ (List.mem_of_getElem? (i := 7) rfl)
theorem qw_408 : (.methodLink RX6 65 yX5_isCurrentUsed : Cond) ∈ WM := ic_wc10 _ (List.mem_of_getElem? (i := 8) rfl)
theorem qw_409 : (.instanceMethod yX5_isCurrentUsed : Cond) ∈ WM := ic_wc10 _ (List.mem_of_getElem? (i := 9) rfl)
theorem qw_410 : (.selects RX5 yX5_isCurrentUsed yX5_isCurrentUsed : Cond) ∈ WM := ic_wc10 _ (List.mem_of_getElem? (i := 10) rfl)
theorem qw_411 : (.methodLink RX6 68 yX1_addLine : Cond) ∈ WM := ic_wc10 _ (List.mem_of_getElem? (i := 11) rfl)
theorem qw_412 : (.instanceMethod yX1_addLine : Cond) ∈ WM := ic_wc10 _ (List.mem_of_getElem? (i := 12) rfl)
theorem qw_413 : (.selects RX1 yX1_addLine yX1_addLine : Cond) ∈ WM := ic_wc10 _ (List.mem_of_getElem? (i := 13) rfl)
theorem qw_414 : (.code yX6_line cX6_line 7 (some .int) : Cond) ∈ WM := ic_wc10 _ (List.mem_of_getElem? (i := 14) rfl)
theorem qw_415 : (.fieldLink RX6 72 "MailDen$World" "endedCount" "I" : Cond) ∈ WM := ic_wc10 _ (List.mem_of_getElem? (i := 15) rfl)
theorem qw_416 : (.methodLink RX6 75 yX5_loadModule : Cond) ∈ WM := ic_wc10 _ (List.mem_of_getElem? (i := 16) rfl)
theorem qw_417 : (.instanceMethod yX5_loadModule : Cond) ∈ WM := ic_wc10 _ (List.mem_of_getElem? (i := 17) rfl)
theorem qw_418 : (.selects RX5 yX5_loadModule yX5_loadModule : Cond) ∈ WM := ic_wc10 _ (List.mem_of_getElem? (i := 18) rfl)
theorem qw_419 : (.code yX6_load cX6_load 3 (some .int) : Cond) ∈ WM := ic_wc10 _ (List.mem_of_getElem? (i := 19) rfl)
theorem qw_420 : (.fieldLink RX6 83 "MailDen$Specs" "count" "I" : Cond) ∈ WM := ic_wc10 _ (List.mem_of_getElem? (i := 20) rfl)
theorem qw_421 : (.methodLink RX6 79 yX6_isWithin : Cond) ∈ WM := ic_wc10 _ (List.mem_of_getElem? (i := 21) rfl)
theorem qw_422 : (.methodLink RX6 86 yX3_addSpec : Cond) ∈ WM := ic_wc10 _ (List.mem_of_getElem? (i := 22) rfl)
theorem qw_423 : (.instanceMethod yX3_addSpec : Cond) ∈ WM := ic_wc10 _ (List.mem_of_getElem? (i := 23) rfl)
theorem qw_424 : (.selects RX3 yX3_addSpec yX3_addSpec : Cond) ∈ WM := ic_wc10 _ (List.mem_of_getElem? (i := 24) rfl)
theorem qw_425 : (.code yX6_spec cX6_spec 4 (some .int) : Cond) ∈ WM := ic_wc10 _ (List.mem_of_getElem? (i := 25) rfl)
theorem qw_426 : (.methodLink RX6 90 yX3_hasSpec : Cond) ∈ WM := ic_wc10 _ (List.mem_of_getElem? (i := 26) rfl)
theorem qw_427 : (.methodLink RX6 93 yX5_hadSupervisor : Cond) ∈ WM := ic_wc10 _ (List.mem_of_getElem? (i := 27) rfl)
theorem qw_428 : (.instanceMethod yX5_hadSupervisor : Cond) ∈ WM := ic_wc10 _ (List.mem_of_getElem? (i := 28) rfl)
theorem qw_429 : (.selects RX5 yX5_hadSupervisor yX5_hadSupervisor : Cond) ∈ WM := ic_wc10 _ (List.mem_of_getElem? (i := 29) rfl)
theorem qw_430 : (.methodLink RX6 96 yX3_placesOf : Cond) ∈ WM := ic_wc10 _ (List.mem_of_getElem? (i := 30) rfl)
theorem qw_431 : (.instanceMethod yX3_placesOf : Cond) ∈ WM := ic_wc10 _ (List.mem_of_getElem? (i := 31) rfl)
theorem qw_432 : (.selects RX3 yX3_placesOf yX3_placesOf : Cond) ∈ WM := ic_wc10 _ (List.mem_of_getElem? (i := 32) rfl)
theorem qw_433 : (.methodLink RX6 99 yX3_addPlace : Cond) ∈ WM := ic_wc10 _ (List.mem_of_getElem? (i := 33) rfl)
theorem qw_434 : (.instanceMethod yX3_addPlace : Cond) ∈ WM := ic_wc10 _ (List.mem_of_getElem? (i := 34) rfl)
theorem qw_435 : (.selects RX3 yX3_addPlace yX3_addPlace : Cond) ∈ WM := ic_wc10 _ (List.mem_of_getElem? (i := 35) rfl)
theorem qw_436 : (.code yX6_place cX6_place 5 (some .int) : Cond) ∈ WM := ic_wc10 _ (List.mem_of_getElem? (i := 36) rfl)
theorem qw_437 : (.methodLink RX6 103 yX5_runners : Cond) ∈ WM := ic_wc10 _ (List.mem_of_getElem? (i := 37) rfl)
theorem qw_438 : (.instanceMethod yX5_runners : Cond) ∈ WM := ic_wc10 _ (List.mem_of_getElem? (i := 38) rfl)
theorem qw_439 : (.selects RX5 yX5_runners yX5_runners : Cond) ∈ WM := ic_wc10 _ (List.mem_of_getElem? (i := 39) rfl)
theorem qw_440 : (.methodLink RX6 106 yX5_madeOf : Cond) ∈ WM := ic_wc11 _ (List.mem_of_getElem? (i := 0) rfl)
theorem qw_441 : (.instanceMethod yX5_madeOf : Cond) ∈ WM := ic_wc11 _ (List.mem_of_getElem? (i := 1) rfl)
theorem qw_442 : (.selects RX5 yX5_madeOf yX5_madeOf : Cond) ∈ WM := ic_wc11 _ (List.mem_of_getElem? (i := 2) rfl)
theorem qw_443 : (.code yX6_ofModule cX6_ofModule 4 (some .int) : Cond) ∈ WM := ic_wc11 _ (List.mem_of_getElem? (i := 3) rfl)
theorem qw_444 : (.fieldLink RX6 113 "MailDen$Proc" "number" "I" : Cond) ∈ WM := ic_wc11 _ (List.mem_of_getElem? (i := 4) rfl)
theorem qw_445 : (.methodLink RX6 109 yX5_comesOfModule : Cond) ∈ WM := ic_wc11 _ (List.mem_of_getElem? (i := 5) rfl)
theorem qw_446 : (.code yX6_start cX6_start 3 (some .int) : Cond) ∈ WM := ic_wc11 _ (List.mem_of_getElem? (i := 6) rfl)
theorem qw_447 : (.fieldLink RX6 118 "MailDen$World" "count" "I" : Cond) ∈ WM := ic_wc11 _ (List.mem_of_getElem? (i := 7) rfl)
theorem qw_448 : (.methodLink RX6 119 yX5_comesFromOutside : Cond) ∈ WM := ic_wc11 _ (List.mem_of_getElem? (i := 8) rfl)
theorem qw_449 : (.instanceMethod yX5_comesFromOutside : Cond) ∈ WM := ic_wc11 _ (List.mem_of_getElem? (i := 9) rfl)
theorem qw_450 : (.selects RX5 yX5_comesFromOutside yX5_comesFromOutside : Cond) ∈ WM := ic_wc11 _ (List.mem_of_getElem? (i := 10) rfl)
theorem qw_451 : (.code yX6_supervise cX6_supervise 2 (some .int) : Cond) ∈ WM := ic_wc11 _ (List.mem_of_getElem? (i := 11) rfl)
theorem qw_452 : (.methodLink RX6 122 yX5_doTurn : Cond) ∈ WM := ic_wc11 _ (List.mem_of_getElem? (i := 12) rfl)
theorem qw_453 : (.instanceMethod yX5_doTurn : Cond) ∈ WM := ic_wc11 _ (List.mem_of_getElem? (i := 13) rfl)
theorem qw_454 : (.selects RX5 yX5_doTurn yX5_doTurn : Cond) ∈ WM := ic_wc11 _ (List.mem_of_getElem? (i := 14) rfl)
theorem qw_455 : (.code yX6_run cX6_run 3 (some .int) : Cond) ∈ WM := ic_wc11 _ (List.mem_of_getElem? (i := 15) rfl)
theorem qw_456 : (.methodLink RX6 126 yX5_passTime : Cond) ∈ WM := ic_wc11 _ (List.mem_of_getElem? (i := 16) rfl)
theorem qw_457 : (.instanceMethod yX5_passTime : Cond) ∈ WM := ic_wc11 _ (List.mem_of_getElem? (i := 17) rfl)
theorem qw_458 : (.selects RX5 yX5_passTime yX5_passTime : Cond) ∈ WM := ic_wc11 _ (List.mem_of_getElem? (i := 18) rfl)
theorem qw_459 : (.code yX6_tick cX6_tick 4 (some .int) : Cond) ∈ WM := ic_wc11 _ (List.mem_of_getElem? (i := 19) rfl)
theorem qw_460 : (.methodLink RX6 301 yX5_procAt : Cond) ∈ WM := ic_wc11 _ (List.mem_of_getElem? (i := 20) rfl)
theorem qw_461 : (.code yX6_checkProcess cX6_checkProcess 3 (some (.object "MailDen$Proc")) : Cond) ∈ WM := ic_wc11 _ (List.mem_of_getElem? (i := 21) rfl)
theorem qw_462 : (.methodLink RX6 130 yX6_checkProcess : Cond) ∈ WM := ic_wc11 _ (List.mem_of_getElem? (i := 22) rfl)
theorem qw_463 : (.instanceMethod yX6_checkProcess : Cond) ∈ WM := ic_wc11 _ (List.mem_of_getElem? (i := 23) rfl)
theorem qw_464 : (.selects RX6 yX6_checkProcess yX6_checkProcess : Cond) ∈ WM := ic_wc11 _ (List.mem_of_getElem? (i := 24) rfl)
theorem qw_465 : (.methodLink RX6 134 yX5_putMail : Cond) ∈ WM := ic_wc11 _ (List.mem_of_getElem? (i := 25) rfl)
theorem qw_466 : (.code yX6_send cX6_send 4 (some .boolean) : Cond) ∈ WM := ic_wc11 _ (List.mem_of_getElem? (i := 26) rfl)
theorem qw_467 : (.methodLink RX6 137 yX5_signalTo : Cond) ∈ WM := ic_wc11 _ (List.mem_of_getElem? (i := 27) rfl)
theorem qw_468 : (.methodLink RX6 141 yX5_settle : Cond) ∈ WM := ic_wc11 _ (List.mem_of_getElem? (i := 28) rfl)
theorem qw_469 : (.code yX6_signal cX6_signal 4 (some .int) : Cond) ∈ WM := ic_wc11 _ (List.mem_of_getElem? (i := 29) rfl)
theorem qw_470 : (.fieldLink RX6 144 "MailDen$Proc" "module" "I" : Cond) ∈ WM := ic_wc11 _ (List.mem_of_getElem? (i := 30) rfl)
theorem qw_471 : (.fieldLink RX6 147 "MailDen$Proc" "version" "I" : Cond) ∈ WM := ic_wc11 _ (List.mem_of_getElem? (i := 31) rfl)
theorem qw_472 : (.fieldLink RX6 150 "MailDen$Proc" "status" "I" : Cond) ∈ WM := ic_wc11 _ (List.mem_of_getElem? (i := 32) rfl)
theorem qw_473 : (.fieldLink RX6 153 "MailDen$Proc" "reason" "I" : Cond) ∈ WM := ic_wc11 _ (List.mem_of_getElem? (i := 33) rfl)
theorem qw_474 : (.fieldLink RX6 160 "MailDen$Proc" "there" "I" : Cond) ∈ WM := ic_wc11 _ (List.mem_of_getElem? (i := 34) rfl)
theorem qw_475 : (.fieldLink RX6 163 "MailDen$Proc" "line" "I" : Cond) ∈ WM := ic_wc11 _ (List.mem_of_getElem? (i := 35) rfl)
theorem qw_476 : (.fieldLink RX6 166 "MailDen$Proc" "until" "I" : Cond) ∈ WM := ic_wc11 _ (List.mem_of_getElem? (i := 36) rfl)
theorem qw_477 : (.fieldLink RX6 169 "MailDen$Proc" "box" "LMailDen$Box;" : Cond) ∈ WM := ic_wc11 _ (List.mem_of_getElem? (i := 37) rfl)
theorem qw_478 : (.fieldLink RX6 173 "MailDen$Box" "count" "I" : Cond) ∈ WM := ic_wc11 _ (List.mem_of_getElem? (i := 38) rfl)
theorem qw_479 : (.fieldLink RX6 176 "MailDen$Proc" "links" "I" : Cond) ∈ WM := ic_wc11 _ (List.mem_of_getElem? (i := 39) rfl)
theorem qw_480 : (.fieldLink RX6 179 "MailDen$Proc" "traps" "Z" : Cond) ∈ WM := ic_wc12 _ (List.mem_of_getElem? (i := 0) rfl)
theorem qw_481 : (.fieldLink RX6 183 "MailDen$Proc" "parent" "I" : Cond) ∈ WM := ic_wc12 _ (List.mem_of_getElem? (i := 1) rfl)
theorem qw_482 : (.methodLink RX6 156 yX5_placeInRow : Cond) ∈ WM := ic_wc12 _ (List.mem_of_getElem? (i := 2) rfl)
theorem qw_483 : (.instanceMethod yX5_placeInRow : Cond) ∈ WM := ic_wc12 _ (List.mem_of_getElem? (i := 3) rfl)
theorem qw_484 : (.selects RX5 yX5_placeInRow yX5_placeInRow : Cond) ∈ WM := ic_wc12 _ (List.mem_of_getElem? (i := 4) rfl)
theorem qw_485 : (.methodLink RX6 186 yX5_watchesOf : Cond) ∈ WM := ic_wc12 _ (List.mem_of_getElem? (i := 5) rfl)
theorem qw_486 : (.instanceMethod yX5_watchesOf : Cond) ∈ WM := ic_wc12 _ (List.mem_of_getElem? (i := 6) rfl)
theorem qw_487 : (.selects RX5 yX5_watchesOf yX5_watchesOf : Cond) ∈ WM := ic_wc12 _ (List.mem_of_getElem? (i := 7) rfl)
theorem qw_488 : (.code yX6_ofProcess cX6_ofProcess 4 (some .int) : Cond) ∈ WM := ic_wc12 _ (List.mem_of_getElem? (i := 8) rfl)
theorem qw_489 : (.methodLink RX6 189 yX2_localAt : Cond) ∈ WM := ic_wc12 _ (List.mem_of_getElem? (i := 9) rfl)
theorem qw_490 : (.code yX6_local cX6_local 4 (some .int) : Cond) ∈ WM := ic_wc12 _ (List.mem_of_getElem? (i := 10) rfl)
theorem qw_491 : (.fieldLink RX6 192 "MailDen$Box" "tags" "[I" : Cond) ∈ WM := ic_wc12 _ (List.mem_of_getElem? (i := 11) rfl)
theorem qw_492 : (.fieldLink RX6 196 "MailDen$Box" "numbers" "[I" : Cond) ∈ WM := ic_wc12 _ (List.mem_of_getElem? (i := 12) rfl)
theorem qw_493 : (.code yX6_mail cX6_mail 5 (some .int) : Cond) ∈ WM := ic_wc12 _ (List.mem_of_getElem? (i := 13) rfl)
theorem qw_494 : (.fieldLink RX6 202 "MailDen$Proc" "spec" "I" : Cond) ∈ WM := ic_wc12 _ (List.mem_of_getElem? (i := 14) rfl)
theorem qw_495 : (.fieldLink RX6 211 "MailDen$Proc" "children" "[I" : Cond) ∈ WM := ic_wc12 _ (List.mem_of_getElem? (i := 15) rfl)
theorem qw_496 : (.methodLink RX6 199 yX2_isSupervisor : Cond) ∈ WM := ic_wc12 _ (List.mem_of_getElem? (i := 16) rfl)
theorem qw_497 : (.methodLink RX6 205 yX5_restartsEver : Cond) ∈ WM := ic_wc12 _ (List.mem_of_getElem? (i := 17) rfl)
theorem qw_498 : (.instanceMethod yX5_restartsEver : Cond) ∈ WM := ic_wc12 _ (List.mem_of_getElem? (i := 18) rfl)
theorem qw_499 : (.selects RX5 yX5_restartsEver yX5_restartsEver : Cond) ∈ WM := ic_wc12 _ (List.mem_of_getElem? (i := 19) rfl)
theorem qw_500 : (.methodLink RX6 208 yX5_restartsLately : Cond) ∈ WM := ic_wc12 _ (List.mem_of_getElem? (i := 20) rfl)
theorem qw_501 : (.code yX6_ofSupervisor cX6_ofSupervisor 4 (some .int) : Cond) ∈ WM := ic_wc12 _ (List.mem_of_getElem? (i := 21) rfl)
theorem qw_502 : (.methodLink RX6 214 yX5_holderOf : Cond) ∈ WM := ic_wc12 _ (List.mem_of_getElem? (i := 22) rfl)
theorem qw_503 : (.code yX6_named cX6_named 2 (some .int) : Cond) ∈ WM := ic_wc12 _ (List.mem_of_getElem? (i := 23) rfl)
theorem qw_504 : (.fieldLink RX6 229 "MailDen$World" "lost" "I" : Cond) ∈ WM := ic_wc12 _ (List.mem_of_getElem? (i := 24) rfl)
theorem qw_505 : (.fieldLink RX6 232 "MailDen$World" "now" "I" : Cond) ∈ WM := ic_wc12 _ (List.mem_of_getElem? (i := 25) rfl)
theorem qw_506 : (.fieldLink RX6 235 "MailDen$World" "turns" "I" : Cond) ∈ WM := ic_wc12 _ (List.mem_of_getElem? (i := 26) rfl)
theorem qw_507 : (.fieldLink RX6 238 "MailDen$World" "lines" "I" : Cond) ∈ WM := ic_wc12 _ (List.mem_of_getElem? (i := 27) rfl)
theorem qw_508 : (.methodLink RX6 217 yX5_withStatus : Cond) ∈ WM := ic_wc12 _ (List.mem_of_getElem? (i := 28) rfl)
theorem qw_509 : (.instanceMethod yX5_withStatus : Cond) ∈ WM := ic_wc12 _ (List.mem_of_getElem? (i := 29) rfl)
theorem qw_510 : (.selects RX5 yX5_withStatus yX5_withStatus : Cond) ∈ WM := ic_wc12 _ (List.mem_of_getElem? (i := 30) rfl)
theorem qw_511 : (.methodLink RX6 220 yX5_supervisors : Cond) ∈ WM := ic_wc12 _ (List.mem_of_getElem? (i := 31) rfl)
theorem qw_512 : (.instanceMethod yX5_supervisors : Cond) ∈ WM := ic_wc12 _ (List.mem_of_getElem? (i := 32) rfl)
theorem qw_513 : (.selects RX5 yX5_supervisors yX5_supervisors : Cond) ∈ WM := ic_wc12 _ (List.mem_of_getElem? (i := 33) rfl)
theorem qw_514 : (.methodLink RX6 223 yX5_linkCount : Cond) ∈ WM := ic_wc12 _ (List.mem_of_getElem? (i := 34) rfl)
theorem qw_515 : (.instanceMethod yX5_linkCount : Cond) ∈ WM := ic_wc12 _ (List.mem_of_getElem? (i := 35) rfl)
theorem qw_516 : (.selects RX5 yX5_linkCount yX5_linkCount : Cond) ∈ WM := ic_wc12 _ (List.mem_of_getElem? (i := 36) rfl)
theorem qw_517 : (.methodLink RX6 226 yX5_mailCount : Cond) ∈ WM := ic_wc12 _ (List.mem_of_getElem? (i := 37) rfl)
theorem qw_518 : (.instanceMethod yX5_mailCount : Cond) ∈ WM := ic_wc12 _ (List.mem_of_getElem? (i := 38) rfl)
theorem qw_519 : (.selects RX5 yX5_mailCount yX5_mailCount : Cond) ∈ WM := ic_wc12 _ (List.mem_of_getElem? (i := 39) rfl)
theorem qw_520 : (.code yX6_many cX6_many 2 (some .int) : Cond) ∈ WM := ic_wc13 _ (List.mem_of_getElem? (i := 0) rfl)
theorem qw_521 : (.methodLink RX6 241 yX5_copyFrom : Cond) ∈ WM := ic_wc13 _ (List.mem_of_getElem? (i := 1) rfl)
theorem qw_522 : (.instanceMethod yX5_copyFrom : Cond) ∈ WM := ic_wc13 _ (List.mem_of_getElem? (i := 2) rfl)
theorem qw_523 : (.selects RX5 yX5_copyFrom yX5_copyFrom : Cond) ∈ WM := ic_wc13 _ (List.mem_of_getElem? (i := 3) rfl)
theorem qw_524 : (.methodLink RX6 245 yX5_endedBehind : Cond) ∈ WM := ic_wc13 _ (List.mem_of_getElem? (i := 4) rfl)
theorem qw_525 : (.instanceMethod yX5_endedBehind : Cond) ∈ WM := ic_wc13 _ (List.mem_of_getElem? (i := 5) rfl)
theorem qw_526 : (.selects RX5 yX5_endedBehind yX5_endedBehind : Cond) ∈ WM := ic_wc13 _ (List.mem_of_getElem? (i := 6) rfl)
theorem qw_527 : (.code yX6_wouldFall cX6_wouldFall 3 (some .int) : Cond) ∈ WM := ic_wc13 _ (List.mem_of_getElem? (i := 7) rfl)
theorem qw_528 : (.code yX6_wouldPurge cX6_wouldPurge 2 (some .int) : Cond) ∈ WM := ic_wc13 _ (List.mem_of_getElem? (i := 8) rfl)
theorem qw_529 : (.code yX6_overBy cX6_overBy 5 (some .int) : Cond) ∈ WM := ic_wc13 _ (List.mem_of_getElem? (i := 9) rfl)
theorem qw_530 : (.methodLink RX6 248 yX0_firstOf : Cond) ∈ WM := ic_wc13 _ (List.mem_of_getElem? (i := 10) rfl)
theorem qw_531 : (.code yX6_passedOver cX6_passedOver 4 (some .int) : Cond) ∈ WM := ic_wc13 _ (List.mem_of_getElem? (i := 11) rfl)
theorem qw_532 : (.constantLong RX6 253 (31) : Cond) ∈ WM := ic_wc13 _ (List.mem_of_getElem? (i := 12) rfl)
theorem qw_533 : (.methodLink RX6 274 yX6_ofProcess : Cond) ∈ WM := ic_wc13 _ (List.mem_of_getElem? (i := 13) rfl)
theorem qw_534 : (.instanceMethod yX6_ofProcess : Cond) ∈ WM := ic_wc13 _ (List.mem_of_getElem? (i := 14) rfl)
theorem qw_535 : (.selects RX6 yX6_ofProcess yX6_ofProcess : Cond) ∈ WM := ic_wc13 _ (List.mem_of_getElem? (i := 15) rfl)
theorem qw_536 : (.methodLink RX6 277 yX6_local : Cond) ∈ WM := ic_wc13 _ (List.mem_of_getElem? (i := 16) rfl)
theorem qw_537 : (.instanceMethod yX6_local : Cond) ∈ WM := ic_wc13 _ (List.mem_of_getElem? (i := 17) rfl)
theorem qw_538 : (.selects RX6 yX6_local yX6_local : Cond) ∈ WM := ic_wc13 _ (List.mem_of_getElem? (i := 18) rfl)
theorem qw_539 : (.methodLink RX6 280 yX6_mail : Cond) ∈ WM := ic_wc13 _ (List.mem_of_getElem? (i := 19) rfl)
theorem qw_540 : (.instanceMethod yX6_mail : Cond) ∈ WM := ic_wc13 _ (List.mem_of_getElem? (i := 20) rfl)
theorem qw_541 : (.selects RX6 yX6_mail yX6_mail : Cond) ∈ WM := ic_wc13 _ (List.mem_of_getElem? (i := 21) rfl)
theorem qw_542 : (.methodLink RX6 283 yX6_ofSupervisor : Cond) ∈ WM := ic_wc13 _ (List.mem_of_getElem? (i := 22) rfl)
theorem qw_543 : (.instanceMethod yX6_ofSupervisor : Cond) ∈ WM := ic_wc13 _ (List.mem_of_getElem? (i := 23) rfl)
theorem qw_544 : (.selects RX6 yX6_ofSupervisor yX6_ofSupervisor : Cond) ∈ WM := ic_wc13 _ (List.mem_of_getElem? (i := 24) rfl)
theorem qw_545 : (.methodLink RX6 286 yX6_wouldFall : Cond) ∈ WM := ic_wc13 _ (List.mem_of_getElem? (i := 25) rfl)
theorem qw_546 : (.instanceMethod yX6_wouldFall : Cond) ∈ WM := ic_wc13 _ (List.mem_of_getElem? (i := 26) rfl)
theorem qw_547 : (.selects RX6 yX6_wouldFall yX6_wouldFall : Cond) ∈ WM := ic_wc13 _ (List.mem_of_getElem? (i := 27) rfl)
theorem qw_548 : (.methodLink RX6 289 yX6_passedOver : Cond) ∈ WM := ic_wc13 _ (List.mem_of_getElem? (i := 28) rfl)
theorem qw_549 : (.instanceMethod yX6_passedOver : Cond) ∈ WM := ic_wc13 _ (List.mem_of_getElem? (i := 29) rfl)
theorem qw_550 : (.selects RX6 yX6_passedOver yX6_passedOver : Cond) ∈ WM := ic_wc13 _ (List.mem_of_getElem? (i := 30) rfl)
theorem qw_551 : (.code yX6_digestOfProcess cX6_digestOfProcess 8 (some .long) : Cond) ∈ WM := ic_wc13 _ (List.mem_of_getElem? (i := 31) rfl)
theorem qw_552 : (.constantLong RX6 251 (58144) : Cond) ∈ WM := ic_wc13 _ (List.mem_of_getElem? (i := 32) rfl)
theorem qw_553 : (.methodLink RX6 255 yX6_many : Cond) ∈ WM := ic_wc13 _ (List.mem_of_getElem? (i := 33) rfl)
theorem qw_554 : (.instanceMethod yX6_many : Cond) ∈ WM := ic_wc13 _ (List.mem_of_getElem? (i := 34) rfl)
theorem qw_555 : (.selects RX6 yX6_many yX6_many : Cond) ∈ WM := ic_wc13 _ (List.mem_of_getElem? (i := 35) rfl)
theorem qw_556 : (.methodLink RX6 258 yX6_ofModule : Cond) ∈ WM := ic_wc13 _ (List.mem_of_getElem? (i := 36) rfl)
theorem qw_557 : (.instanceMethod yX6_ofModule : Cond) ∈ WM := ic_wc13 _ (List.mem_of_getElem? (i := 37) rfl)
theorem qw_558 : (.selects RX6 yX6_ofModule yX6_ofModule : Cond) ∈ WM := ic_wc13 _ (List.mem_of_getElem? (i := 38) rfl)
theorem qw_559 : (.methodLink RX6 261 yX6_wouldPurge : Cond) ∈ WM := ic_wc13 _ (List.mem_of_getElem? (i := 39) rfl)
theorem qw_560 : (.instanceMethod yX6_wouldPurge : Cond) ∈ WM := ic_wc14 _ (List.mem_of_getElem? (i := 0) rfl)
theorem qw_561 : (.selects RX6 yX6_wouldPurge yX6_wouldPurge : Cond) ∈ WM := ic_wc14 _ (List.mem_of_getElem? (i := 1) rfl)
theorem qw_562 : (.methodLink RX6 264 yX6_digestOfProcess : Cond) ∈ WM := ic_wc14 _ (List.mem_of_getElem? (i := 2) rfl)
theorem qw_563 : (.instanceMethod yX6_digestOfProcess : Cond) ∈ WM := ic_wc14 _ (List.mem_of_getElem? (i := 3) rfl)
theorem qw_564 : (.selects RX6 yX6_digestOfProcess yX6_digestOfProcess : Cond) ∈ WM := ic_wc14 _ (List.mem_of_getElem? (i := 4) rfl)
theorem qw_565 : (.methodLink RX6 268 yX6_named : Cond) ∈ WM := ic_wc14 _ (List.mem_of_getElem? (i := 5) rfl)
theorem qw_566 : (.instanceMethod yX6_named : Cond) ∈ WM := ic_wc14 _ (List.mem_of_getElem? (i := 6) rfl)
theorem qw_567 : (.selects RX6 yX6_named yX6_named : Cond) ∈ WM := ic_wc14 _ (List.mem_of_getElem? (i := 7) rfl)
theorem qw_568 : (.methodLink RX6 271 yX6_overBy : Cond) ∈ WM := ic_wc14 _ (List.mem_of_getElem? (i := 8) rfl)
theorem qw_569 : (.instanceMethod yX6_overBy : Cond) ∈ WM := ic_wc14 _ (List.mem_of_getElem? (i := 9) rfl)
theorem qw_570 : (.selects RX6 yX6_overBy yX6_overBy : Cond) ∈ WM := ic_wc14 _ (List.mem_of_getElem? (i := 10) rfl)
theorem qw_571 : (.code yX6_digest cX6_digest 5 (some .long) : Cond) ∈ WM := ic_wc14 _ (List.mem_of_getElem? (i := 11) rfl)
theorem qw_572 : (.constant RL 7 (2147483647) : Cond) ∈ WM := ic_wc14 _ (List.mem_of_getElem? (i := 12) rfl)
theorem qw_573 : (.code yL_below cL_below 2 (some .int) : Cond) ∈ WM := ic_wc14 _ (List.mem_of_getElem? (i := 13) rfl)
theorem qw_574 : (.constant RL 8 (790386105) : Cond) ∈ WM := ic_wc14 _ (List.mem_of_getElem? (i := 14) rfl)
theorem qw_575 : (.code yL_cell cL_cell 2 (some .int) : Cond) ∈ WM := ic_wc14 _ (List.mem_of_getElem? (i := 15) rfl)
theorem qw_576 : (.classLink RL 63 "[I" : Cond) ∈ WM := ic_wc14 _ (List.mem_of_getElem? (i := 16) rfl)
theorem qw_577 : (.methodLink RL 12 yL_cell : Cond) ∈ WM := ic_wc14 _ (List.mem_of_getElem? (i := 17) rfl)
theorem qw_578 : (.static yL_cell : Cond) ∈ WM := ic_wc14 _ (List.mem_of_getElem? (i := 18) rfl)
theorem qw_579 : (.initialized RL : Cond) ∈ WM := ic_wc14 _ (List.mem_of_getElem? (i := 19) rfl)
theorem qw_580 : (.methodLink RL 18 yL_below : Cond) ∈ WM := ic_wc14 _ (List.mem_of_getElem? (i := 20) rfl)
theorem qw_581 : (.static yL_below : Cond) ∈ WM := ic_wc14 _ (List.mem_of_getElem? (i := 21) rfl)
theorem qw_582 : (.methodLink RL 65 yX6_line : Cond) ∈ WM := ic_wc14 _ (List.mem_of_getElem? (i := 22) rfl)
theorem qw_583 : (.instanceMethod yX6_line : Cond) ∈ WM := ic_wc14 _ (List.mem_of_getElem? (i := 23) rfl)
theorem qw_584 : (.selects RX6 yX6_line yX6_line : Cond) ∈ WM := ic_wc14 _ (List.mem_of_getElem? (i := 24) rfl)
theorem qw_585 : (.code yL_write cL_write 10 (some .boolean) : Cond) ∈ WM := ic_wc14 _ (List.mem_of_getElem? (i := 25) rfl)
theorem qw_586 : (.methodLink RL 110 yX6_ofProcess : Cond) ∈ WM := ic_wc14 _ (List.mem_of_getElem? (i := 26) rfl)
theorem qw_587 : (.code yL_isLost cL_isLost 3 (some .boolean) : Cond) ∈ WM := ic_wc14 _ (List.mem_of_getElem? (i := 27) rfl)
theorem qw_588 : (.methodLink RL 57 yX6_many : Cond) ∈ WM := ic_wc14 _ (List.mem_of_getElem? (i := 28) rfl)
theorem qw_589 : (.code yL_areOver cL_areOver 3 (some .boolean) : Cond) ∈ WM := ic_wc14 _ (List.mem_of_getElem? (i := 29) rfl)
theorem qw_590 : (.methodLink RL 38 yX6_start : Cond) ∈ WM := ic_wc14 _ (List.mem_of_getElem? (i := 30) rfl)
theorem qw_591 : (.instanceMethod yX6_start : Cond) ∈ WM := ic_wc14 _ (List.mem_of_getElem? (i := 31) rfl)
theorem qw_592 : (.selects RX6 yX6_start yX6_start : Cond) ∈ WM := ic_wc14 _ (List.mem_of_getElem? (i := 32) rfl)
theorem qw_593 : (.methodLink RL 69 yX6_supervise : Cond) ∈ WM := ic_wc14 _ (List.mem_of_getElem? (i := 33) rfl)
theorem qw_594 : (.instanceMethod yX6_supervise : Cond) ∈ WM := ic_wc14 _ (List.mem_of_getElem? (i := 34) rfl)
theorem qw_595 : (.selects RX6 yX6_supervise yX6_supervise : Cond) ∈ WM := ic_wc14 _ (List.mem_of_getElem? (i := 35) rfl)
theorem qw_596 : (.methodLink RL 72 yX6_send : Cond) ∈ WM := ic_wc14 _ (List.mem_of_getElem? (i := 36) rfl)
theorem qw_597 : (.instanceMethod yX6_send : Cond) ∈ WM := ic_wc14 _ (List.mem_of_getElem? (i := 37) rfl)
theorem qw_598 : (.selects RX6 yX6_send yX6_send : Cond) ∈ WM := ic_wc14 _ (List.mem_of_getElem? (i := 38) rfl)
theorem qw_599 : (.methodLink RL 76 yL_isLost : Cond) ∈ WM := ic_wc14 _ (List.mem_of_getElem? (i := 39) rfl)
theorem qw_600 : (.static yL_isLost : Cond) ∈ WM := ic_wc15 _ (List.mem_of_getElem? (i := 0) rfl)
theorem qw_601 : (.methodLink RL 80 yX6_tick : Cond) ∈ WM := ic_wc15 _ (List.mem_of_getElem? (i := 1) rfl)
theorem qw_602 : (.instanceMethod yX6_tick : Cond) ∈ WM := ic_wc15 _ (List.mem_of_getElem? (i := 2) rfl)
theorem qw_603 : (.selects RX6 yX6_tick yX6_tick : Cond) ∈ WM := ic_wc15 _ (List.mem_of_getElem? (i := 3) rfl)
theorem qw_604 : (.methodLink RL 83 yX6_wouldFall : Cond) ∈ WM := ic_wc15 _ (List.mem_of_getElem? (i := 4) rfl)
theorem qw_605 : (.methodLink RL 86 yX6_signal : Cond) ∈ WM := ic_wc15 _ (List.mem_of_getElem? (i := 5) rfl)
theorem qw_606 : (.instanceMethod yX6_signal : Cond) ∈ WM := ic_wc15 _ (List.mem_of_getElem? (i := 6) rfl)
theorem qw_607 : (.selects RX6 yX6_signal yX6_signal : Cond) ∈ WM := ic_wc15 _ (List.mem_of_getElem? (i := 7) rfl)
theorem qw_608 : (.methodLink RL 89 yJ6_bitCount_0f7a4 : Cond) ∈ WM := ic_wc15 _ (List.mem_of_getElem? (i := 8) rfl)
theorem qw_609 : (.methodLink RL 94 yL_areOver : Cond) ∈ WM := ic_wc15 _ (List.mem_of_getElem? (i := 9) rfl)
theorem qw_610 : (.static yL_areOver : Cond) ∈ WM := ic_wc15 _ (List.mem_of_getElem? (i := 10) rfl)
theorem qw_611 : (.methodLink RL 98 yX6_wouldPurge : Cond) ∈ WM := ic_wc15 _ (List.mem_of_getElem? (i := 11) rfl)
theorem qw_612 : (.methodLink RL 101 yX6_ofModule : Cond) ∈ WM := ic_wc15 _ (List.mem_of_getElem? (i := 12) rfl)
theorem qw_613 : (.methodLink RL 104 yX6_load : Cond) ∈ WM := ic_wc15 _ (List.mem_of_getElem? (i := 13) rfl)
theorem qw_614 : (.instanceMethod yX6_load : Cond) ∈ WM := ic_wc15 _ (List.mem_of_getElem? (i := 14) rfl)
theorem qw_615 : (.selects RX6 yX6_load yX6_load : Cond) ∈ WM := ic_wc15 _ (List.mem_of_getElem? (i := 15) rfl)
theorem qw_616 : (.methodLink RL 107 yX6_run : Cond) ∈ WM := ic_wc15 _ (List.mem_of_getElem? (i := 16) rfl)
theorem qw_617 : (.instanceMethod yX6_run : Cond) ∈ WM := ic_wc15 _ (List.mem_of_getElem? (i := 17) rfl)
theorem qw_618 : (.selects RX6 yX6_run yX6_run : Cond) ∈ WM := ic_wc15 _ (List.mem_of_getElem? (i := 18) rfl)
theorem qw_619 : (.code yL_isActed cL_isActed 13 (some .boolean) : Cond) ∈ WM := ic_wc15 _ (List.mem_of_getElem? (i := 19) rfl)
theorem qw_620 : (.methodLink RL 119 yX6_ofSupervisor : Cond) ∈ WM := ic_wc15 _ (List.mem_of_getElem? (i := 20) rfl)
theorem qw_621 : (.code yL_isKnown cL_isKnown 5 (some .boolean) : Cond) ∈ WM := ic_wc15 _ (List.mem_of_getElem? (i := 21) rfl)
theorem qw_622 : (.methodLink RL 113 yL_isKnown : Cond) ∈ WM := ic_wc15 _ (List.mem_of_getElem? (i := 22) rfl)
theorem qw_623 : (.static yL_isKnown : Cond) ∈ WM := ic_wc15 _ (List.mem_of_getElem? (i := 23) rfl)
theorem qw_624 : (.methodLink RL 116 yX6_named : Cond) ∈ WM := ic_wc15 _ (List.mem_of_getElem? (i := 24) rfl)
theorem qw_625 : (.code yL_isSound cL_isSound 8 (some .boolean) : Cond) ∈ WM := ic_wc15 _ (List.mem_of_getElem? (i := 25) rfl)
theorem qw_626 : (.classLink RL 9 RX6 : Cond) ∈ WM := ic_wc15 _ (List.mem_of_getElem? (i := 26) rfl)
theorem qw_627 : (.instantiable RX6 4 : Cond) ∈ WM := ic_wc15 _ (List.mem_of_getElem? (i := 27) rfl)
theorem qw_628 : (.methodLink RL 11 yX6_init : Cond) ∈ WM := ic_wc15 _ (List.mem_of_getElem? (i := 28) rfl)
theorem qw_629 : (.instanceMethod yX6_init : Cond) ∈ WM := ic_wc15 _ (List.mem_of_getElem? (i := 29) rfl)
theorem qw_630 : (.methodLink RL 22 yX6_module : Cond) ∈ WM := ic_wc15 _ (List.mem_of_getElem? (i := 30) rfl)
theorem qw_631 : (.instanceMethod yX6_module : Cond) ∈ WM := ic_wc15 _ (List.mem_of_getElem? (i := 31) rfl)
theorem qw_632 : (.selects RX6 yX6_module yX6_module : Cond) ∈ WM := ic_wc15 _ (List.mem_of_getElem? (i := 32) rfl)
theorem qw_633 : (.methodLink RL 26 yL_write : Cond) ∈ WM := ic_wc15 _ (List.mem_of_getElem? (i := 33) rfl)
theorem qw_634 : (.static yL_write : Cond) ∈ WM := ic_wc15 _ (List.mem_of_getElem? (i := 34) rfl)
theorem qw_635 : (.methodLink RL 30 yX6_spec : Cond) ∈ WM := ic_wc15 _ (List.mem_of_getElem? (i := 35) rfl)
theorem qw_636 : (.instanceMethod yX6_spec : Cond) ∈ WM := ic_wc15 _ (List.mem_of_getElem? (i := 36) rfl)
theorem qw_637 : (.selects RX6 yX6_spec yX6_spec : Cond) ∈ WM := ic_wc15 _ (List.mem_of_getElem? (i := 37) rfl)
theorem qw_638 : (.methodLink RL 34 yX6_place : Cond) ∈ WM := ic_wc15 _ (List.mem_of_getElem? (i := 38) rfl)
theorem qw_639 : (.instanceMethod yX6_place : Cond) ∈ WM := ic_wc15 _ (List.mem_of_getElem? (i := 39) rfl)
theorem qw_640 : (.selects RX6 yX6_place yX6_place : Cond) ∈ WM := ic_wc16 _ (List.mem_of_getElem? (i := 0) rfl)
theorem qw_641 : (.methodLink RL 42 yL_isActed : Cond) ∈ WM := ic_wc16 _ (List.mem_of_getElem? (i := 1) rfl)
theorem qw_642 : (.static yL_isActed : Cond) ∈ WM := ic_wc16 _ (List.mem_of_getElem? (i := 2) rfl)
theorem qw_643 : (.methodLink RL 46 yL_isSound : Cond) ∈ WM := ic_wc16 _ (List.mem_of_getElem? (i := 3) rfl)
theorem qw_644 : (.static yL_isSound : Cond) ∈ WM := ic_wc16 _ (List.mem_of_getElem? (i := 4) rfl)
theorem qw_645 : (.methodLink RL 50 yX6_digest : Cond) ∈ WM := ic_wc16 _ (List.mem_of_getElem? (i := 5) rfl)
theorem qw_646 : (.instanceMethod yX6_digest : Cond) ∈ WM := ic_wc16 _ (List.mem_of_getElem? (i := 6) rfl)
theorem qw_647 : (.selects RX6 yX6_digest yX6_digest : Cond) ∈ WM := ic_wc16 _ (List.mem_of_getElem? (i := 7) rfl)
theorem qw_648 : (.methodLink RL 54 yX6_overBy : Cond) ∈ WM := ic_wc16 _ (List.mem_of_getElem? (i := 8) rfl)
theorem qw_649 : (.methodLink RL 60 yX6_passedOver : Cond) ∈ WM := ic_wc16 _ (List.mem_of_getElem? (i := 9) rfl)
