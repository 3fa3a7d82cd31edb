section
/-! the names of the class, as the kit's command prints them of the program (cut to the class); one list of words for all its methods -/
def RX0 : String := "MailDen$Box"
def TX0 : u_T := fun k => match k with
  | 0 => ("MailDen$Box", "tags", "[I", true)
  | 1 => ("MailDen$Box", "numbers", "[I", true)
  | _ => ("MailDen$Box", "count", "I", false)
def tyX0 : Nat → FieldType := fun k => match k with
  | 0 => .array .int
  | 1 => .array .int
  | _ => .int
theorem nmX0 : ∀ a, a < 3 → ∀ b, b < 3 → a ≠ b → (TX0 a).2.1 ≠ (TX0 b).2.1 := by decide +kernel
theorem tyX0_ok : ∀ k, k < 3 → parseFieldDescriptor (TX0 k).2.2.1 = some (tyX0 k) := by decide +kernel
abbrev cX0_init : ByteArray := prog_2_method_1_code
def yX0_init : MethodName := ⟨RX0, "<init>", "()V"⟩
abbrev cX0_put : ByteArray := prog_2_method_2_code
def yX0_put : MethodName := ⟨RX0, "put", "(II)Z"⟩
abbrev cX0_firstOf : ByteArray := prog_2_method_3_code
def yX0_firstOf : MethodName := ⟨RX0, "firstOf", "(I)I"⟩
abbrev cX0_takeOut : ByteArray := prog_2_method_4_code
def yX0_takeOut : MethodName := ⟨RX0, "takeOut", "(I)I"⟩
abbrev cX0_copyFrom : ByteArray := prog_2_method_5_code
def yX0_copyFrom : MethodName := ⟨RX0, "copyFrom", "(LMailDen$Box;)V"⟩
def RX1 : String := "MailDen$Codes"
def TX1 : u_T := fun k => match k with
  | 0 => ("MailDen$Codes", "modules", "I", false)
  | 1 => ("MailDen$Codes", "lineCounts", "[I", true)
  | 2 => ("MailDen$Codes", "kinds", "[I", true)
  | 3 => ("MailDen$Codes", "as", "[I", true)
  | _ => ("MailDen$Codes", "bs", "[I", true)
def tyX1 : Nat → FieldType := fun k => match k with
  | 0 => .int
  | 1 => .array .int
  | 2 => .array .int
  | 3 => .array .int
  | _ => .array .int
theorem nmX1 : ∀ a, a < 5 → ∀ b, b < 5 → a ≠ b → (TX1 a).2.1 ≠ (TX1 b).2.1 := by decide +kernel
theorem tyX1_ok : ∀ k, k < 5 → parseFieldDescriptor (TX1 k).2.2.1 = some (tyX1 k) := by decide +kernel
abbrev cX1_init : ByteArray := prog_3_method_1_code
def yX1_init : MethodName := ⟨RX1, "<init>", "()V"⟩
abbrev cX1_hasModule : ByteArray := prog_3_method_2_code
def yX1_hasModule : MethodName := ⟨RX1, "hasModule", "(I)Z"⟩
abbrev cX1_rowOf : ByteArray := prog_3_method_3_code
def yX1_rowOf : MethodName := ⟨RX1, "rowOf", "(II)I"⟩
abbrev cX1_linesOf : ByteArray := prog_3_method_4_code
def yX1_linesOf : MethodName := ⟨RX1, "linesOf", "(II)I"⟩
abbrev cX1_lineAt : ByteArray := prog_3_method_5_code
def yX1_lineAt : MethodName := ⟨RX1, "lineAt", "(III)I"⟩
abbrev cX1_isLine : ByteArray := prog_3_method_6_code
def yX1_isLine : MethodName := ⟨RX1, "isLine", "(IIII)Z"⟩
abbrev cX1_addLine : ByteArray := prog_3_method_7_code
def yX1_addLine : MethodName := ⟨RX1, "addLine", "(IIIII)I"⟩
def RX2 : String := "MailDen$Proc"
def TX2 : u_T := fun k => match k with
  | 0 => ("MailDen$Proc", "number", "I", true)
  | 1 => ("MailDen$Proc", "module", "I", false)
  | 2 => ("MailDen$Proc", "version", "I", false)
  | 3 => ("MailDen$Proc", "spec", "I", false)
  | 4 => ("MailDen$Proc", "parent", "I", false)
  | 5 => ("MailDen$Proc", "status", "I", false)
  | 6 => ("MailDen$Proc", "reason", "I", false)
  | 7 => ("MailDen$Proc", "there", "I", false)
  | 8 => ("MailDen$Proc", "line", "I", false)
  | 9 => ("MailDen$Proc", "until", "I", false)
  | 10 => ("MailDen$Proc", "wait", "I", false)
  | 11 => ("MailDen$Proc", "ticket", "I", false)
  | 12 => ("MailDen$Proc", "traps", "Z", false)
  | 13 => ("MailDen$Proc", "links", "I", false)
  | 14 => ("MailDen$Proc", "emptyPlaces", "I", false)
  | 15 => ("MailDen$Proc", "locals", "[I", true)
  | 16 => ("MailDen$Proc", "children", "[I", true)
  | 17 => ("MailDen$Proc", "box", "LMailDen$Box;", true)
  | _ => ("MailDen$Proc", "watches", "LMailDen$Watches;", true)
def tyX2 : Nat → FieldType := fun k => match k with
  | 0 => .int
  | 1 => .int
  | 2 => .int
  | 3 => .int
  | 4 => .int
  | 5 => .int
  | 6 => .int
  | 7 => .int
  | 8 => .int
  | 9 => .int
  | 10 => .int
  | 11 => .int
  | 12 => .boolean
  | 13 => .int
  | 14 => .int
  | 15 => .array .int
  | 16 => .array .int
  | 17 => .object "MailDen$Box"
  | _ => .object "MailDen$Watches"
theorem nmX2 : ∀ a, a < 19 → ∀ b, b < 19 → a ≠ b → (TX2 a).2.1 ≠ (TX2 b).2.1 := by decide +kernel
theorem tyX2_ok : ∀ k, k < 19 → parseFieldDescriptor (TX2 k).2.2.1 = some (tyX2 k) := by decide +kernel
abbrev cX2_init : ByteArray := prog_4_method_1_code
def yX2_init : MethodName := ⟨RX2, "<init>", "(I)V"⟩
abbrev cX2_copyFrom : ByteArray := prog_4_method_2_code
def yX2_copyFrom : MethodName := ⟨RX2, "copyFrom", "(LMailDen$Proc;)V"⟩
abbrev cX2_isSupervisor : ByteArray := prog_4_method_3_code
def yX2_isSupervisor : MethodName := ⟨RX2, "isSupervisor", "()Z"⟩
abbrev cX2_isLinkedWith : ByteArray := prog_4_method_4_code
def yX2_isLinkedWith : MethodName := ⟨RX2, "isLinkedWith", "(I)Z"⟩
abbrev cX2_isEmptyPlace : ByteArray := prog_4_method_5_code
def yX2_isEmptyPlace : MethodName := ⟨RX2, "isEmptyPlace", "(I)Z"⟩
abbrev cX2_localAt : ByteArray := prog_4_method_6_code
def yX2_localAt : MethodName := ⟨RX2, "localAt", "(I)I"⟩
abbrev cX2_putLocal : ByteArray := prog_4_method_7_code
def yX2_putLocal : MethodName := ⟨RX2, "putLocal", "(II)V"⟩
abbrev cX2_hold : ByteArray := prog_4_method_8_code
def yX2_hold : MethodName := ⟨RX2, "hold", "(I)V"⟩
abbrev cX2_takeMail : ByteArray := prog_4_method_9_code
def yX2_takeMail : MethodName := ⟨RX2, "takeMail", "(I)Z"⟩
abbrev cX2_waitFor : ByteArray := prog_4_method_10_code
def yX2_waitFor : MethodName := ⟨RX2, "waitFor", "(II)V"⟩
abbrev cX2_waitsForMail : ByteArray := prog_4_method_11_code
def yX2_waitsForMail : MethodName := ⟨RX2, "waitsForMail", "(I)Z"⟩
abbrev cX2_resume : ByteArray := prog_4_method_12_code
def yX2_resume : MethodName := ⟨RX2, "resume", "()V"⟩
abbrev cX2_placeOf : ByteArray := prog_4_method_13_code
def yX2_placeOf : MethodName := ⟨RX2, "placeOf", "(I)I"⟩
def RX3 : String := "MailDen$Specs"
def TX3 : u_T := fun k => match k with
  | 0 => ("MailDen$Specs", "count", "I", false)
  | 1 => ("MailDen$Specs", "strategies", "[I", true)
  | 2 => ("MailDen$Specs", "mosts", "[I", true)
  | 3 => ("MailDen$Specs", "withins", "[I", true)
  | 4 => ("MailDen$Specs", "placeCounts", "[I", true)
  | 5 => ("MailDen$Specs", "ofSpecs", "[Z", true)
  | 6 => ("MailDen$Specs", "numbers", "[I", true)
  | _ => ("MailDen$Specs", "modes", "[I", true)
def tyX3 : Nat → FieldType := fun k => match k with
  | 0 => .int
  | 1 => .array .int
  | 2 => .array .int
  | 3 => .array .int
  | 4 => .array .int
  | 5 => .array .boolean
  | 6 => .array .int
  | _ => .array .int
theorem nmX3 : ∀ a, a < 8 → ∀ b, b < 8 → a ≠ b → (TX3 a).2.1 ≠ (TX3 b).2.1 := by decide +kernel
theorem tyX3_ok : ∀ k, k < 8 → parseFieldDescriptor (TX3 k).2.2.1 = some (tyX3 k) := by decide +kernel
abbrev cX3_init : ByteArray := prog_5_method_1_code
def yX3_init : MethodName := ⟨RX3, "<init>", "()V"⟩
abbrev cX3_hasSpec : ByteArray := prog_5_method_2_code
def yX3_hasSpec : MethodName := ⟨RX3, "hasSpec", "(I)Z"⟩
abbrev cX3_placesOf : ByteArray := prog_5_method_3_code
def yX3_placesOf : MethodName := ⟨RX3, "placesOf", "(I)I"⟩
abbrev cX3_placeAt : ByteArray := prog_5_method_4_code
def yX3_placeAt : MethodName := ⟨RX3, "placeAt", "(II)I"⟩
abbrev cX3_addSpec : ByteArray := prog_5_method_5_code
def yX3_addSpec : MethodName := ⟨RX3, "addSpec", "(III)I"⟩
abbrev cX3_addPlace : ByteArray := prog_5_method_6_code
def yX3_addPlace : MethodName := ⟨RX3, "addPlace", "(IZII)I"⟩
def RX4 : String := "MailDen$Watches"
def TX4 : u_T := fun k => match k with
  | 0 => ("MailDen$Watches", "watchers", "[I", true)
  | 1 => ("MailDen$Watches", "times", "[I", true)
  | _ => ("MailDen$Watches", "count", "I", false)
def tyX4 : Nat → FieldType := fun k => match k with
  | 0 => .array .int
  | 1 => .array .int
  | _ => .int
theorem nmX4 : ∀ a, a < 3 → ∀ b, b < 3 → a ≠ b → (TX4 a).2.1 ≠ (TX4 b).2.1 := by decide +kernel
theorem tyX4_ok : ∀ k, k < 3 → parseFieldDescriptor (TX4 k).2.2.1 = some (tyX4 k) := by decide +kernel
abbrev cX4_init : ByteArray := prog_6_method_1_code
def yX4_init : MethodName := ⟨RX4, "<init>", "()V"⟩
abbrev cX4_add : ByteArray := prog_6_method_2_code
def yX4_add : MethodName := ⟨RX4, "add", "(I)V"⟩
abbrev cX4_copyFrom : ByteArray := prog_6_method_3_code
def yX4_copyFrom : MethodName := ⟨RX4, "copyFrom", "(LMailDen$Watches;)V"⟩
def RX5 : String := "MailDen$World"
def TX5 : u_T := fun k => match k with
  | 0 => ("MailDen$World", "codes", "LMailDen$Codes;", true)
  | 1 => ("MailDen$World", "specs", "LMailDen$Specs;", true)
  | 2 => ("MailDen$World", "current", "[I", true)
  | 3 => ("MailDen$World", "names", "[I", true)
  | 4 => ("MailDen$World", "procs", "[LMailDen$Proc;", true)
  | 5 => ("MailDen$World", "count", "I", false)
  | 6 => ("MailDen$World", "now", "I", false)
  | 7 => ("MailDen$World", "lost", "I", false)
  | 8 => ("MailDen$World", "turns", "I", false)
  | 9 => ("MailDen$World", "lines", "I", false)
  | 10 => ("MailDen$World", "tickets", "I", false)
  | 11 => ("MailDen$World", "ended", "[I", true)
  | 12 => ("MailDen$World", "endedCount", "I", false)
  | 13 => ("MailDen$World", "settledCount", "I", false)
  | 14 => ("MailDen$World", "restartOf", "[I", true)
  | 15 => ("MailDen$World", "restartAt", "[I", true)
  | _ => ("MailDen$World", "restartCount", "I", false)
def tyX5 : Nat → FieldType := fun k => match k with
  | 0 => .object "MailDen$Codes"
  | 1 => .object "MailDen$Specs"
  | 2 => .array .int
  | 3 => .array .int
  | 4 => .array (.object "MailDen$Proc")
  | 5 => .int
  | 6 => .int
  | 7 => .int
  | 8 => .int
  | 9 => .int
  | 10 => .int
  | 11 => .array .int
  | 12 => .int
  | 13 => .int
  | 14 => .array .int
  | 15 => .array .int
  | _ => .int
theorem nmX5 : ∀ a, a < 17 → ∀ b, b < 17 → a ≠ b → (TX5 a).2.1 ≠ (TX5 b).2.1 := by decide +kernel
theorem tyX5_ok : ∀ k, k < 17 → parseFieldDescriptor (TX5 k).2.2.1 = some (tyX5 k) := by decide +kernel
abbrev cX5_init : ByteArray := prog_7_method_1_code
def yX5_init : MethodName := ⟨RX5, "<init>", "(LMailDen$Codes;LMailDen$Specs;)V"⟩
abbrev cX5_copyFrom : ByteArray := prog_7_method_2_code
def yX5_copyFrom : MethodName := ⟨RX5, "copyFrom", "(LMailDen$World;)V"⟩
abbrev cX5_procAt : ByteArray := prog_7_method_3_code
def yX5_procAt : MethodName := ⟨RX5, "procAt", "(I)LMailDen$Proc;"⟩
abbrev cX5_living : ByteArray := prog_7_method_4_code
def yX5_living : MethodName := ⟨RX5, "living", "(I)LMailDen$Proc;"⟩
abbrev cX5_currentOf : ByteArray := prog_7_method_5_code
def yX5_currentOf : MethodName := ⟨RX5, "currentOf", "(I)I"⟩
abbrev cX5_holderOf : ByteArray := prog_7_method_6_code
def yX5_holderOf : MethodName := ⟨RX5, "holderOf", "(I)I"⟩
abbrev cX5_comesOfModule : ByteArray := prog_7_method_7_code
def yX5_comesOfModule : MethodName := ⟨RX5, "comesOfModule", "(II)LMailDen$Proc;"⟩
abbrev cX5_comesOfSpec : ByteArray := prog_7_method_8_code
def yX5_comesOfSpec : MethodName := ⟨RX5, "comesOfSpec", "(II)LMailDen$Proc;"⟩
abbrev cX5_ready : ByteArray := prog_7_method_9_code
def yX5_ready : MethodName := ⟨RX5, "ready", "(LMailDen$Proc;)V"⟩
abbrev cX5_startPlaces : ByteArray := prog_7_method_10_code
def yX5_startPlaces : MethodName := ⟨RX5, "startPlaces", "(LMailDen$World;LMailDen$Proc;III)V"⟩
abbrev cX5_comesFromOutside : ByteArray := prog_7_method_11_code
def yX5_comesFromOutside : MethodName := ⟨RX5, "comesFromOutside", "(I)I"⟩
abbrev cX5_putMail : ByteArray := prog_7_method_12_code
def yX5_putMail : MethodName := ⟨RX5, "putMail", "(III)Z"⟩
abbrev cX5_signalTo : ByteArray := prog_7_method_13_code
def yX5_signalTo : MethodName := ⟨RX5, "signalTo", "(III)V"⟩
abbrev cX5_end : ByteArray := prog_7_method_14_code
def yX5_end : MethodName := ⟨RX5, "end", "(LMailDen$Proc;I)V"⟩
abbrev cX5_settle : ByteArray := prog_7_method_15_code
def yX5_settle : MethodName := ⟨RX5, "settle", "()V"⟩
abbrev cX5_endChildren : ByteArray := prog_7_method_16_code
def yX5_endChildren : MethodName := ⟨RX5, "endChildren", "(LMailDen$Proc;II)V"⟩
abbrev cX5_tellWatchers : ByteArray := prog_7_method_17_code
def yX5_tellWatchers : MethodName := ⟨RX5, "tellWatchers", "(LMailDen$Proc;)V"⟩
abbrev cX5_link : ByteArray := prog_7_method_18_code
def yX5_link : MethodName := ⟨RX5, "link", "(LMailDen$Proc;LMailDen$Proc;)V"⟩
abbrev cX5_unlink : ByteArray := prog_7_method_19_code
def yX5_unlink : MethodName := ⟨RX5, "unlink", "(LMailDen$Proc;LMailDen$Proc;)V"⟩
abbrev cX5_superviseEnd : ByteArray := prog_7_method_20_code
def yX5_superviseEnd : MethodName := ⟨RX5, "superviseEnd", "(LMailDen$Proc;)V"⟩
abbrev cX5_noteRestart : ByteArray := prog_7_method_21_code
def yX5_noteRestart : MethodName := ⟨RX5, "noteRestart", "(I)V"⟩
abbrev cX5_restartsEver : ByteArray := prog_7_method_22_code
def yX5_restartsEver : MethodName := ⟨RX5, "restartsEver", "(LMailDen$Proc;)I"⟩
abbrev cX5_restartsLately : ByteArray := prog_7_method_23_code
def yX5_restartsLately : MethodName := ⟨RX5, "restartsLately", "(LMailDen$Proc;)I"⟩
abbrev cX5_restartsAbove : ByteArray := prog_7_method_24_code
def yX5_restartsAbove : MethodName := ⟨RX5, "restartsAbove", "(LMailDen$Proc;I)I"⟩
abbrev cX5_endedBehind : ByteArray := prog_7_method_25_code
def yX5_endedBehind : MethodName := ⟨RX5, "endedBehind", "(I)I"⟩
abbrev cX5_loadModule : ByteArray := prog_7_method_26_code
def yX5_loadModule : MethodName := ⟨RX5, "loadModule", "(I)V"⟩
abbrev cX5_passTime : ByteArray := prog_7_method_27_code
def yX5_passTime : MethodName := ⟨RX5, "passTime", "()I"⟩
abbrev cX5_firstReady : ByteArray := prog_7_method_28_code
def yX5_firstReady : MethodName := ⟨RX5, "firstReady", "()LMailDen$Proc;"⟩
abbrev cX5_doTurn : ByteArray := prog_7_method_29_code
def yX5_doTurn : MethodName := ⟨RX5, "doTurn", "()Z"⟩
abbrev cX5_goesOut : ByteArray := prog_7_method_30_code
def yX5_goesOut : MethodName := ⟨RX5, "goesOut", "(I)Z"⟩
abbrev cX5_doLine : ByteArray := prog_7_method_31_code
def yX5_doLine : MethodName := ⟨RX5, "doLine", "(LMailDen$Proc;I)I"⟩
abbrev cX5_doLineOut : ByteArray := prog_7_method_32_code
def yX5_doLineOut : MethodName := ⟨RX5, "doLineOut", "(LMailDen$Proc;I)I"⟩
abbrev cX5_takeName : ByteArray := prog_7_method_33_code
def yX5_takeName : MethodName := ⟨RX5, "takeName", "(LMailDen$Proc;I)V"⟩
abbrev cX5_callName : ByteArray := prog_7_method_34_code
def yX5_callName : MethodName := ⟨RX5, "callName", "(LMailDen$Proc;II)V"⟩
abbrev cX5_spawn : ByteArray := prog_7_method_35_code
def yX5_spawn : MethodName := ⟨RX5, "spawn", "(LMailDen$Proc;IZ)V"⟩
abbrev cX5_placeInRow : ByteArray := prog_7_method_36_code
def yX5_placeInRow : MethodName := ⟨RX5, "placeInRow", "(LMailDen$Proc;)I"⟩
abbrev cX5_watchesOf : ByteArray := prog_7_method_37_code
def yX5_watchesOf : MethodName := ⟨RX5, "watchesOf", "(LMailDen$Proc;)I"⟩
abbrev cX5_runners : ByteArray := prog_7_method_38_code
def yX5_runners : MethodName := ⟨RX5, "runners", "(III)I"⟩
abbrev cX5_madeOf : ByteArray := prog_7_method_39_code
def yX5_madeOf : MethodName := ⟨RX5, "madeOf", "(I)I"⟩
abbrev cX5_isCurrentUsed : ByteArray := prog_7_method_40_code
def yX5_isCurrentUsed : MethodName := ⟨RX5, "isCurrentUsed", "(I)Z"⟩
abbrev cX5_hadSupervisor : ByteArray := prog_7_method_41_code
def yX5_hadSupervisor : MethodName := ⟨RX5, "hadSupervisor", "(I)Z"⟩
abbrev cX5_supervisors : ByteArray := prog_7_method_42_code
def yX5_supervisors : MethodName := ⟨RX5, "supervisors", "()I"⟩
abbrev cX5_withStatus : ByteArray := prog_7_method_43_code
def yX5_withStatus : MethodName := ⟨RX5, "withStatus", "(I)I"⟩
abbrev cX5_linkCount : ByteArray := prog_7_method_44_code
def yX5_linkCount : MethodName := ⟨RX5, "linkCount", "()I"⟩
abbrev cX5_mailCount : ByteArray := prog_7_method_45_code
def yX5_mailCount : MethodName := ⟨RX5, "mailCount", "()I"⟩
def RX6 : String := "MailDen"
def TX6 : u_T := fun k => match k with
  | 0 => ("MailDen", "codes", "LMailDen$Codes;", true)
  | 1 => ("MailDen", "specs", "LMailDen$Specs;", true)
  | 2 => ("MailDen", "real", "LMailDen$World;", true)
  | _ => ("MailDen", "trial", "LMailDen$World;", true)
def tyX6 : Nat → FieldType := fun k => match k with
  | 0 => .object "MailDen$Codes"
  | 1 => .object "MailDen$Specs"
  | 2 => .object "MailDen$World"
  | _ => .object "MailDen$World"
theorem nmX6 : ∀ a, a < 4 → ∀ b, b < 4 → a ≠ b → (TX6 a).2.1 ≠ (TX6 b).2.1 := by decide +kernel
theorem tyX6_ok : ∀ k, k < 4 → parseFieldDescriptor (TX6 k).2.2.1 = some (tyX6 k) := by decide +kernel
abbrev cX6_init : ByteArray := prog_1_method_1_code
def yX6_init : MethodName := ⟨RX6, "<init>", "()V"⟩
abbrev cX6_module : ByteArray := prog_1_method_2_code
def yX6_module : MethodName := ⟨RX6, "module", "()I"⟩
abbrev cX6_line : ByteArray := prog_1_method_3_code
def yX6_line : MethodName := ⟨RX6, "line", "(IIII)I"⟩
abbrev cX6_load : ByteArray := prog_1_method_4_code
def yX6_load : MethodName := ⟨RX6, "load", "(I)I"⟩
abbrev cX6_spec : ByteArray := prog_1_method_5_code
def yX6_spec : MethodName := ⟨RX6, "spec", "(III)I"⟩
abbrev cX6_place : ByteArray := prog_1_method_6_code
def yX6_place : MethodName := ⟨RX6, "place", "(IZII)I"⟩
abbrev cX6_ofModule : ByteArray := prog_1_method_7_code
def yX6_ofModule : MethodName := ⟨RX6, "ofModule", "(II)I"⟩
abbrev cX6_start : ByteArray := prog_1_method_8_code
def yX6_start : MethodName := ⟨RX6, "start", "(I)I"⟩
abbrev cX6_supervise : ByteArray := prog_1_method_9_code
def yX6_supervise : MethodName := ⟨RX6, "supervise", "(I)I"⟩
abbrev cX6_run : ByteArray := prog_1_method_10_code
def yX6_run : MethodName := ⟨RX6, "run", "(I)I"⟩
abbrev cX6_tick : ByteArray := prog_1_method_11_code
def yX6_tick : MethodName := ⟨RX6, "tick", "(I)I"⟩
abbrev cX6_send : ByteArray := prog_1_method_12_code
def yX6_send : MethodName := ⟨RX6, "send", "(III)Z"⟩
abbrev cX6_signal : ByteArray := prog_1_method_13_code
def yX6_signal : MethodName := ⟨RX6, "signal", "(II)I"⟩
abbrev cX6_ofProcess : ByteArray := prog_1_method_14_code
def yX6_ofProcess : MethodName := ⟨RX6, "ofProcess", "(II)I"⟩
abbrev cX6_local : ByteArray := prog_1_method_15_code
def yX6_local : MethodName := ⟨RX6, "local", "(II)I"⟩
abbrev cX6_mail : ByteArray := prog_1_method_16_code
def yX6_mail : MethodName := ⟨RX6, "mail", "(III)I"⟩
abbrev cX6_ofSupervisor : ByteArray := prog_1_method_17_code
def yX6_ofSupervisor : MethodName := ⟨RX6, "ofSupervisor", "(II)I"⟩
abbrev cX6_named : ByteArray := prog_1_method_18_code
def yX6_named : MethodName := ⟨RX6, "named", "(I)I"⟩
abbrev cX6_many : ByteArray := prog_1_method_19_code
def yX6_many : MethodName := ⟨RX6, "many", "(I)I"⟩
abbrev cX6_meanLines : ByteArray := prog_1_method_20_code
def yX6_meanLines : MethodName := ⟨RX6, "meanLines", "()D"⟩
abbrev cX6_wouldFall : ByteArray := prog_1_method_21_code
def yX6_wouldFall : MethodName := ⟨RX6, "wouldFall", "(II)I"⟩
abbrev cX6_wouldPurge : ByteArray := prog_1_method_22_code
def yX6_wouldPurge : MethodName := ⟨RX6, "wouldPurge", "(I)I"⟩
abbrev cX6_overBy : ByteArray := prog_1_method_23_code
def yX6_overBy : MethodName := ⟨RX6, "overBy", "(II)I"⟩
abbrev cX6_passedOver : ByteArray := prog_1_method_24_code
def yX6_passedOver : MethodName := ⟨RX6, "passedOver", "(II)I"⟩
abbrev cX6_digest : ByteArray := prog_1_method_25_code
def yX6_digest : MethodName := ⟨RX6, "digest", "()J"⟩
abbrev cX6_digestOfProcess : ByteArray := prog_1_method_26_code
def yX6_digestOfProcess : MethodName := ⟨RX6, "digestOfProcess", "(JI)J"⟩
abbrev cX6_isWithin : ByteArray := prog_1_method_27_code
def yX6_isWithin : MethodName := ⟨RX6, "isWithin", "(III)Z"⟩
abbrev cX6_checkIndex : ByteArray := prog_1_method_28_code
def yX6_checkIndex : MethodName := ⟨RX6, "checkIndex", "(Z)V"⟩
abbrev cX6_checkArgument : ByteArray := prog_1_method_29_code
def yX6_checkArgument : MethodName := ⟨RX6, "checkArgument", "(Z)V"⟩
abbrev cX6_checkState : ByteArray := prog_1_method_30_code
def yX6_checkState : MethodName := ⟨RX6, "checkState", "(Z)V"⟩
abbrev cX6_checkProcess : ByteArray := prog_1_method_31_code
def yX6_checkProcess : MethodName := ⟨RX6, "checkProcess", "(I)LMailDen$Proc;"⟩
def RJ6 : String := "java/lang/Integer"
abbrev cJ6_bitCount_0f7a4 : ByteArray := prog_23_method_49_code
def yJ6_bitCount_0f7a4 : MethodName := ⟨RJ6, "bitCount", "(I)I"⟩
def RJ7 : String := "java/util/Arrays"
abbrev cJ7_fill_53178 : ByteArray := prog_37_method_103_code
def yJ7_fill_53178 : MethodName := ⟨RJ7, "fill", "([II)V"⟩
abbrev wsU0 : List Cond := u_ws RX0 TX0 3
abbrev wsU1 : List Cond := u_ws RX1 TX1 5
abbrev wsU2 : List Cond := u_ws RX2 TX2 19
abbrev wsU3 : List Cond := u_ws RX3 TX3 8
abbrev wsU4 : List Cond := u_ws RX4 TX4 3
abbrev wsU5 : List Cond := u_ws RX5 TX5 17
abbrev wsU6 : List Cond := u_ws RX6 TX6 4
def wc0 : List Cond := [.fieldLink RX0 9 "MailDen$Box" "tags" "[I", .fieldLink RX0 15 "MailDen$Box" "numbers" "[I", .fieldLink RX0 18 "MailDen$Box" "count" "I", .code yX0_put cX0_put 3 (some .boolean), .code yX0_firstOf cX0_firstOf 3 (some .int), .code yX6_isWithin cX6_isWithin 3 (some .boolean), .static yX6_isWithin, .initialized RX6, .code yX0_takeOut cX0_takeOut 4 (some .int), .methodLink RX0 26 arraycopyName, .native arraycopyName, .static arraycopyName, .initialized "java/lang/System", .code yX0_copyFrom cX0_copyFrom 2 none, .fieldLink RX1 9 "MailDen$Codes" "lineCounts" "[I", .fieldLink RX1 15 "MailDen$Codes" "kinds" "[I", .fieldLink RX1 18 "MailDen$Codes" "as" "[I", .fieldLink RX1 21 "MailDen$Codes" "bs" "[I", .fieldLink RX1 24 "MailDen$Codes" "modules" "I", .code yX1_hasModule cX1_hasModule 2 (some .boolean), .methodLink RX1 28 yX1_hasModule, .instanceMethod yX1_hasModule, .selects RX1 yX1_hasModule yX1_hasModule, .initialized RX1, .code yX1_rowOf cX1_rowOf 3 (some .int), .methodLink RX1 36 yX1_rowOf, .instanceMethod yX1_rowOf, .selects RX1 yX1_rowOf yX1_rowOf, .code yX1_linesOf cX1_linesOf 4 (some .int), .code yX1_lineAt cX1_lineAt 5 (some .int), .code yX1_isLine cX1_isLine 7 (some .boolean), .code yX1_addLine cX1_addLine 9 (some .int), .fieldLink RX4 9 "MailDen$Watches" "watchers" "[I", .fieldLink RX4 15 "MailDen$Watches" "times" "[I", .fieldLink RX2 9 "MailDen$Proc" "module" "I", .fieldLink RX2 15 "MailDen$Proc" "version" "I", .fieldLink RX2 18 "MailDen$Proc" "spec" "I", .fieldLink RX2 21 "MailDen$Proc" "parent" "I", .fieldLink RX2 24 "MailDen$Proc" "status" "I", .fieldLink RX2 27 "MailDen$Proc" "reason" "I"]
def wc1 : List Cond := [.fieldLink RX2 30 "MailDen$Proc" "until" "I", .fieldLink RX2 33 "MailDen$Proc" "wait" "I", .fieldLink RX2 36 "MailDen$Proc" "locals" "[I", .fieldLink RX2 40 "MailDen$Proc" "children" "[I", .initialized RX0, .fieldLink RX2 46 "MailDen$Proc" "box" "LMailDen$Box;", .initialized RX4, .fieldLink RX2 53 "MailDen$Proc" "watches" "LMailDen$Watches;", .fieldLink RX2 57 "MailDen$Proc" "number" "I", .methodLink RX2 60 yJ7_fill_53178, .static yJ7_fill_53178, .initialized RJ7, .code yJ7_fill_53178 cJ7_fill_53178 4 none, .methodLink RX4 22 arraycopyName, .fieldLink RX4 18 "MailDen$Watches" "count" "I", .code yX4_copyFrom cX4_copyFrom 2 none, .fieldLink RX2 66 "MailDen$Proc" "there" "I", .fieldLink RX2 69 "MailDen$Proc" "line" "I", .fieldLink RX2 72 "MailDen$Proc" "ticket" "I", .fieldLink RX2 75 "MailDen$Proc" "traps" "Z", .fieldLink RX2 79 "MailDen$Proc" "links" "I", .fieldLink RX2 82 "MailDen$Proc" "emptyPlaces" "I", .methodLink RX2 85 arraycopyName, .methodLink RX2 91 yX0_copyFrom, .instanceMethod yX0_copyFrom, .selects RX0 yX0_copyFrom yX0_copyFrom, .methodLink RX2 95 yX4_copyFrom, .instanceMethod yX4_copyFrom, .selects RX4 yX4_copyFrom yX4_copyFrom, .code yX2_copyFrom cX2_copyFrom 2 none, .code yX2_isSupervisor cX2_isSupervisor 1 (some .boolean), .code yX2_isLinkedWith cX2_isLinkedWith 2 (some .boolean), .code yX2_isEmptyPlace cX2_isEmptyPlace 2 (some .boolean), .code yX2_localAt cX2_localAt 2 (some .int), .code yX2_putLocal cX2_putLocal 3 none, .methodLink RX2 102 Lib.Math.min.name, .static Lib.Math.min.name, .initialized "java/lang/Math", .code Lib.Math.min.name Lib.Math.min.code 2 (some .int), .methodLink RX2 108 Lib.Math.max.name]
def wc2 : List Cond := [.static Lib.Math.max.name, .code Lib.Math.max.name Lib.Math.max.code 2 (some .int), .code yX2_hold cX2_hold 2 none, .methodLink RX2 111 yX0_firstOf, .instanceMethod yX0_firstOf, .selects RX0 yX0_firstOf yX0_firstOf, .methodLink RX2 115 yX0_takeOut, .instanceMethod yX0_takeOut, .selects RX0 yX0_takeOut yX0_takeOut, .methodLink RX2 118 yX2_hold, .instanceMethod yX2_hold, .selects RX2 yX2_hold yX2_hold, .initialized RX2, .code yX2_takeMail cX2_takeMail 3 (some .boolean), .code yX2_waitFor cX2_waitFor 3 none, .code yX2_waitsForMail cX2_waitsForMail 2 (some .boolean), .methodLink RX2 122 yX2_takeMail, .instanceMethod yX2_takeMail, .selects RX2 yX2_takeMail yX2_takeMail, .code yX2_resume cX2_resume 1 none, .code yX2_placeOf cX2_placeOf 3 (some .int), .fieldLink RX3 9 "MailDen$Specs" "strategies" "[I", .fieldLink RX3 15 "MailDen$Specs" "mosts" "[I", .fieldLink RX3 18 "MailDen$Specs" "withins" "[I", .fieldLink RX3 21 "MailDen$Specs" "placeCounts" "[I", .fieldLink RX3 24 "MailDen$Specs" "ofSpecs" "[Z", .fieldLink RX3 28 "MailDen$Specs" "numbers" "[I", .fieldLink RX3 31 "MailDen$Specs" "modes" "[I", .fieldLink RX3 34 "MailDen$Specs" "count" "I", .code yX3_hasSpec cX3_hasSpec 2 (some .boolean), .methodLink RX3 38 yX3_hasSpec, .instanceMethod yX3_hasSpec, .selects RX3 yX3_hasSpec yX3_hasSpec, .initialized RX3, .code yX3_placesOf cX3_placesOf 2 (some .int), .code yX3_placeAt cX3_placeAt 3 (some .int), .code yX3_addSpec cX3_addSpec 5 (some .int), .code yX3_addPlace cX3_addPlace 7 (some .int), .code yX4_add cX4_add 3 none, .fieldLink RX5 9 "MailDen$World" "current" "[I"]
def wc3 : List Cond := [.fieldLink RX5 15 "MailDen$World" "names" "[I", .fieldLink RX5 20 "MailDen$World" "procs" "[LMailDen$Proc;", .fieldLink RX5 24 "MailDen$World" "ended" "[I", .fieldLink RX5 27 "MailDen$World" "restartOf" "[I", .fieldLink RX5 30 "MailDen$World" "restartAt" "[I", .fieldLink RX5 33 "MailDen$World" "codes" "LMailDen$Codes;", .fieldLink RX5 37 "MailDen$World" "specs" "LMailDen$Specs;", .methodLink RX5 41 yJ7_fill_53178, .methodLink RX5 50 arraycopyName, .fieldLink RX5 56 "MailDen$World" "count" "I", .methodLink RX5 60 Lib.Math.max.name, .fieldLink RX5 70 "MailDen$World" "now" "I", .fieldLink RX5 73 "MailDen$World" "lost" "I", .fieldLink RX5 76 "MailDen$World" "turns" "I", .fieldLink RX5 79 "MailDen$World" "lines" "I", .fieldLink RX5 82 "MailDen$World" "tickets" "I", .fieldLink RX5 85 "MailDen$World" "endedCount" "I", .fieldLink RX5 88 "MailDen$World" "settledCount" "I", .fieldLink RX5 91 "MailDen$World" "restartCount" "I", .methodLink RX5 66 yX2_copyFrom, .instanceMethod yX2_copyFrom, .selects RX2 yX2_copyFrom yX2_copyFrom, .code yX5_copyFrom cX5_copyFrom 4 none, .code yX5_procAt cX5_procAt 2 (some (.object "MailDen$Proc")), .fieldLink RX5 94 "MailDen$Proc" "status" "I", .code yX5_living cX5_living 2 (some (.object "MailDen$Proc")), .methodLink RX5 97 yX1_hasModule, .code yX5_currentOf cX5_currentOf 2 (some .int), .code yX5_holderOf cX5_holderOf 2 (some .int), .fieldLink RX5 107 "MailDen$Codes" "modules" "I", .fieldLink RX5 110 "MailDen$Proc" "module" "I", .fieldLink RX5 113 "MailDen$Proc" "version" "I", .fieldLink RX5 116 "MailDen$Proc" "parent" "I", .fieldLink RX5 119 "MailDen$Proc" "ticket" "I", .code yX5_comesOfModule cX5_comesOfModule 4 (some (.object "MailDen$Proc")), .fieldLink RX5 122 "MailDen$Proc" "spec" "I", .fieldLink RX5 125 "MailDen$Proc" "line" "I", .code yX5_comesOfSpec cX5_comesOfSpec 4 (some (.object "MailDen$Proc")), .fieldLink RX5 128 "MailDen$Proc" "until" "I", .code yX5_ready cX5_ready 2 none]
def wc4 : List Cond := [.fieldLink RX5 201 "MailDen$Proc" "reason" "I", .fieldLink RX5 178 "MailDen$Proc" "box" "LMailDen$Box;", .fieldLink RX5 204 "MailDen$Box" "count" "I", .fieldLink RX5 146 "MailDen$Proc" "number" "I", .code yX5_end cX5_end 4 none, .fieldLink RX5 139 "MailDen$Specs" "ofSpecs" "[Z", .fieldLink RX5 143 "MailDen$Specs" "numbers" "[I", .fieldLink RX5 160 "MailDen$Proc" "children" "[I", .methodLink RX5 131 yX3_placeAt, .instanceMethod yX3_placeAt, .selects RX3 yX3_placeAt yX3_placeAt, .methodLink RX5 136 yX2_isEmptyPlace, .instanceMethod yX2_isEmptyPlace, .selects RX2 yX2_isEmptyPlace yX2_isEmptyPlace, .methodLink RX5 149 yX5_comesOfSpec, .instanceMethod yX5_comesOfSpec, .selects RX5 yX5_comesOfSpec yX5_comesOfSpec, .initialized RX5, .methodLink RX5 153 yX5_comesOfModule, .instanceMethod yX5_comesOfModule, .selects RX5 yX5_comesOfModule yX5_comesOfModule, .methodLink RX5 156 yX5_end, .instanceMethod yX5_end, .selects RX5 yX5_end yX5_end, .methodLink RX5 163 yX5_startPlaces, .static yX5_startPlaces, .code yX5_startPlaces cX5_startPlaces 10 none, .methodLink RX5 205 yX5_procAt, .instanceMethod yX5_procAt, .selects RX5 yX5_procAt yX5_procAt, .code yX5_endChildren cX5_endChildren 6 none, .methodLink RX5 170 yX5_living, .instanceMethod yX5_living, .selects RX5 yX5_living yX5_living, .methodLink RX5 174 yX2_isSupervisor, .instanceMethod yX2_isSupervisor, .selects RX2 yX2_isSupervisor yX2_isSupervisor, .methodLink RX5 182 yX0_put, .instanceMethod yX0_put, .selects RX0 yX0_put yX0_put]
def wc5 : List Cond := [.methodLink RX5 188 yX2_waitsForMail, .instanceMethod yX2_waitsForMail, .selects RX2 yX2_waitsForMail yX2_waitsForMail, .methodLink RX5 191 yX5_ready, .instanceMethod yX5_ready, .selects RX5 yX5_ready yX5_ready, .code yX5_putMail cX5_putMail 5 (some .boolean), .fieldLink RX5 229 "MailDen$Proc" "watches" "LMailDen$Watches;", .fieldLink RX5 233 "MailDen$Watches" "count" "I", .fieldLink RX5 236 "MailDen$Watches" "watchers" "[I", .fieldLink RX5 239 "MailDen$Watches" "times" "[I", .methodLink RX5 198 yX5_putMail, .instanceMethod yX5_putMail, .selects RX5 yX5_putMail yX5_putMail, .code yX5_tellWatchers cX5_tellWatchers 6 none, .fieldLink RX5 242 "MailDen$Proc" "links" "I", .code yX5_unlink cX5_unlink 3 none, .fieldLink RX5 194 "MailDen$Proc" "traps" "Z", .code yX5_signalTo cX5_signalTo 5 none, .code yX5_noteRestart cX5_noteRestart 2 none, .code yX5_restartsAbove cX5_restartsAbove 5 (some .int), .fieldLink RX5 275 "MailDen$Specs" "withins" "[I", .methodLink RX5 249 yX3_hasSpec, .methodLink RX5 271 yX5_restartsAbove, .instanceMethod yX5_restartsAbove, .selects RX5 yX5_restartsAbove yX5_restartsAbove, .code yX5_restartsLately cX5_restartsLately 2 (some .int), .fieldLink RX5 252 "MailDen$Specs" "modes" "[I", .fieldLink RX5 255 "MailDen$Proc" "emptyPlaces" "I", .fieldLink RX5 265 "MailDen$Specs" "mosts" "[I", .fieldLink RX5 268 "MailDen$Specs" "strategies" "[I", .methodLink RX5 245 yX2_placeOf, .instanceMethod yX2_placeOf, .selects RX2 yX2_placeOf yX2_placeOf, .methodLink RX5 258 yX5_noteRestart, .instanceMethod yX5_noteRestart, .selects RX5 yX5_noteRestart yX5_noteRestart, .methodLink RX5 261 yX5_restartsLately, .instanceMethod yX5_restartsLately, .selects RX5 yX5_restartsLately yX5_restartsLately]
def wc6 : List Cond := [.methodLink RX5 208 yX5_endChildren, .instanceMethod yX5_endChildren, .selects RX5 yX5_endChildren yX5_endChildren, .code yX5_superviseEnd cX5_superviseEnd 8 none, .methodLink RX5 212 yX5_tellWatchers, .instanceMethod yX5_tellWatchers, .selects RX5 yX5_tellWatchers yX5_tellWatchers, .methodLink RX5 215 yX2_isLinkedWith, .instanceMethod yX2_isLinkedWith, .selects RX2 yX2_isLinkedWith yX2_isLinkedWith, .methodLink RX5 218 yX5_unlink, .instanceMethod yX5_unlink, .selects RX5 yX5_unlink yX5_unlink, .methodLink RX5 222 yX5_signalTo, .instanceMethod yX5_signalTo, .selects RX5 yX5_signalTo yX5_signalTo, .methodLink RX5 226 yX5_superviseEnd, .instanceMethod yX5_superviseEnd, .selects RX5 yX5_superviseEnd yX5_superviseEnd, .code yX5_settle cX5_settle 3 none, .methodLink RX5 167 yX5_settle, .instanceMethod yX5_settle, .selects RX5 yX5_settle yX5_settle, .code yX5_comesFromOutside cX5_comesFromOutside 3 (some .int), .code yX5_link cX5_link 3 none, .code yX5_restartsEver cX5_restartsEver 2 (some .int), .code yX5_endedBehind cX5_endedBehind 4 (some .int), .code yX5_loadModule cX5_loadModule 5 none, .code yX5_passTime cX5_passTime 3 (some .int), .code yX5_firstReady cX5_firstReady 4 (some (.object "MailDen$Proc")), .code yX5_goesOut cX5_goesOut 1 (some .boolean), .fieldLink RX5 307 "MailDen$Proc" "there" "I", .methodLink RX5 333 yX5_link, .instanceMethod yX5_link, .selects RX5 yX5_link yX5_link, .code yX5_spawn cX5_spawn 5 none, .methodLink RX5 345 yX5_holderOf, .instanceMethod yX5_holderOf, .selects RX5 yX5_holderOf yX5_holderOf, .code yX5_takeName cX5_takeName 4 none]
def wc7 : List Cond := [.code yX5_callName cX5_callName 5 none, .fieldLink RX5 301 "MailDen$Codes" "as" "[I", .fieldLink RX5 304 "MailDen$Codes" "bs" "[I", .fieldLink RX5 289 "MailDen$Codes" "kinds" "[I", .methodLink RX5 329 yX5_spawn, .instanceMethod yX5_spawn, .selects RX5 yX5_spawn yX5_spawn, .methodLink RX5 336 yX4_add, .instanceMethod yX4_add, .selects RX4 yX4_add yX4_add, .methodLink RX5 339 yX5_takeName, .instanceMethod yX5_takeName, .selects RX5 yX5_takeName yX5_takeName, .methodLink RX5 313 yX2_localAt, .instanceMethod yX2_localAt, .selects RX2 yX2_localAt yX2_localAt, .methodLink RX5 342 yX5_callName, .instanceMethod yX5_callName, .selects RX5 yX5_callName yX5_callName, .code yX5_doLineOut cX5_doLineOut 6 (some .int), .methodLink RX5 310 yX2_hold, .methodLink RX5 316 yX2_putLocal, .instanceMethod yX2_putLocal, .selects RX2 yX2_putLocal yX2_putLocal, .methodLink RX5 320 yX2_takeMail, .methodLink RX5 323 yX2_waitFor, .instanceMethod yX2_waitFor, .selects RX2 yX2_waitFor yX2_waitFor, .methodLink RX5 326 yX5_currentOf, .instanceMethod yX5_currentOf, .selects RX5 yX5_currentOf yX5_currentOf, .code yX5_doLine cX5_doLine 6 (some .int), .methodLink RX5 278 yX5_firstReady, .instanceMethod yX5_firstReady, .selects RX5 yX5_firstReady yX5_firstReady, .methodLink RX5 282 yX2_resume, .instanceMethod yX2_resume, .selects RX2 yX2_resume yX2_resume, .methodLink RX5 285 yX1_lineAt, .instanceMethod yX1_lineAt]
def wc8 : List Cond := [.selects RX1 yX1_lineAt yX1_lineAt, .methodLink RX5 292 yX5_goesOut, .static yX5_goesOut, .methodLink RX5 295 yX5_doLineOut, .instanceMethod yX5_doLineOut, .selects RX5 yX5_doLineOut yX5_doLineOut, .methodLink RX5 298 yX5_doLine, .instanceMethod yX5_doLine, .selects RX5 yX5_doLine yX5_doLine, .code yX5_doTurn cX5_doTurn 5 (some .boolean), .code yX5_placeInRow cX5_placeInRow 4 (some .int), .code yX5_watchesOf cX5_watchesOf 4 (some .int), .code yX5_runners cX5_runners 7 (some .int), .code yX5_madeOf cX5_madeOf 4 (some .int), .code yX5_isCurrentUsed cX5_isCurrentUsed 3 (some .boolean), .code yX5_hadSupervisor cX5_hadSupervisor 3 (some .boolean), .code yX5_supervisors cX5_supervisors 3 (some .int), .code yX5_withStatus cX5_withStatus 4 (some .int), .methodLink RX5 348 yJ6_bitCount_0f7a4, .static yJ6_bitCount_0f7a4, .initialized RJ6, .code yJ6_bitCount_0f7a4 cJ6_bitCount_0f7a4 1 (some .int), .constant RJ6 265 (1431655765), .constant RJ6 266 (858993459), .constant RJ6 267 (252645135), .code yX5_linkCount cX5_linkCount 3 (some .int), .code yX5_mailCount cX5_mailCount 3 (some .int), .fieldLink RX6 12 "MailDen" "codes" "LMailDen$Codes;", .fieldLink RX6 19 "MailDen" "specs" "LMailDen$Specs;", .fieldLink RX6 28 "MailDen" "real" "LMailDen$World;", .fieldLink RX6 32 "MailDen" "trial" "LMailDen$World;", .code yX6_checkState cX6_checkState 1 none, .fieldLink RX6 35 "MailDen$Codes" "modules" "I", .methodLink RX6 39 yX6_checkState, .static yX6_checkState, .code yX6_module cX6_module 2 (some .int), .code yX6_checkIndex cX6_checkIndex 1 none, .code yX6_checkArgument cX6_checkArgument 1 none, .methodLink RX6 43 yX1_hasModule, .methodLink RX6 47 yX6_checkIndex]
def wc9 : List Cond := [.static yX6_checkIndex, .methodLink RX6 50 yX5_currentOf, .methodLink RX6 54 yX1_linesOf, .instanceMethod yX1_linesOf, .selects RX1 yX1_linesOf yX1_linesOf, .methodLink RX6 58 yX1_isLine, .instanceMethod yX1_isLine, .selects RX1 yX1_isLine yX1_isLine, .methodLink RX6 62 yX6_checkArgument, .static yX6_checkArgument, .methodLink RX6 65 yX5_isCurrentUsed, .instanceMethod yX5_isCurrentUsed, .selects RX5 yX5_isCurrentUsed yX5_isCurrentUsed, .methodLink RX6 68 yX1_addLine, .instanceMethod yX1_addLine, .selects RX1 yX1_addLine yX1_addLine, .code yX6_line cX6_line 7 (some .int), .fieldLink RX6 72 "MailDen$World" "endedCount" "I", .methodLink RX6 75 yX5_loadModule, .instanceMethod yX5_loadModule, .selects RX5 yX5_loadModule yX5_loadModule, .code yX6_load cX6_load 3 (some .int), .fieldLink RX6 83 "MailDen$Specs" "count" "I", .methodLink RX6 79 yX6_isWithin, .methodLink RX6 86 yX3_addSpec, .instanceMethod yX3_addSpec, .selects RX3 yX3_addSpec yX3_addSpec, .code yX6_spec cX6_spec 4 (some .int), .methodLink RX6 90 yX3_hasSpec, .methodLink RX6 93 yX5_hadSupervisor, .instanceMethod yX5_hadSupervisor, .selects RX5 yX5_hadSupervisor yX5_hadSupervisor, .methodLink RX6 96 yX3_placesOf, .instanceMethod yX3_placesOf, .selects RX3 yX3_placesOf yX3_placesOf, .methodLink RX6 99 yX3_addPlace, .instanceMethod yX3_addPlace, .selects RX3 yX3_addPlace yX3_addPlace, .code yX6_place cX6_place 5 (some .int), .methodLink RX6 103 yX5_runners]
def wc10 : List Cond := [.instanceMethod yX5_runners, .selects RX5 yX5_runners yX5_runners, .methodLink RX6 106 yX5_madeOf, .instanceMethod yX5_madeOf, .selects RX5 yX5_madeOf yX5_madeOf, .code yX6_ofModule cX6_ofModule 4 (some .int), .fieldLink RX6 113 "MailDen$Proc" "number" "I", .methodLink RX6 109 yX5_comesOfModule, .code yX6_start cX6_start 3 (some .int), .fieldLink RX6 118 "MailDen$World" "count" "I", .methodLink RX6 119 yX5_comesFromOutside, .instanceMethod yX5_comesFromOutside, .selects RX5 yX5_comesFromOutside yX5_comesFromOutside, .code yX6_supervise cX6_supervise 2 (some .int), .methodLink RX6 122 yX5_doTurn, .instanceMethod yX5_doTurn, .selects RX5 yX5_doTurn yX5_doTurn, .code yX6_run cX6_run 3 (some .int), .methodLink RX6 126 yX5_passTime, .instanceMethod yX5_passTime, .selects RX5 yX5_passTime yX5_passTime, .code yX6_tick cX6_tick 4 (some .int), .methodLink RX6 301 yX5_procAt, .code yX6_checkProcess cX6_checkProcess 3 (some (.object "MailDen$Proc")), .methodLink RX6 130 yX6_checkProcess, .instanceMethod yX6_checkProcess, .selects RX6 yX6_checkProcess yX6_checkProcess, .methodLink RX6 134 yX5_putMail, .code yX6_send cX6_send 4 (some .boolean), .methodLink RX6 137 yX5_signalTo, .methodLink RX6 141 yX5_settle, .code yX6_signal cX6_signal 4 (some .int), .fieldLink RX6 144 "MailDen$Proc" "module" "I", .fieldLink RX6 147 "MailDen$Proc" "version" "I", .fieldLink RX6 150 "MailDen$Proc" "status" "I", .fieldLink RX6 153 "MailDen$Proc" "reason" "I", .fieldLink RX6 160 "MailDen$Proc" "there" "I", .fieldLink RX6 163 "MailDen$Proc" "line" "I", .fieldLink RX6 166 "MailDen$Proc" "until" "I", .fieldLink RX6 169 "MailDen$Proc" "box" "LMailDen$Box;"]
def wc11 : List Cond := [.fieldLink RX6 173 "MailDen$Box" "count" "I", .fieldLink RX6 176 "MailDen$Proc" "links" "I", .fieldLink RX6 179 "MailDen$Proc" "traps" "Z", .fieldLink RX6 183 "MailDen$Proc" "parent" "I", .methodLink RX6 156 yX5_placeInRow, .instanceMethod yX5_placeInRow, .selects RX5 yX5_placeInRow yX5_placeInRow, .methodLink RX6 186 yX5_watchesOf, .instanceMethod yX5_watchesOf, .selects RX5 yX5_watchesOf yX5_watchesOf, .code yX6_ofProcess cX6_ofProcess 4 (some .int), .methodLink RX6 189 yX2_localAt, .code yX6_local cX6_local 4 (some .int), .fieldLink RX6 192 "MailDen$Box" "tags" "[I", .fieldLink RX6 196 "MailDen$Box" "numbers" "[I", .code yX6_mail cX6_mail 5 (some .int), .fieldLink RX6 202 "MailDen$Proc" "spec" "I", .fieldLink RX6 211 "MailDen$Proc" "children" "[I", .methodLink RX6 199 yX2_isSupervisor, .methodLink RX6 205 yX5_restartsEver, .instanceMethod yX5_restartsEver, .selects RX5 yX5_restartsEver yX5_restartsEver, .methodLink RX6 208 yX5_restartsLately, .code yX6_ofSupervisor cX6_ofSupervisor 4 (some .int), .methodLink RX6 214 yX5_holderOf, .code yX6_named cX6_named 2 (some .int), .fieldLink RX6 229 "MailDen$World" "lost" "I", .fieldLink RX6 232 "MailDen$World" "now" "I", .fieldLink RX6 235 "MailDen$World" "turns" "I", .fieldLink RX6 238 "MailDen$World" "lines" "I", .methodLink RX6 217 yX5_withStatus, .instanceMethod yX5_withStatus, .selects RX5 yX5_withStatus yX5_withStatus, .methodLink RX6 220 yX5_supervisors, .instanceMethod yX5_supervisors, .selects RX5 yX5_supervisors yX5_supervisors, .methodLink RX6 223 yX5_linkCount, .instanceMethod yX5_linkCount, .selects RX5 yX5_linkCount yX5_linkCount, .methodLink RX6 226 yX5_mailCount]
def wc12 : List Cond := [.instanceMethod yX5_mailCount, .selects RX5 yX5_mailCount yX5_mailCount, .code yX6_many cX6_many 2 (some .int), .code yX6_meanLines cX6_meanLines 2 (some .double), .methodLink RX6 241 yX5_copyFrom, .instanceMethod yX5_copyFrom, .selects RX5 yX5_copyFrom yX5_copyFrom, .methodLink RX6 245 yX5_endedBehind, .instanceMethod yX5_endedBehind, .selects RX5 yX5_endedBehind yX5_endedBehind, .code yX6_wouldFall cX6_wouldFall 3 (some .int), .code yX6_wouldPurge cX6_wouldPurge 2 (some .int), .code yX6_overBy cX6_overBy 5 (some .int), .methodLink RX6 248 yX0_firstOf, .code yX6_passedOver cX6_passedOver 4 (some .int), .constantLong RX6 253 (31), .methodLink RX6 274 yX6_ofProcess, .instanceMethod yX6_ofProcess, .selects RX6 yX6_ofProcess yX6_ofProcess, .methodLink RX6 277 yX6_local, .instanceMethod yX6_local, .selects RX6 yX6_local yX6_local, .methodLink RX6 280 yX6_mail, .instanceMethod yX6_mail, .selects RX6 yX6_mail yX6_mail, .methodLink RX6 283 yX6_ofSupervisor, .instanceMethod yX6_ofSupervisor, .selects RX6 yX6_ofSupervisor yX6_ofSupervisor, .methodLink RX6 286 yX6_wouldFall, .instanceMethod yX6_wouldFall, .selects RX6 yX6_wouldFall yX6_wouldFall, .methodLink RX6 289 yX6_passedOver, .instanceMethod yX6_passedOver, .selects RX6 yX6_passedOver yX6_passedOver, .code yX6_digestOfProcess cX6_digestOfProcess 8 (some .long), .constantLong RX6 251 (58144), .methodLink RX6 255 yX6_many, .instanceMethod yX6_many, .selects RX6 yX6_many yX6_many, .methodLink RX6 258 yX6_ofModule]
def wc13 : List Cond := [.instanceMethod yX6_ofModule, .selects RX6 yX6_ofModule yX6_ofModule, .methodLink RX6 261 yX6_wouldPurge, .instanceMethod yX6_wouldPurge, .selects RX6 yX6_wouldPurge yX6_wouldPurge, .methodLink RX6 264 yX6_digestOfProcess, .instanceMethod yX6_digestOfProcess, .selects RX6 yX6_digestOfProcess yX6_digestOfProcess, .methodLink RX6 268 yX6_named, .instanceMethod yX6_named, .selects RX6 yX6_named yX6_named, .methodLink RX6 271 yX6_overBy, .instanceMethod yX6_overBy, .selects RX6 yX6_overBy yX6_overBy, .code yX6_digest cX6_digest 5 (some .long)]
def WM : List Cond := wc0 ++ (wc1 ++ (wc2 ++ (wc3 ++ (wc4 ++ (wc5 ++ (wc6 ++ (wc7 ++ (wc8 ++ (wc9 ++ (wc10 ++ (wc11 ++ (wc12 ++ (wc13 ++ (wsU0 ++ (wsU1 ++ (wsU2 ++ (wsU3 ++ (wsU4 ++ (wsU5 ++ (wsU6))))))))))))))))))))
theorem ic_wc0 : ∀ w ∈ wc0, w ∈ WM := fun w h => List.mem_append_left _ h
theorem ic_wc1 : ∀ w ∈ wc1, w ∈ WM := fun w h => List.mem_append_right _ (List.mem_append_left _ h)
theorem ic_wc2 : ∀ w ∈ wc2, w ∈ WM := fun w h => List.mem_append_right _ (List.mem_append_right _ (List.mem_append_left _ h))
theorem ic_wc3 : ∀ w ∈ wc3, w ∈ WM := fun w h => List.mem_append_right _ (List.mem_append_right _ (List.mem_append_right _ (List.mem_append_left _ h)))
theorem ic_wc4 : ∀ w ∈ wc4, w ∈ WM := fun w h => List.mem_append_right _ (List.mem_append_right _ (List.mem_append_right _ (List.mem_append_right _ (List.mem_append_left _ h))))
theorem ic_wc5 : ∀ w ∈ wc5, w ∈ WM := fun w h => List.mem_append_right _ (List.mem_append_right _ (List.mem_append_right _ (List.mem_append_right _ (List.mem_append_right _ (List.mem_append_left _ h)))))
theorem ic_wc6 : ∀ w ∈ wc6, w ∈ WM := fun w h => List.mem_append_right _ (List.mem_append_right _ (List.mem_append_right _ (List.mem_append_right _ (List.mem_append_right _ (List.mem_append_right _ (List.mem_append_left _ h))))))
theorem ic_wc7 : ∀ w ∈ wc7, w ∈ WM := fun w h => List.mem_append_right _ (List.mem_append_right _ (List.mem_append_right _ (List.mem_append_right _ (List.mem_append_right _ (List.mem_append_right _ (List.mem_append_right _ (List.mem_append_left _ h)))))))
theorem ic_wc8 : ∀ w ∈ wc8, w ∈ WM := fun w h => List.mem_append_right _ (List.mem_append_right _ (List.mem_append_right _ (List.mem_append_right _ (List.mem_append_right _ (List.mem_append_right _ (List.mem_append_right _ (List.mem_append_right _ (List.mem_append_left _ h))))))))
theorem ic_wc9 : ∀ w ∈ wc9, w ∈ WM := fun w h => List.mem_append_right _ (List.mem_append_right _ (List.mem_append_right _ (List.mem_append_right _ (List.mem_append_right _ (List.mem_append_right _ (List.mem_append_right _ (List.mem_append_right _ (List.mem_append_right _ (List.mem_append_left _ h)))))))))
theorem ic_wc10 : ∀ w ∈ wc10, w ∈ WM := fun w h => List.mem_append_right _ (List.mem_append_right _ (List.mem_append_right _ (List.mem_append_right _ (List.mem_append_right _ (List.mem_append_right _ (List.mem_append_right _ (List.mem_append_right _ (List.mem_append_right _ (List.mem_append_right _ (List.mem_append_left _ h))))))))))
theorem ic_wc11 : ∀ w ∈ wc11, w ∈ WM := fun w h => List.mem_append_right _ (List.mem_append_right _ (List.mem_append_right _ (List.mem_append_right _ (List.mem_append_right _ (List.mem_append_right _ (List.mem_append_right _ (List.mem_append_right _ (List.mem_append_right _ (List.mem_append_right _ (List.mem_append_right _ (List.mem_append_left _ h)))))))))))
theorem ic_wc12 : ∀ w ∈ wc12, w ∈ WM := fun w h => List.mem_append_right _ (List.mem_append_right _ (List.mem_append_right _ (List.mem_append_right _ (List.mem_append_right _ (List.mem_append_right _ (List.mem_append_right _ (List.mem_append_right _ (List.mem_append_right _ (List.mem_append_right _ (List.mem_append_right _ (List.mem_append_right _ (List.mem_append_left _ h))))))))))))
theorem ic_wc13 : ∀ w ∈ wc13, w ∈ WM := fun w h => List.mem_append_right _ (List.mem_append_right _ (List.mem_append_right _ (List.mem_append_right _ (List.mem_append_right _ (List.mem_append_right _ (List.mem_append_right _ (List.mem_append_right _ (List.mem_append_right _ (List.mem_append_right _ (List.mem_append_right _ (List.mem_append_right _ (List.mem_append_right _ (List.mem_append_left _ h)))))))))))))
theorem ic_wsU0 : ∀ w ∈ wsU0, w ∈ WM := fun w h => List.mem_append_right _ (List.mem_append_right _ (List.mem_append_right _ (List.mem_append_right _ (List.mem_append_right _ (List.mem_append_right _ (List.mem_append_right _ (List.mem_append_right _ (List.mem_append_right _ (List.mem_append_right _ (List.mem_append_right _ (List.mem_append_right _ (List.mem_append_right _ (List.mem_append_right _ (List.mem_append_left _ h))))))))))))))
theorem ic_wsU1 : ∀ w ∈ wsU1, w ∈ WM := fun w h => List.mem_append_right _ (List.mem_append_right _ (List.mem_append_right _ (List.mem_append_right _ (List.mem_append_right _ (List.mem_append_right _ (List.mem_append_right _ (List.mem_append_right _ (List.mem_append_right _ (List.mem_append_right _ (List.mem_append_right _ (List.mem_append_right _ (List.mem_append_right _ (List.mem_append_right _ (List.mem_append_right _ (List.mem_append_left _ h)))))))))))))))
theorem ic_wsU2 : ∀ w ∈ wsU2, w ∈ WM := fun w h => List.mem_append_right _ (List.mem_append_right _ (List.mem_append_right _ (List.mem_append_right _ (List.mem_append_right _ (List.mem_append_right _ (List.mem_append_right _ (List.mem_append_right _ (List.mem_append_right _ (List.mem_append_right _ (List.mem_append_right _ (List.mem_append_right _ (List.mem_append_right _ (List.mem_append_right _ (List.mem_append_right _ (List.mem_append_right _ (List.mem_append_left _ h))))))))))))))))
theorem ic_wsU3 : ∀ w ∈ wsU3, w ∈ WM := fun w h => List.mem_append_right _ (List.mem_append_right _ (List.mem_append_right _ (List.mem_append_right _ (List.mem_append_right _ (List.mem_append_right _ (List.mem_append_right _ (List.mem_append_right _ (List.mem_append_right _ (List.mem_append_right _ (List.mem_append_right _ (List.mem_append_right _ (List.mem_append_right _ (List.mem_append_right _ (List.mem_append_right _ (List.mem_append_right _ (List.mem_append_right _ (List.mem_append_left _ h)))))))))))))))))
theorem ic_wsU4 : ∀ w ∈ wsU4, w ∈ WM := fun w h => List.mem_append_right _ (List.mem_append_right _ (List.mem_append_right _ (List.mem_append_right _ (List.mem_append_right _ (List.mem_append_right _ (List.mem_append_right _ (List.mem_append_right _ (List.mem_append_right _ (List.mem_append_right _ (List.mem_append_right _ (List.mem_append_right _ (List.mem_append_right _ (List.mem_append_right _ (List.mem_append_right _ (List.mem_append_right _ (List.mem_append_right _ (List.mem_append_right _ (List.mem_append_left _ h))))))))))))))))))
theorem ic_wsU5 : ∀ w ∈ wsU5, w ∈ WM := fun w h => List.mem_append_right _ (List.mem_append_right _ (List.mem_append_right _ (List.mem_append_right _ (List.mem_append_right _ (List.mem_append_right _ (List.mem_append_right _ (List.mem_append_right _ (List.mem_append_right _ (List.mem_append_right _ (List.mem_append_right _ (List.mem_append_right _ (List.mem_append_right _ (List.mem_append_right _ (List.mem_append_right _ (List.mem_append_right _ (List.mem_append_right _ (List.mem_append_right _ (List.mem_append_right _ (List.mem_append_left _ h)))))))))))))))))))
theorem ic_wsU6 : ∀ w ∈ wsU6, w ∈ WM := fun w h => List.mem_append_right _ (List.mem_append_right _ (List.mem_append_right _ (List.mem_append_right _ (List.mem_append_right _ (List.mem_append_right _ (List.mem_append_right _ (List.mem_append_right _ (List.mem_append_right _ (List.mem_append_right _ (List.mem_append_right _ (List.mem_append_right _ (List.mem_append_right _ (List.mem_append_right _ (List.mem_append_right _ (List.mem_append_right _ (List.mem_append_right _ (List.mem_append_right _ (List.mem_append_right _ (List.mem_append_right _ (h))))))))))))))))))))
set_option maxRecDepth 20000 in
theorem gd_wc0 : wc0.all goodWord = true := by decide +kernel
set_option maxRecDepth 20000 in
theorem gd_wc1 : wc1.all goodWord = true := by decide +kernel
set_option maxRecDepth 20000 in
theorem gd_wc2 : wc2.all goodWord = true := by decide +kernel
set_option maxRecDepth 20000 in
theorem gd_wc3 : wc3.all goodWord = true := by decide +kernel
set_option maxRecDepth 20000 in
theorem gd_wc4 : wc4.all goodWord = true := by decide +kernel
set_option maxRecDepth 20000 in
theorem gd_wc5 : wc5.all goodWord = true := by decide +kernel
set_option maxRecDepth 20000 in
theorem gd_wc6 : wc6.all goodWord = true := by decide +kernel
set_option maxRecDepth 20000 in
theorem gd_wc7 : wc7.all goodWord = true := by decide +kernel
set_option maxRecDepth 20000 in
theorem gd_wc8 : wc8.all goodWord = true := by decide +kernel
set_option maxRecDepth 20000 in
theorem gd_wc9 : wc9.all goodWord = true := by decide +kernel
set_option maxRecDepth 20000 in
theorem gd_wc10 : wc10.all goodWord = true := by decide +kernel
set_option maxRecDepth 20000 in
theorem gd_wc11 : wc11.all goodWord = true := by decide +kernel
set_option maxRecDepth 20000 in
theorem gd_wc12 : wc12.all goodWord = true := by decide +kernel
set_option maxRecDepth 20000 in
theorem gd_wc13 : wc13.all goodWord = true := by decide +kernel
set_option maxRecDepth 20000 in
theorem gd_wsU0 : wsU0.all goodWord = true := by decide +kernel
set_option maxRecDepth 20000 in
theorem gd_wsU1 : wsU1.all goodWord = true := by decide +kernel
set_option maxRecDepth 20000 in
theorem gd_wsU2 : wsU2.all goodWord = true := by decide +kernel
set_option maxRecDepth 20000 in
theorem gd_wsU3 : wsU3.all goodWord = true := by decide +kernel
set_option maxRecDepth 20000 in
theorem gd_wsU4 : wsU4.all goodWord = true := by decide +kernel
set_option maxRecDepth 20000 in
theorem gd_wsU5 : wsU5.all goodWord = true := by decide +kernel
set_option maxRecDepth 20000 in
theorem gd_wsU6 : wsU6.all goodWord = true := by decide +kernel
theorem ge_wc0 : ∀ w ∈ wc0, goodWord w = true := fun w h => List.all_eq_true.mp gd_wc0 w h
theorem ge_wc1 : ∀ w ∈ wc1, goodWord w = true := fun w h => List.all_eq_true.mp gd_wc1 w h
theorem ge_wc2 : ∀ w ∈ wc2, goodWord w = true := fun w h => List.all_eq_true.mp gd_wc2 w h
theorem ge_wc3 : ∀ w ∈ wc3, goodWord w = true := fun w h => List.all_eq_true.mp gd_wc3 w h
theorem ge_wc4 : ∀ w ∈ wc4, goodWord w = true := fun w h => List.all_eq_true.mp gd_wc4 w h
theorem ge_wc5 : ∀ w ∈ wc5, goodWord w = true := fun w h => List.all_eq_true.mp gd_wc5 w h
theorem ge_wc6 : ∀ w ∈ wc6, goodWord w = true := fun w h => List.all_eq_true.mp gd_wc6 w h
theorem ge_wc7 : ∀ w ∈ wc7, goodWord w = true := fun w h => List.all_eq_true.mp gd_wc7 w h
theorem ge_wc8 : ∀ w ∈ wc8, goodWord w = true := fun w h => List.all_eq_true.mp gd_wc8 w h
theorem ge_wc9 : ∀ w ∈ wc9, goodWord w = true := fun w h => List.all_eq_true.mp gd_wc9 w h
theorem ge_wc10 : ∀ w ∈ wc10, goodWord w = true := fun w h => List.all_eq_true.mp gd_wc10 w h
theorem ge_wc11 : ∀ w ∈ wc11, goodWord w = true := fun w h => List.all_eq_true.mp gd_wc11 w h
theorem ge_wc12 : ∀ w ∈ wc12, goodWord w = true := fun w h => List.all_eq_true.mp gd_wc12 w h
theorem ge_wc13 : ∀ w ∈ wc13, goodWord w = true := fun w h => List.all_eq_true.mp gd_wc13 w h
theorem ge_wsU0 : ∀ w ∈ wsU0, goodWord w = true := fun w h => List.all_eq_true.mp gd_wsU0 w h
theorem ge_wsU1 : ∀ w ∈ wsU1, goodWord w = true := fun w h => List.all_eq_true.mp gd_wsU1 w h
theorem ge_wsU2 : ∀ w ∈ wsU2, goodWord w = true := fun w h => List.all_eq_true.mp gd_wsU2 w h
theorem ge_wsU3 : ∀ w ∈ wsU3, goodWord w = true := fun w h => List.all_eq_true.mp gd_wsU3 w h
theorem ge_wsU4 : ∀ w ∈ wsU4, goodWord w = true := fun w h => List.all_eq_true.mp gd_wsU4 w h
theorem ge_wsU5 : ∀ w ∈ wsU5, goodWord w = true := fun w h => List.all_eq_true.mp gd_wsU5 w h
theorem ge_wsU6 : ∀ w ∈ wsU6, goodWord w = true := fun w h => List.all_eq_true.mp gd_wsU6 w h
theorem gd_WM : ∀ w ∈ WM, goodWord w = true := by
  intro w h
  rcases List.mem_append.mp h with h | h
  · exact ge_wc0 w h
  rcases List.mem_append.mp h with h | h
  · exact ge_wc1 w h
  rcases List.mem_append.mp h with h | h
  · exact ge_wc2 w h
  rcases List.mem_append.mp h with h | h
  · exact ge_wc3 w h
  rcases List.mem_append.mp h with h | h
  · exact ge_wc4 w h
  rcases List.mem_append.mp h with h | h
  · exact ge_wc5 w h
  rcases List.mem_append.mp h with h | h
  · exact ge_wc6 w h
  rcases List.mem_append.mp h with h | h
  · exact ge_wc7 w h
  rcases List.mem_append.mp h with h | h
  · exact ge_wc8 w h
  rcases List.mem_append.mp h with h | h
  · exact ge_wc9 w h
  rcases List.mem_append.mp h with h | h
  · exact ge_wc10 w h
  rcases List.mem_append.mp h with h | h
  · exact ge_wc11 w h
  rcases List.mem_append.mp h with h | h
  · exact ge_wc12 w h
  rcases List.mem_append.mp h with h | h
  · exact ge_wc13 w h
  rcases List.mem_append.mp h with h | h
  · exact ge_wsU0 w h
  rcases List.mem_append.mp h with h | h
  · exact ge_wsU1 w h
  rcases List.mem_append.mp h with h | h
  · exact ge_wsU2 w h
  rcases List.mem_append.mp h with h | h
  · exact ge_wsU3 w h
  rcases List.mem_append.mp h with h | h
  · exact ge_wsU4 w h
  rcases List.mem_append.mp h with h | h
  · exact ge_wsU5 w h
  exact ge_wsU6 w h
theorem qw_0 : (.fieldLink RX0 9 "MailDen$Box" "tags" "[I" : Cond) ∈ WM := ic_wc0 _ (List.mem_of_getElem? (i := 0) rfl)
theorem qw_1 : (.fieldLink RX0 15 "MailDen$Box" "numbers" "[I" : Cond) ∈ WM := ic_wc0 _ (List.mem_of_getElem? (i := 1) rfl)
theorem qw_2 : (.fieldLink RX0 18 "MailDen$Box" "count" "I" : Cond) ∈ WM := ic_wc0 _ (List.mem_of_getElem? (i := 2) rfl)
theorem qw_3 : (.code yX0_put cX0_put 3 (some .boolean) : Cond) ∈ WM := ic_wc0 _ (List.mem_of_getElem? (i := 3) rfl)
theorem qw_4 : (.code yX0_firstOf cX0_firstOf 3 (some .int) : Cond) ∈ WM := ic_wc0 _ (List.mem_of_getElem? (i := 4) rfl)
theorem qw_5 : (.code yX6_isWithin cX6_isWithin 3 (some .boolean) : Cond) ∈ WM := ic_wc0 _ (List.mem_of_getElem? (i := 5) rfl)
theorem qw_6 : (.static yX6_isWithin : Cond) ∈ WM := ic_wc0 _ (List.mem_of_getElem? (i := 6) rfl)
theorem qw_7 : (.initialized RX6 : Cond) ∈ WM := ic_wc0 _ (List.mem_of_getElem? (i := 7) rfl)
theorem qw_8 : (.code yX0_takeOut cX0_takeOut 4 (some .int) : Cond) ∈ WM := ic_wc0 _ (List.mem_of_getElem? (i := 8) rfl)
theorem qw_9 : (.methodLink RX0 26 arraycopyName : Cond) ∈ WM := ic_wc0 _ (List.mem_of_getElem? (i := 9) rfl)
theorem qw_10 : (.native arraycopyName : Cond) ∈ WM := ic_wc0 _ (List.mem_of_getElem? (i := 10) rfl)
theorem qw_11 : (.static arraycopyName : Cond) ∈ WM := ic_wc0 _ (List.mem_of_getElem? (i := 11) rfl)
theorem qw_12 : (.initialized "java/lang/System" : Cond) ∈ WM := ic_wc0 _ (List.mem_of_getElem? (i := 12) rfl)
theorem qw_13 : (.code yX0_copyFrom cX0_copyFrom 2 none : Cond) ∈ WM := ic_wc0 _ (List.mem_of_getElem? (i := 13) rfl)
theorem qw_14 : (.fieldLink RX1 9 "MailDen$Codes" "lineCounts" "[I" : Cond) ∈ WM := ic_wc0 _ (List.mem_of_getElem? (i := 14) rfl)
theorem qw_15 : (.fieldLink RX1 15 "MailDen$Codes" "kinds" "[I" : Cond) ∈ WM := ic_wc0 _ (List.mem_of_getElem? (i := 15) rfl)
theorem qw_16 : (.fieldLink RX1 18 "MailDen$Codes" "as" "[I" : Cond) ∈ WM := ic_wc0 _ (List.mem_of_getElem? (i := 16) rfl)
theorem qw_17 : (.fieldLink RX1 21 "MailDen$Codes" "bs" "[I" : Cond) ∈ WM := ic_wc0 _ (List.mem_of_getElem? (i := 17) rfl)
theorem qw_18 : (.fieldLink RX1 24 "MailDen$Codes" "modules" "I" : Cond) ∈ WM := ic_wc0 _ (List.mem_of_getElem? (i := 18) rfl)
theorem qw_19 : (.code yX1_hasModule cX1_hasModule 2 (some .boolean) : Cond) ∈ WM := ic_wc0 _ (List.mem_of_getElem? (i := 19) rfl)
theorem qw_20 : (.methodLink RX1 28 yX1_hasModule : Cond) ∈ WM := ic_wc0 _ (List.mem_of_getElem? (i := 20) rfl)
theorem qw_21 : (.instanceMethod yX1_hasModule : Cond) ∈ WM := ic_wc0 _ (List.mem_of_getElem? (i := 21) rfl)
theorem qw_22 : (.selects RX1 yX1_hasModule yX1_hasModule : Cond) ∈ WM := ic_wc0 _ (List.mem_of_getElem? (i := 22) rfl)
theorem qw_23 : (.initialized RX1 : Cond) ∈ WM := ic_wc0 _ (List.mem_of_getElem? (i := 23) rfl)
theorem qw_24 : (.code yX1_rowOf cX1_rowOf 3 (some .int) : Cond) ∈ WM := ic_wc0 _ (List.mem_of_getElem? (i := 24) rfl)
theorem qw_25 : (.methodLink RX1 36 yX1_rowOf : Cond) ∈ WM := ic_wc0 _ (List.mem_of_getElem? (i := 25) rfl)
theorem qw_26 : (.instanceMethod yX1_rowOf : Cond) ∈ WM := ic_wc0 _ (List.mem_of_getElem? (i := 26) rfl)
theorem qw_27 : (.selects RX1 yX1_rowOf yX1_rowOf : Cond) ∈ WM := ic_wc0 _ (List.mem_of_getElem? (i := 27) rfl)
theorem qw_28 : (.code yX1_linesOf cX1_linesOf 4 (some .int) : Cond) ∈ WM := ic_wc0 _ (List.mem_of_getElem? (i := 28) rfl)
theorem qw_29 : (.code yX1_lineAt cX1_lineAt 5 (some .int) : Cond) ∈ WM := ic_wc0 _ (List.mem_of_getElem? (i := 29) rfl)
theorem qw_30 : (.code yX1_isLine cX1_isLine 7 (some .boolean) : Cond) ∈ WM := ic_wc0 _ (List.mem_of_getElem? (i := 30) rfl)
theorem qw_31 : (.code yX1_addLine cX1_addLine 9 (some .int) : Cond) ∈ WM := ic_wc0 _ (List.mem_of_getElem? (i := 31) rfl)
theorem qw_32 : (.fieldLink RX4 9 "MailDen$Watches" "watchers" "[I" : Cond) ∈ WM := ic_wc0 _ (List.mem_of_getElem? (i := 32) rfl)
theorem qw_33 : (.fieldLink RX4 15 "MailDen$Watches" "times" "[I" : Cond) ∈ WM := ic_wc0 _ (List.mem_of_getElem? (i := 33) rfl)
theorem qw_34 : (.fieldLink RX2 9 "MailDen$Proc" "module" "I" : Cond) ∈ WM := ic_wc0 _ (List.mem_of_getElem? (i := 34) rfl)
theorem qw_35 : (.fieldLink RX2 15 "MailDen$Proc" "version" "I" : Cond) ∈ WM := ic_wc0 _ (List.mem_of_getElem? (i := 35) rfl)
theorem qw_36 : (.fieldLink RX2 18 "MailDen$Proc" "spec" "I" : Cond) ∈ WM := ic_wc0 _ (List.mem_of_getElem? (i := 36) rfl)
theorem qw_37 : (.fieldLink RX2 21 "MailDen$Proc" "parent" "I" : Cond) ∈ WM := ic_wc0 _ (List.mem_of_getElem? (i := 37) rfl)
theorem qw_38 : (.fieldLink RX2 24 "MailDen$Proc" "status" "I" : Cond) ∈ WM := ic_wc0 _ (List.mem_of_getElem? (i := 38) rfl)
theorem qw_39 : (.fieldLink RX2 27 "MailDen$Proc" "reason" "I" : Cond) ∈ WM := ic_wc0 _ (List.mem_of_getElem? (i := 39) rfl)
theorem qw_40 : (.fieldLink RX2 30 "MailDen$Proc" "until" "I" : Cond) ∈ WM := ic_wc1 _ (List.mem_of_getElem? (i := 0) rfl)
theorem qw_41 : (.fieldLink RX2 33 "MailDen$Proc" "wait" "I" : Cond) ∈ WM := ic_wc1 _ (List.mem_of_getElem? (i := 1) rfl)
theorem qw_42 : (.fieldLink RX2 36 "MailDen$Proc" "locals" "[I" : Cond) ∈ WM := ic_wc1 _ (List.mem_of_getElem? (i := 2) rfl)
theorem qw_43 : (.fieldLink RX2 40 "MailDen$Proc" "children" "[I" : Cond) ∈ WM := ic_wc1 _ (List.mem_of_getElem? (i := 3) rfl)
theorem qw_44 : (.initialized RX0 : Cond) ∈ WM := ic_wc1 _ (List.mem_of_getElem? (i := 4) rfl)
theorem qw_45 : (.fieldLink RX2 46 "MailDen$Proc" "box" "LMailDen$Box;" : Cond) ∈ WM := ic_wc1 _ (List.mem_of_getElem? (i := 5) rfl)
theorem qw_46 : (.initialized RX4 : Cond) ∈ WM := ic_wc1 _ (List.mem_of_getElem? (i := 6) rfl)
theorem qw_47 : (.fieldLink RX2 53 "MailDen$Proc" "watches" "LMailDen$Watches;" : Cond) ∈ WM := ic_wc1 _ (List.mem_of_getElem? (i := 7) rfl)
theorem qw_48 : (.fieldLink RX2 57 "MailDen$Proc" "number" "I" : Cond) ∈ WM := ic_wc1 _ (List.mem_of_getElem? (i := 8) rfl)
theorem qw_49 : (.methodLink RX2 60 yJ7_fill_53178 : Cond) ∈ WM := ic_wc1 _ (List.mem_of_getElem? (i := 9) rfl)
theorem qw_50 : (.static yJ7_fill_53178 : Cond) ∈ WM := ic_wc1 _ (List.mem_of_getElem? (i := 10) rfl)
theorem qw_51 : (.initialized RJ7 : Cond) ∈ WM := ic_wc1 _ (List.mem_of_getElem? (i := 11) rfl)
theorem qw_52 : (.code yJ7_fill_53178 cJ7_fill_53178 4 none : Cond) ∈ WM := ic_wc1 _ (List.mem_of_getElem? (i := 12) rfl)
theorem qw_53 : (.methodLink RX4 22 arraycopyName : Cond) ∈ WM := ic_wc1 _ (List.mem_of_getElem? (i := 13) rfl)
theorem qw_54 : (.fieldLink RX4 18 "MailDen$Watches" "count" "I" : Cond) ∈ WM := ic_wc1 _ (List.mem_of_getElem? (i := 14) rfl)
theorem qw_55 : (.code yX4_copyFrom cX4_copyFrom 2 none : Cond) ∈ WM := ic_wc1 _ (List.mem_of_getElem? (i := 15) rfl)
theorem qw_56 : (.fieldLink RX2 66 "MailDen$Proc" "there" "I" : Cond) ∈ WM := ic_wc1 _ (List.mem_of_getElem? (i := 16) rfl)
theorem qw_57 : (.fieldLink RX2 69 "MailDen$Proc" "line" "I" : Cond) ∈ WM := ic_wc1 _ (List.mem_of_getElem? (i := 17) rfl)
theorem qw_58 : (.fieldLink RX2 72 "MailDen$Proc" "ticket" "I" : Cond) ∈ WM := ic_wc1 _ (List.mem_of_getElem? (i := 18) rfl)
theorem qw_59 : (.fieldLink RX2 75 "MailDen$Proc" "traps" "Z" : Cond) ∈ WM := ic_wc1 _ (List.mem_of_getElem? (i := 19) rfl)
theorem qw_60 : (.fieldLink RX2 79 "MailDen$Proc" "links" "I" : Cond) ∈ WM := ic_wc1 _ (List.mem_of_getElem? (i := 20) rfl)
theorem qw_61 : (.fieldLink RX2 82 "MailDen$Proc" "emptyPlaces" "I" : Cond) ∈ WM := ic_wc1 _ (List.mem_of_getElem? (i := 21) rfl)
theorem qw_62 : (.methodLink RX2 85 arraycopyName : Cond) ∈ WM := ic_wc1 _ (List.mem_of_getElem? (i := 22) rfl)
theorem qw_63 : (.methodLink RX2 91 yX0_copyFrom : Cond) ∈ WM := ic_wc1 _ (List.mem_of_getElem? (i := 23) rfl)
theorem qw_64 : (.instanceMethod yX0_copyFrom : Cond) ∈ WM := ic_wc1 _ (List.mem_of_getElem? (i := 24) rfl)
theorem qw_65 : (.selects RX0 yX0_copyFrom yX0_copyFrom : Cond) ∈ WM := ic_wc1 _ (List.mem_of_getElem? (i := 25) rfl)
theorem qw_66 : (.methodLink RX2 95 yX4_copyFrom : Cond) ∈ WM := ic_wc1 _ (List.mem_of_getElem? (i := 26) rfl)
theorem qw_67 : (.instanceMethod yX4_copyFrom : Cond) ∈ WM := ic_wc1 _ (List.mem_of_getElem? (i := 27) rfl)
theorem qw_68 : (.selects RX4 yX4_copyFrom yX4_copyFrom : Cond) ∈ WM := ic_wc1 _ (List.mem_of_getElem? (i := 28) rfl)
theorem qw_69 : (.code yX2_copyFrom cX2_copyFrom 2 none : Cond) ∈ WM := ic_wc1 _ (List.mem_of_getElem? (i := 29) rfl)
theorem qw_70 : (.code yX2_isSupervisor cX2_isSupervisor 1 (some .boolean) : Cond) ∈ WM := ic_wc1 _ (List.mem_of_getElem? (i := 30) rfl)
theorem qw_71 : (.code yX2_isLinkedWith cX2_isLinkedWith 2 (some .boolean) : Cond) ∈ WM := ic_wc1 _ (List.mem_of_getElem? (i := 31) rfl)
theorem qw_72 : (.code yX2_isEmptyPlace cX2_isEmptyPlace 2 (some .boolean) : Cond) ∈ WM := ic_wc1 _ (List.mem_of_getElem? (i := 32) rfl)
theorem qw_73 : (.code yX2_localAt cX2_localAt 2 (some .int) : Cond) ∈ WM := ic_wc1 _ (List.mem_of_getElem? (i := 33) rfl)
theorem qw_74 : (.code yX2_putLocal cX2_putLocal 3 none : Cond) ∈ WM := ic_wc1 _ (List.mem_of_getElem? (i := 34) rfl)
theorem qw_75 : (.methodLink RX2 102 Lib.Math.min.name : Cond) ∈ WM := ic_wc1 _ (List.mem_of_getElem? (i := 35) rfl)
theorem qw_76 : (.static Lib.Math.min.name : Cond) ∈ WM := ic_wc1 _ (List.mem_of_getElem? (i := 36) rfl)
theorem qw_77 : (.initialized "java/lang/Math" : Cond) ∈ WM := ic_wc1 _ (List.mem_of_getElem? (i := 37) rfl)
theorem qw_78 : (.code Lib.Math.min.name Lib.Math.min.code 2 (some .int) : Cond) ∈ WM := ic_wc1 _ (List.mem_of_getElem? (i := 38) rfl)
theorem qw_79 : (.methodLink RX2 108 Lib.Math.max.name : Cond) ∈ WM := ic_wc1 _ (List.mem_of_getElem? (i := 39) rfl)
theorem qw_80 : (.static Lib.Math.max.name : Cond) ∈ WM := ic_wc2 _ (List.mem_of_getElem? (i := 0) rfl)
theorem qw_81 : (.code Lib.Math.max.name Lib.Math.max.code 2 (some .int) : Cond) ∈ WM := ic_wc2 _ (List.mem_of_getElem? (i := 1) rfl)
theorem qw_82 : (.code yX2_hold cX2_hold 2 none : Cond) ∈ WM := ic_wc2 _ (List.mem_of_getElem? (i := 2) rfl)
theorem qw_83 : (.methodLink RX2 111 yX0_firstOf : Cond) ∈ WM := ic_wc2 _ (List.mem_of_getElem? (i := 3) rfl)
theorem qw_84 : (.instanceMethod yX0_firstOf : Cond) ∈ WM := ic_wc2 _ (List.mem_of_getElem? (i := 4) rfl)
theorem qw_85 : (.selects RX0 yX0_firstOf yX0_firstOf : Cond) ∈ WM := ic_wc2 _ (List.mem_of_getElem? (i := 5) rfl)
theorem qw_86 : (.methodLink RX2 115 yX0_takeOut : Cond) ∈ WM := ic_wc2 _ (List.mem_of_getElem? (i := 6) rfl)
theorem qw_87 : (.instanceMethod yX0_takeOut : Cond) ∈ WM := ic_wc2 _ (List.mem_of_getElem? (i := 7) rfl)
theorem qw_88 : (.selects RX0 yX0_takeOut yX0_takeOut : Cond) ∈ WM := ic_wc2 _ (List.mem_of_getElem? (i := 8) rfl)
theorem qw_89 : (.methodLink RX2 118 yX2_hold : Cond) ∈ WM := ic_wc2 _ (List.mem_of_getElem? (i := 9) rfl)
theorem qw_90 : (.instanceMethod yX2_hold : Cond) ∈ WM := ic_wc2 _ (List.mem_of_getElem? (i := 10) rfl)
theorem qw_91 : (.selects RX2 yX2_hold yX2_hold : Cond) ∈ WM := ic_wc2 _ (List.mem_of_getElem? (i := 11) rfl)
theorem qw_92 : (.initialized RX2 : Cond) ∈ WM := ic_wc2 _ (List.mem_of_getElem? (i := 12) rfl)
theorem qw_93 : (.code yX2_takeMail cX2_takeMail 3 (some .boolean) : Cond) ∈ WM := ic_wc2 _ (List.mem_of_getElem? (i := 13) rfl)
theorem qw_94 : (.code yX2_waitFor cX2_waitFor 3 none : Cond) ∈ WM := ic_wc2 _ (List.mem_of_getElem? (i := 14) rfl)
theorem qw_95 : (.code yX2_waitsForMail cX2_waitsForMail 2 (some .boolean) : Cond) ∈ WM := ic_wc2 _ (List.mem_of_getElem? (i := 15) rfl)
theorem qw_96 : (.methodLink RX2 122 yX2_takeMail : Cond) ∈ WM := ic_wc2 _ (List.mem_of_getElem? (i := 16) rfl)
theorem qw_97 : (.instanceMethod yX2_takeMail : Cond) ∈ WM := ic_wc2 _ (List.mem_of_getElem? (i := 17) rfl)
theorem qw_98 : (.selects RX2 yX2_takeMail yX2_takeMail : Cond) ∈ WM := ic_wc2 _ (List.mem_of_getElem? (i := 18) rfl)
theorem qw_99 : (.code yX2_resume cX2_resume 1 none : Cond) ∈ WM := ic_wc2 _ (List.mem_of_getElem? (i := 19) rfl)
theorem qw_100 : (.code yX2_placeOf cX2_placeOf 3 (some .int) : Cond) ∈ WM := ic_wc2 _ (List.mem_of_getElem? (i := 20) rfl)
theorem qw_101 : (.fieldLink RX3 9 "MailDen$Specs" "strategies" "[I" : Cond) ∈ WM := ic_wc2 _ (List.mem_of_getElem? (i := 21) rfl)
theorem qw_102 : (.fieldLink RX3 15 "MailDen$Specs" "mosts" "[I" : Cond) ∈ WM := ic_wc2 _ (List.mem_of_getElem? (i := 22) rfl)
theorem qw_103 : (.fieldLink RX3 18 "MailDen$Specs" "withins" "[I" : Cond) ∈ WM := ic_wc2 _ (List.mem_of_getElem? (i := 23) rfl)
theorem qw_104 : (.fieldLink RX3 21 "MailDen$Specs" "placeCounts" "[I" : Cond) ∈ WM := ic_wc2 _ (List.mem_of_getElem? (i := 24) rfl)
theorem qw_105 : (.fieldLink RX3 24 "MailDen$Specs" "ofSpecs" "[Z" : Cond) ∈ WM := ic_wc2 _ (List.mem_of_getElem? (i := 25) rfl)
theorem qw_106 : (.fieldLink RX3 28 "MailDen$Specs" "numbers" "[I" : Cond) ∈ WM := ic_wc2 _ (List.mem_of_getElem? (i := 26) rfl)
theorem qw_107 : (.fieldLink RX3 31 "MailDen$Specs" "modes" "[I" : Cond) ∈ WM := ic_wc2 _ (List.mem_of_getElem? (i := 27) rfl)
theorem qw_108 : (.fieldLink RX3 34 "MailDen$Specs" "count" "I" : Cond) ∈ WM := ic_wc2 _ (List.mem_of_getElem? (i := 28) rfl)
theorem qw_109 : (.code yX3_hasSpec cX3_hasSpec 2 (some .boolean) : Cond) ∈ WM := ic_wc2 _ (List.mem_of_getElem? (i := 29) rfl)
theorem qw_110 : (.methodLink RX3 38 yX3_hasSpec : Cond) ∈ WM := ic_wc2 _ (List.mem_of_getElem? (i := 30) rfl)
theorem qw_111 : (.instanceMethod yX3_hasSpec : Cond) ∈ WM := ic_wc2 _ (List.mem_of_getElem? (i := 31) rfl)
theorem qw_112 : (.selects RX3 yX3_hasSpec yX3_hasSpec : Cond) ∈ WM := ic_wc2 _ (List.mem_of_getElem? (i := 32) rfl)
theorem qw_113 : (.initialized RX3 : Cond) ∈ WM := ic_wc2 _ (List.mem_of_getElem? (i := 33) rfl)
theorem qw_114 : (.code yX3_placesOf cX3_placesOf 2 (some .int) : Cond) ∈ WM := ic_wc2 _ (List.mem_of_getElem? (i := 34) rfl)
theorem qw_115 : (.code yX3_placeAt cX3_placeAt 3 (some .int) : Cond) ∈ WM := ic_wc2 _ (List.mem_of_getElem? (i := 35) rfl)
theorem qw_116 : (.code yX3_addSpec cX3_addSpec 5 (some .int) : Cond) ∈ WM := ic_wc2 _ (List.mem_of_getElem? (i := 36) rfl)
theorem qw_117 : (.code yX3_addPlace cX3_addPlace 7 (some .int) : Cond) ∈ WM := ic_wc2 _ (List.mem_of_getElem? (i := 37) rfl)
theorem qw_118 : (.code yX4_add cX4_add 3 none : Cond) ∈ WM := ic_wc2 _ (List.mem_of_getElem? (i := 38) rfl)
theorem qw_119 : (.fieldLink RX5 9 "MailDen$World" "current" "[I" : Cond) ∈ WM := ic_wc2 _ (List.mem_of_getElem? (i := 39) rfl)
theorem qw_120 : (.fieldLink RX5 15 "MailDen$World" "names" "[I" : Cond) ∈ WM := ic_wc3 _ (List.mem_of_getElem? (i := 0) rfl)
theorem qw_121 : (.fieldLink RX5 20 "MailDen$World" "procs" "[LMailDen$Proc;" : Cond) ∈ WM := ic_wc3 _ (List.mem_of_getElem? (i := 1) rfl)
theorem qw_122 : (.fieldLink RX5 24 "MailDen$World" "ended" "[I" : Cond) ∈ WM := ic_wc3 _ (List.mem_of_getElem? (i := 2) rfl)
theorem qw_123 : (.fieldLink RX5 27 "MailDen$World" "restartOf" "[I" : Cond) ∈ WM := ic_wc3 _ (List.mem_of_getElem? (i := 3) rfl)
theorem qw_124 : (.fieldLink RX5 30 "MailDen$World" "restartAt" "[I" : Cond) ∈ WM := ic_wc3 _ (List.mem_of_getElem? (i := 4) rfl)
theorem qw_125 : (.fieldLink RX5 33 "MailDen$World" "codes" "LMailDen$Codes;" : Cond) ∈ WM := ic_wc3 _ (List.mem_of_getElem? (i := 5) rfl)
theorem qw_126 : (.fieldLink RX5 37 "MailDen$World" "specs" "LMailDen$Specs;" : Cond) ∈ WM := ic_wc3 _ (List.mem_of_getElem? (i := 6) rfl)
theorem qw_127 : (.methodLink RX5 41 yJ7_fill_53178 : Cond) ∈ WM := ic_wc3 _ (List.mem_of_getElem? (i := 7) rfl)
theorem qw_128 : (.methodLink RX5 50 arraycopyName : Cond) ∈ WM := ic_wc3 _ (List.mem_of_getElem? (i := 8) rfl)
theorem qw_129 : (.fieldLink RX5 56 "MailDen$World" "count" "I" : Cond) ∈ WM := ic_wc3 _ (List.mem_of_getElem? (i := 9) rfl)
theorem qw_130 : (.methodLink RX5 60 Lib.Math.max.name : Cond) ∈ WM := ic_wc3 _ (List.mem_of_getElem? (i := 10) rfl)
theorem qw_131 : (.fieldLink RX5 70 "MailDen$World" "now" "I" : Cond) ∈ WM := ic_wc3 _ (List.mem_of_getElem? (i := 11) rfl)
theorem qw_132 : (.fieldLink RX5 73 "MailDen$World" "lost" "I" : Cond) ∈ WM := ic_wc3 _ (List.mem_of_getElem? (i := 12) rfl)
theorem qw_133 : (.fieldLink RX5 76 "MailDen$World" "turns" "I" : Cond) ∈ WM := ic_wc3 _ (List.mem_of_getElem? (i := 13) rfl)
theorem qw_134 : (.fieldLink RX5 79 "MailDen$World" "lines" "I" : Cond) ∈ WM := ic_wc3 _ (List.mem_of_getElem? (i := 14) rfl)
theorem qw_135 : (.fieldLink RX5 82 "MailDen$World" "tickets" "I" : Cond) ∈ WM := ic_wc3 _ (List.mem_of_getElem? (i := 15) rfl)
theorem qw_136 : (.fieldLink RX5 85 "MailDen$World" "endedCount" "I" : Cond) ∈ WM := ic_wc3 _ (List.mem_of_getElem? (i := 16) rfl)
theorem qw_137 : (.fieldLink RX5 88 "MailDen$World" "settledCount" "I" : Cond) ∈ WM := ic_wc3 _ (List.mem_of_getElem? (i := 17) rfl)
theorem qw_138 : (.fieldLink RX5 91 "MailDen$World" "restartCount" "I" : Cond) ∈ WM := ic_wc3 _ (List.mem_of_getElem? (i := 18) rfl)
theorem qw_139 : (.methodLink RX5 66 yX2_copyFrom : Cond) ∈ WM := ic_wc3 _ (List.mem_of_getElem? (i := 19) rfl)
theorem qw_140 : (.instanceMethod yX2_copyFrom : Cond) ∈ WM := ic_wc3 _ (List.mem_of_getElem? (i := 20) rfl)
theorem qw_141 : (.selects RX2 yX2_copyFrom yX2_copyFrom : Cond) ∈ WM := ic_wc3 _ (List.mem_of_getElem? (i := 21) rfl)
theorem qw_142 : (.code yX5_copyFrom cX5_copyFrom 4 none : Cond) ∈ WM := ic_wc3 _ (List.mem_of_getElem? (i := 22) rfl)
theorem qw_143 : (.code yX5_procAt cX5_procAt 2 (some (.object "MailDen$Proc")) : Cond) ∈ WM := ic_wc3 _ (List.mem_of_getElem? (i := 23) rfl)
theorem qw_144 : (.fieldLink RX5 94 "MailDen$Proc" "status" "I" : Cond) ∈ WM := ic_wc3 _ (List.mem_of_getElem? (i := 24) rfl)
theorem qw_145 : (.code yX5_living cX5_living 2 (some (.object "MailDen$Proc")) : Cond) ∈ WM := ic_wc3 _ (List.mem_of_getElem? (i := 25) rfl)
theorem qw_146 : (.methodLink RX5 97 yX1_hasModule : Cond) ∈ WM := ic_wc3 _ (List.mem_of_getElem? (i := 26) rfl)
theorem qw_147 : (.code yX5_currentOf cX5_currentOf 2 (some .int) : Cond) ∈ WM := ic_wc3 _ (List.mem_of_getElem? (i := 27) rfl)
theorem qw_148 : (.code yX5_holderOf cX5_holderOf 2 (some .int) : Cond) ∈ WM := ic_wc3 _ (List.mem_of_getElem? (i := 28) rfl)
theorem qw_149 : (.fieldLink RX5 107 "MailDen$Codes" "modules" "I" : Cond) ∈ WM := ic_wc3 _ (List.mem_of_getElem? (i := 29) rfl)
theorem qw_150 : (.fieldLink RX5 110 "MailDen$Proc" "module" "I" : Cond) ∈ WM := ic_wc3 _ (List.mem_of_getElem? (i := 30) rfl)
theorem qw_151 : (.fieldLink RX5 113 "MailDen$Proc" "version" "I" : Cond) ∈ WM := ic_wc3 _ (List.mem_of_getElem? (i := 31) rfl)
theorem qw_152 : (.fieldLink RX5 116 "MailDen$Proc" "parent" "I" : Cond) ∈ WM := ic_wc3 _ (List.mem_of_getElem? (i := 32) rfl)
theorem qw_153 : (.fieldLink RX5 119 "MailDen$Proc" "ticket" "I" : Cond) ∈ WM := ic_wc3 _ (List.mem_of_getElem? (i := 33) rfl)
theorem qw_154 : (.code yX5_comesOfModule cX5_comesOfModule 4 (some (.object "MailDen$Proc")) : Cond) ∈ WM := ic_wc3 _ (List.mem_of_getElem? (i := 34) rfl)
theorem qw_155 : (.fieldLink RX5 122 "MailDen$Proc" "spec" "I" : Cond) ∈ WM := ic_wc3 _ (List.mem_of_getElem? (i := 35) rfl)
theorem qw_156 : (.fieldLink RX5 125 "MailDen$Proc" "line" "I" : Cond) ∈ WM := ic_wc3 _ (List.mem_of_getElem? (i := 36) rfl)
theorem qw_157 : (.code yX5_comesOfSpec cX5_comesOfSpec 4 (some (.object "MailDen$Proc")) : Cond) ∈ WM := ic_wc3 _ (List.mem_of_getElem? (i := 37) rfl)
theorem qw_158 : (.fieldLink RX5 128 "MailDen$Proc" "until" "I" : Cond) ∈ WM := ic_wc3 _ (List.mem_of_getElem? (i := 38) rfl)
theorem qw_159 : (.code yX5_ready cX5_ready 2 none : Cond) ∈ WM := ic_wc3 _ (List.mem_of_getElem? (i := 39) rfl)
theorem qw_160 : (.fieldLink RX5 201 "MailDen$Proc" "reason" "I" : Cond) ∈ WM := ic_wc4 _ (List.mem_of_getElem? (i := 0) rfl)
theorem qw_161 : (.fieldLink RX5 178 "MailDen$Proc" "box" "LMailDen$Box;" : Cond) ∈ WM := ic_wc4 _ (List.mem_of_getElem? (i := 1) rfl)
theorem qw_162 : (.fieldLink RX5 204 "MailDen$Box" "count" "I" : Cond) ∈ WM := ic_wc4 _ (List.mem_of_getElem? (i := 2) rfl)
theorem qw_163 : (.fieldLink RX5 146 "MailDen$Proc" "number" "I" : Cond) ∈ WM := ic_wc4 _ (List.mem_of_getElem? (i := 3) rfl)
theorem qw_164 : (.code yX5_end cX5_end 4 none : Cond) ∈ WM := ic_wc4 _ (List.mem_of_getElem? (i := 4) rfl)
theorem qw_165 : (.fieldLink RX5 139 "MailDen$Specs" "ofSpecs" "[Z" : Cond) ∈ WM := ic_wc4 _ (List.mem_of_getElem? (i := 5) rfl)
theorem qw_166 : (.fieldLink RX5 143 "MailDen$Specs" "numbers" "[I" : Cond) ∈ WM := ic_wc4 _ (List.mem_of_getElem? (i := 6) rfl)
theorem qw_167 : (.fieldLink RX5 160 "MailDen$Proc" "children" "[I" : Cond) ∈ WM := ic_wc4 _ (List.mem_of_getElem? (i := 7) rfl)
theorem qw_168 : (.methodLink RX5 131 yX3_placeAt : Cond) ∈ WM := ic_wc4 _ (List.mem_of_getElem? (i := 8) rfl)
theorem qw_169 : (.instanceMethod yX3_placeAt : Cond) ∈ WM := ic_wc4 _ (List.mem_of_getElem? (i := 9) rfl)
theorem qw_170 : (.selects RX3 yX3_placeAt yX3_placeAt : Cond) ∈ WM := ic_wc4 _ (List.mem_of_getElem? (i := 10) rfl)
theorem qw_171 : (.methodLink RX5 136 yX2_isEmptyPlace : Cond) ∈ WM := ic_wc4 _ (List.mem_of_getElem? (i := 11) rfl)
theorem qw_172 : (.instanceMethod yX2_isEmptyPlace : Cond) ∈ WM := ic_wc4 _ (List.mem_of_getElem? (i := 12) rfl)
theorem qw_173 : (.selects RX2 yX2_isEmptyPlace yX2_isEmptyPlace : Cond) ∈ WM := ic_wc4 _ (List.mem_of_getElem? (i := 13) rfl)
theorem qw_174 : (.methodLink RX5 149 yX5_comesOfSpec : Cond) ∈ WM := ic_wc4 _ (List.mem_of_getElem? (i := 14) rfl)
theorem qw_175 : (.instanceMethod yX5_comesOfSpec : Cond) ∈ WM := ic_wc4 _ (List.mem_of_getElem? (i := 15) rfl)
theorem qw_176 : (.selects RX5 yX5_comesOfSpec yX5_comesOfSpec : Cond) ∈ WM := ic_wc4 _ (List.mem_of_getElem? (i := 16) rfl)
theorem qw_177 : (.initialized RX5 : Cond) ∈ WM := ic_wc4 _ (List.mem_of_getElem? (i := 17) rfl)
theorem qw_178 : (.methodLink RX5 153 yX5_comesOfModule : Cond) ∈ WM := ic_wc4 _ (List.mem_of_getElem? (i := 18) rfl)
theorem qw_179 : (.instanceMethod yX5_comesOfModule : Cond) ∈ WM := ic_wc4 _ (List.mem_of_getElem? (i := 19) rfl)
theorem qw_180 : (.selects RX5 yX5_comesOfModule yX5_comesOfModule : Cond) ∈ WM := ic_wc4 _ (List.mem_of_getElem? (i := 20) rfl)
theorem qw_181 : (.methodLink RX5 156 yX5_end : Cond) ∈ WM := ic_wc4 _ (List.mem_of_getElem? (i := 21) rfl)
theorem qw_182 : (.instanceMethod yX5_end : Cond) ∈ WM := ic_wc4 _ (List.mem_of_getElem? (i := 22) rfl)
theorem qw_183 : (.selects RX5 yX5_end yX5_end : Cond) ∈ WM := ic_wc4 _ (List.mem_of_getElem? (i := 23) rfl)
theorem qw_184 : (.methodLink RX5 163 yX5_startPlaces : Cond) ∈ WM := ic_wc4 _ (List.mem_of_getElem? (i := 24) rfl)
theorem qw_185 : (.static yX5_startPlaces : Cond) ∈ WM := ic_wc4 _ (List.mem_of_getElem? (i := 25) rfl)
theorem qw_186 : (.code yX5_startPlaces cX5_startPlaces 10 none : Cond) ∈ WM := ic_wc4 _ (List.mem_of_getElem? (i := 26) rfl)
theorem qw_187 : (.methodLink RX5 205 yX5_procAt : Cond) ∈ WM := ic_wc4 _ (List.mem_of_getElem? (i := 27) rfl)
theorem qw_188 : (.instanceMethod yX5_procAt : Cond) ∈ WM := ic_wc4 _ (List.mem_of_getElem? (i := 28) rfl)
theorem qw_189 : (.selects RX5 yX5_procAt yX5_procAt : Cond) ∈ WM := ic_wc4 _ (List.mem_of_getElem? (i := 29) rfl)
theorem qw_190 : (.code yX5_endChildren cX5_endChildren 6 none : Cond) ∈ WM := ic_wc4 _ (List.mem_of_getElem? (i := 30) rfl)
theorem qw_191 : (.methodLink RX5 170 yX5_living : Cond) ∈ WM := ic_wc4 _ (List.mem_of_getElem? (i := 31) rfl)
theorem qw_192 : (.instanceMethod yX5_living : Cond) ∈ WM := ic_wc4 _ (List.mem_of_getElem? (i := 32) rfl)
theorem qw_193 : (.selects RX5 yX5_living yX5_living : Cond) ∈ WM := ic_wc4 _ (List.mem_of_getElem? (i := 33) rfl)
theorem qw_194 : (.methodLink RX5 174 yX2_isSupervisor : Cond) ∈ WM := ic_wc4 _ (List.mem_of_getElem? (i := 34) rfl)
theorem qw_195 : (.instanceMethod yX2_isSupervisor : Cond) ∈ WM := ic_wc4 _ (List.mem_of_getElem? (i := 35) rfl)
theorem qw_196 : (.selects RX2 yX2_isSupervisor yX2_isSupervisor : Cond) ∈ WM := ic_wc4 _ (List.mem_of_getElem? (i := 36) rfl)
theorem qw_197 : (.methodLink RX5 182 yX0_put : Cond) ∈ WM := ic_wc4 _ (List.mem_of_getElem? (i := 37) rfl)
theorem qw_198 : (.instanceMethod yX0_put : Cond) ∈ WM := ic_wc4 _ (List.mem_of_getElem? (i := 38) rfl)
theorem qw_199 : (.selects RX0 yX0_put yX0_put : Cond) ∈ WM := ic_wc4 _ (List.mem_of_getElem? (i := 39) rfl)
theorem qw_200 : (.methodLink RX5 188 yX2_waitsForMail : Cond) ∈ WM := ic_wc5 _ (List.mem_of_getElem? (i := 0) rfl)
theorem qw_201 : (.instanceMethod yX2_waitsForMail : Cond) ∈ WM := ic_wc5 _ (List.mem_of_getElem? (i := 1) rfl)
theorem qw_202 : (.selects RX2 yX2_waitsForMail yX2_waitsForMail : Cond) ∈ WM := ic_wc5 _ (List.mem_of_getElem? (i := 2) rfl)
theorem qw_203 : (.methodLink RX5 191 yX5_ready : Cond) ∈ WM := ic_wc5 _ (List.mem_of_getElem? (i := 3) rfl)
theorem qw_204 : (.instanceMethod yX5_ready : Cond) ∈ WM := ic_wc5 _ (List.mem_of_getElem? (i := 4) rfl)
theorem qw_205 : (.selects RX5 yX5_ready yX5_ready : Cond) ∈ WM := ic_wc5 _ (List.mem_of_getElem? (i := 5) rfl)
theorem qw_206 : (.code yX5_putMail cX5_putMail 5 (some .boolean) : Cond) ∈ WM := ic_wc5 _ (List.mem_of_getElem? (i := 6) rfl)
theorem qw_207 : (.fieldLink RX5 229 "MailDen$Proc" "watches" "LMailDen$Watches;" : Cond) ∈ WM := ic_wc5 _ (List.mem_of_getElem? (i := 7) rfl)
theorem qw_208 : (.fieldLink RX5 233 "MailDen$Watches" "count" "I" : Cond) ∈ WM := ic_wc5 _ (List.mem_of_getElem? (i := 8) rfl)
theorem qw_209 : (.fieldLink RX5 236 "MailDen$Watches" "watchers" "[I" : Cond) ∈ WM := ic_wc5 _ (List.mem_of_getElem? (i := 9) rfl)
theorem qw_210 : (.fieldLink RX5 239 "MailDen$Watches" "times" "[I" : Cond) ∈ WM := ic_wc5 _ (List.mem_of_getElem? (i := 10) rfl)
theorem qw_211 : (.methodLink RX5 198 yX5_putMail : Cond) ∈ WM := ic_wc5 _ (List.mem_of_getElem? (i := 11) rfl)
theorem qw_212 : (.instanceMethod yX5_putMail : Cond) ∈ WM := ic_wc5 _ (List.mem_of_getElem? (i := 12) rfl)
theorem qw_213 : (.selects RX5 yX5_putMail yX5_putMail : Cond) ∈ WM := ic_wc5 _ (List.mem_of_getElem? (i := 13) rfl)
theorem qw_214 : (.code yX5_tellWatchers cX5_tellWatchers 6 none : Cond) ∈ WM := ic_wc5 _ (List.mem_of_getElem? (i := 14) rfl)
theorem qw_215 : (.fieldLink RX5 242 "MailDen$Proc" "links" "I" : Cond) ∈ WM := ic_wc5 _ (List.mem_of_getElem? (i := 15) rfl)
theorem qw_216 : (.code yX5_unlink cX5_unlink 3 none : Cond) ∈ WM := ic_wc5 _ (List.mem_of_getElem? (i := 16) rfl)
theorem qw_217 : (.fieldLink RX5 194 "MailDen$Proc" "traps" "Z" : Cond) ∈ WM := ic_wc5 _ (List.mem_of_getElem? (i := 17) rfl)
theorem qw_218 : (.code yX5_signalTo cX5_signalTo 5 none : Cond) ∈ WM := ic_wc5 _ (List.mem_of_getElem? (i := 18) rfl)
theorem qw_219 : (.code yX5_noteRestart cX5_noteRestart 2 none : Cond) ∈ WM := ic_wc5 _ (List.mem_of_getElem? (i := 19) rfl)
theorem qw_220 : (.code yX5_restartsAbove cX5_restartsAbove 5 (some .int) : Cond) ∈ WM := ic_wc5 _ (List.mem_of_getElem? (i := 20) rfl)
theorem qw_221 : (.fieldLink RX5 275 "MailDen$Specs" "withins" "[I" : Cond) ∈ WM := ic_wc5 _ (List.mem_of_getElem? (i := 21) rfl)
theorem qw_222 : (.methodLink RX5 249 yX3_hasSpec : Cond) ∈ WM := ic_wc5 _ (List.mem_of_getElem? (i := 22) rfl)
theorem qw_223 : (.methodLink RX5 271 yX5_restartsAbove : Cond) ∈ WM := ic_wc5 _ (List.mem_of_getElem? (i := 23) rfl)
theorem qw_224 : (.instanceMethod yX5_restartsAbove : Cond) ∈ WM := ic_wc5 _ (List.mem_of_getElem? (i := 24) rfl)
theorem qw_225 : (.selects RX5 yX5_restartsAbove yX5_restartsAbove : Cond) ∈ WM := ic_wc5 _ (List.mem_of_getElem? (i := 25) rfl)
theorem qw_226 : (.code yX5_restartsLately cX5_restartsLately 2 (some .int) : Cond) ∈ WM := ic_wc5 _ (List.mem_of_getElem? (i := 26) rfl)
theorem qw_227 : (.fieldLink RX5 252 "MailDen$Specs" "modes" "[I" : Cond) ∈ WM := ic_wc5 _ (List.mem_of_getElem? (i := 27) rfl)
theorem qw_228 : (.fieldLink RX5 255 "MailDen$Proc" "emptyPlaces" "I" : Cond) ∈ WM := ic_wc5 _ (List.mem_of_getElem? (i := 28) rfl)
theorem qw_229 : (.fieldLink RX5 265 "MailDen$Specs" "mosts" "[I" : Cond) ∈ WM := ic_wc5 _ (List.mem_of_getElem? (i := 29) rfl)
theorem qw_230 : (.fieldLink RX5 268 "MailDen$Specs" "strategies" "[I" : Cond) ∈ WM := ic_wc5 _ (List.mem_of_getElem? (i := 30) rfl)
theorem qw_231 : (.methodLink RX5 245 yX2_placeOf : Cond) ∈ WM := ic_wc5 _ (List.mem_of_getElem? (i := 31) rfl)
theorem qw_232 : (.instanceMethod yX2_placeOf : Cond) ∈ WM := ic_wc5 _ (List.mem_of_getElem? (i := 32) rfl)
theorem qw_233 : (.selects RX2 yX2_placeOf yX2_placeOf : Cond) ∈ WM := ic_wc5 _ (List.mem_of_getElem? (i := 33) rfl)
theorem qw_234 : (.methodLink RX5 258 yX5_noteRestart : Cond) ∈ WM := ic_wc5 _ (List.mem_of_getElem? (i := 34) rfl)
theorem qw_235 : (.instanceMethod yX5_noteRestart : Cond) ∈ WM := ic_wc5 _ (List.mem_of_getElem? (i := 35) rfl)
theorem qw_236 : (.selects RX5 yX5_noteRestart yX5_noteRestart : Cond) ∈ WM := ic_wc5 _ (List.mem_of_getElem? (i := 36) rfl)
theorem qw_237 : (.methodLink RX5 261 yX5_restartsLately : Cond) ∈ WM := ic_wc5 _ (List.mem_of_getElem? (i := 37) rfl)
theorem qw_238 : (.instanceMethod yX5_restartsLately : Cond) ∈ WM := ic_wc5 _ (List.mem_of_getElem? (i := 38) rfl)
theorem qw_239 : (.selects RX5 yX5_restartsLately yX5_restartsLately : Cond) ∈ WM := ic_wc5 _ (List.mem_of_getElem? (i := 39) rfl)
theorem qw_240 : (.methodLink RX5 208 yX5_endChildren : Cond) ∈ WM := ic_wc6 _ (List.mem_of_getElem? (i := 0) rfl)
theorem qw_241 : (.instanceMethod yX5_endChildren : Cond) ∈ WM := ic_wc6 _ (List.mem_of_getElem? (i := 1) rfl)
theorem qw_242 : (.selects RX5 yX5_endChildren yX5_endChildren : Cond) ∈ WM := ic_wc6 _ (List.mem_of_getElem? (i := 2) rfl)
theorem qw_243 : (.code yX5_superviseEnd cX5_superviseEnd 8 none : Cond) ∈ WM := ic_wc6 _ (List.mem_of_getElem? (i := 3) rfl)
theorem qw_244 : (.methodLink RX5 212 yX5_tellWatchers : Cond) ∈ WM := ic_wc6 _ (List.mem_of_getElem? (i := 4) rfl)
theorem qw_245 : (.instanceMethod yX5_tellWatchers : Cond) ∈ WM := ic_wc6 _ (List.mem_of_getElem? (i := 5) rfl)
theorem qw_246 : (.selects RX5 yX5_tellWatchers yX5_tellWatchers : Cond) ∈ WM := ic_wc6 _ (List.mem_of_getElem? (i := 6) rfl)
theorem qw_247 : (.methodLink RX5 215 yX2_isLinkedWith : Cond) ∈ WM := ic_wc6 _ (List.mem_of_getElem? (i := 7) rfl)
theorem qw_248 : (.instanceMethod yX2_isLinkedWith : Cond) ∈ WM := ic_wc6 _ (List.mem_of_getElem? (i := 8) rfl)
theorem qw_249 : (.selects RX2 yX2_isLinkedWith yX2_isLinkedWith : Cond) ∈ WM := ic_wc6 _ (List.mem_of_getElem? (i := 9) rfl)
theorem qw_250 : (.methodLink RX5 218 yX5_unlink : Cond) ∈ WM := ic_wc6 _ (List.mem_of_getElem? (i := 10) rfl)
theorem qw_251 : (.instanceMethod yX5_unlink : Cond) ∈ WM := ic_wc6 _ (List.mem_of_getElem? (i := 11) rfl)
theorem qw_252 : (.selects RX5 yX5_unlink yX5_unlink : Cond) ∈ WM := ic_wc6 _ (List.mem_of_getElem? (i := 12) rfl)
theorem qw_253 : (.methodLink RX5 222 yX5_signalTo : Cond) ∈ WM := ic_wc6 _ (List.mem_of_getElem? (i := 13) rfl)
theorem qw_254 : (.instanceMethod yX5_signalTo : Cond) ∈ WM := ic_wc6 _ (List.mem_of_getElem? (i := 14) rfl)
theorem qw_255 : (.selects RX5 yX5_signalTo yX5_signalTo : Cond) ∈ WM := ic_wc6 _ (List.mem_of_getElem? (i := 15) rfl)
theorem qw_256 : (.methodLink RX5 226 yX5_superviseEnd : Cond) ∈ WM := ic_wc6 _ (List.mem_of_getElem? (i := 16) rfl)
theorem qw_257 : (.instanceMethod yX5_superviseEnd : Cond) ∈ WM := ic_wc6 _ (List.mem_of_getElem? (i := 17) rfl)
theorem qw_258 : (.selects RX5 yX5_superviseEnd yX5_superviseEnd : Cond) ∈ WM := ic_wc6 _ (List.mem_of_getElem? (i := 18) rfl)
theorem qw_259 : (.code yX5_settle cX5_settle 3 none : Cond) ∈ WM := ic_wc6 _ (List.mem_of_getElem? (i := 19) rfl)
theorem qw_260 : (.methodLink RX5 167 yX5_settle : Cond) ∈ WM := ic_wc6 _ (List.mem_of_getElem? (i := 20) rfl)
theorem qw_261 : (.instanceMethod yX5_settle : Cond) ∈ WM := ic_wc6 _ (List.mem_of_getElem? (i := 21) rfl)
theorem qw_262 : (.selects RX5 yX5_settle yX5_settle : Cond) ∈ WM := ic_wc6 _ (List.mem_of_getElem? (i := 22) rfl)
theorem qw_263 : (.code yX5_comesFromOutside cX5_comesFromOutside 3 (some .int) : Cond) ∈ WM := ic_wc6 _ (List.mem_of_getElem? (i := 23) rfl)
theorem qw_264 : (.code yX5_link cX5_link 3 none : Cond) ∈ WM := ic_wc6 _ (List.mem_of_getElem? (i := 24) rfl)
theorem qw_265 : (.code yX5_restartsEver cX5_restartsEver 2 (some .int) : Cond) ∈ WM := ic_wc6 _ (List.mem_of_getElem? (i := 25) rfl)
theorem qw_266 : (.code yX5_endedBehind cX5_endedBehind 4 (some .int) : Cond) ∈ WM := ic_wc6 _ (List.mem_of_getElem? (i := 26) rfl)
theorem qw_267 : (.code yX5_loadModule cX5_loadModule 5 none : Cond) ∈ WM := ic_wc6 _ (List.mem_of_getElem? (i := 27) rfl)
theorem qw_268 : (.code yX5_passTime cX5_passTime 3 (some .int) : Cond) ∈ WM := ic_wc6 _ (List.mem_of_getElem? (i := 28) rfl)
theorem qw_269 : (.code yX5_firstReady cX5_firstReady 4 (some (.object "MailDen$Proc")) : Cond) ∈ WM := ic_wc6 _ (List.mem_of_getElem? (i := 29) rfl)
theorem qw_270 : (.code yX5_goesOut cX5_goesOut 1 (some .boolean) : Cond) ∈ WM := ic_wc6 _ (List.mem_of_getElem? (i := 30) rfl)
theorem qw_271 : (.fieldLink RX5 307 "MailDen$Proc" "there" "I" : Cond) ∈ WM := ic_wc6 _ (List.mem_of_getElem? (i := 31) rfl)
theorem qw_272 : (.methodLink RX5 333 yX5_link : Cond) ∈ WM := ic_wc6 _ (List.mem_of_getElem? (i := 32) rfl)
theorem qw_273 : (.instanceMethod yX5_link : Cond) ∈ WM := ic_wc6 _ (List.mem_of_getElem? (i := 33) rfl)
theorem qw_274 : (.selects RX5 yX5_link yX5_link : Cond) ∈ WM := ic_wc6 _ (List.mem_of_getElem? (i := 34) rfl)
theorem qw_275 : (.code yX5_spawn cX5_spawn 5 none : Cond) ∈ WM := ic_wc6 _ (List.mem_of_getElem? (i := 35) rfl)
theorem qw_276 : (.methodLink RX5 345 yX5_holderOf : Cond) ∈ WM := ic_wc6 _ (List.mem_of_getElem? (i := 36) rfl)
theorem qw_277 : (.instanceMethod yX5_holderOf : Cond) ∈ WM := ic_wc6 _ (List.mem_of_getElem? (i := 37) rfl)
theorem qw_278 : (.selects RX5 yX5_holderOf yX5_holderOf : Cond) ∈ WM := ic_wc6 _ (List.mem_of_getElem? (i := 38) rfl)
theorem qw_279 : (.code yX5_takeName cX5_takeName 4 none : Cond) ∈ WM := ic_wc6 _ (List.mem_of_getElem? (i := 39) rfl)
theorem qw_280 : (.code yX5_callName cX5_callName 5 none : Cond) ∈ WM := ic_wc7 _ (List.mem_of_getElem? (i := 0) rfl)
theorem qw_281 : (.fieldLink RX5 301 "MailDen$Codes" "as" "[I" : Cond) ∈ WM := ic_wc7 _ (List.mem_of_getElem? (i := 1) rfl)
theorem qw_282 : (.fieldLink RX5 304 "MailDen$Codes" "bs" "[I" : Cond) ∈ WM := ic_wc7 _ (List.mem_of_getElem? (i := 2) rfl)
theorem qw_283 : (.fieldLink RX5 289 "MailDen$Codes" "kinds" "[I" : Cond) ∈ WM := ic_wc7 _ (List.mem_of_getElem? (i := 3) rfl)
theorem qw_284 : (.methodLink RX5 329 yX5_spawn : Cond) ∈ WM := ic_wc7 _ (List.mem_of_getElem? (i := 4) rfl)
theorem qw_285 : (.instanceMethod yX5_spawn : Cond) ∈ WM := ic_wc7 _ (List.mem_of_getElem? (i := 5) rfl)
theorem qw_286 : (.selects RX5 yX5_spawn yX5_spawn : Cond) ∈ WM := ic_wc7 _ (List.mem_of_getElem? (i := 6) rfl)
theorem qw_287 : (.methodLink RX5 336 yX4_add : Cond) ∈ WM := ic_wc7 _ (List.mem_of_getElem? (i := 7) rfl)
theorem qw_288 : (.instanceMethod yX4_add : Cond) ∈ WM := ic_wc7 _ (List.mem_of_getElem? (i := 8) rfl)
theorem qw_289 : (.selects RX4 yX4_add yX4_add : Cond) ∈ WM := ic_wc7 _ (List.mem_of_getElem? (i := 9) rfl)
theorem qw_290 : (.methodLink RX5 339 yX5_takeName : Cond) ∈ WM := ic_wc7 _ (List.mem_of_getElem? (i := 10) rfl)
theorem qw_291 : (.instanceMethod yX5_takeName : Cond) ∈ WM := ic_wc7 _ (List.mem_of_getElem? (i := 11) rfl)
theorem qw_292 : (.selects RX5 yX5_takeName yX5_takeName : Cond) ∈ WM := ic_wc7 _ (List.mem_of_getElem? (i := 12) rfl)
theorem qw_293 : (.methodLink RX5 313 yX2_localAt : Cond) ∈ WM := ic_wc7 _ (List.mem_of_getElem? (i := 13) rfl)
theorem qw_294 : (.instanceMethod yX2_localAt : Cond) ∈ WM := ic_wc7 _ (List.mem_of_getElem? (i := 14) rfl)
theorem qw_295 : (.selects RX2 yX2_localAt yX2_localAt : Cond) ∈ WM := ic_wc7 _ (List.mem_of_getElem? (i := 15) rfl)
theorem qw_296 : (.methodLink RX5 342 yX5_callName : Cond) ∈ WM := ic_wc7 _ (List.mem_of_getElem? (i := 16) rfl)
theorem qw_297 : (.instanceMethod yX5_callName : Cond) ∈ WM := ic_wc7 _ (List.mem_of_getElem? (i := 17) rfl)
theorem qw_298 : (.selects RX5 yX5_callName yX5_callName : Cond) ∈ WM := ic_wc7 _ (List.mem_of_getElem? (i := 18) rfl)
theorem qw_299 : (.code yX5_doLineOut cX5_doLineOut 6 (some .int) : Cond) ∈ WM := ic_wc7 _ (List.mem_of_getElem? (i := 19) rfl)
theorem qw_300 : (.methodLink RX5 310 yX2_hold : Cond) ∈ WM := ic_wc7 _ (List.mem_of_getElem? (i := 20) rfl)
theorem qw_301 : (.methodLink RX5 316 yX2_putLocal : Cond) ∈ WM := ic_wc7 _ (List.mem_of_getElem? (i := 21) rfl)
theorem qw_302 : (.instanceMethod yX2_putLocal : Cond) ∈ WM := ic_wc7 _ (List.mem_of_getElem? (i := 22) rfl)
theorem qw_303 : (.selects RX2 yX2_putLocal yX2_putLocal : Cond) ∈ WM := ic_wc7 _ (List.mem_of_getElem? (i := 23) rfl)
theorem qw_304 : (.methodLink RX5 320 yX2_takeMail : Cond) ∈ WM := ic_wc7 _ (List.mem_of_getElem? (i := 24) rfl)
theorem qw_305 : (.methodLink RX5 323 yX2_waitFor : Cond) ∈ WM := ic_wc7 _ (List.mem_of_getElem? (i := 25) rfl)
theorem qw_306 : (.instanceMethod yX2_waitFor : Cond) ∈ WM := ic_wc7 _ (List.mem_of_getElem? (i := 26) rfl)
theorem qw_307 : (.selects RX2 yX2_waitFor yX2_waitFor : Cond) ∈ WM := ic_wc7 _ (List.mem_of_getElem? (i := 27) rfl)
theorem qw_308 : (.methodLink RX5 326 yX5_currentOf : Cond) ∈ WM := ic_wc7 _ (List.mem_of_getElem? (i := 28) rfl)
theorem qw_309 : (.instanceMethod yX5_currentOf : Cond) ∈ WM := ic_wc7 _ (List.mem_of_getElem? (i := 29) rfl)
theorem qw_310 : (.selects RX5 yX5_currentOf yX5_currentOf : Cond) ∈ WM := ic_wc7 _ (List.mem_of_getElem? (i := 30) rfl)
theorem qw_311 : (.code yX5_doLine cX5_doLine 6 (some .int) : Cond) ∈ WM := ic_wc7 _ (List.mem_of_getElem? (i := 31) rfl)
theorem qw_312 : (.methodLink RX5 278 yX5_firstReady : Cond) ∈ WM := ic_wc7 _ (List.mem_of_getElem? (i := 32) rfl)
theorem qw_313 : (.instanceMethod yX5_firstReady : Cond) ∈ WM := ic_wc7 _ (List.mem_of_getElem? (i := 33) rfl)
theorem qw_314 : (.selects RX5 yX5_firstReady yX5_firstReady : Cond) ∈ WM := ic_wc7 _ (List.mem_of_getElem? (i := 34) rfl)
theorem qw_315 : (.methodLink RX5 282 yX2_resume : Cond) ∈ WM := ic_wc7 _ (List.mem_of_getElem? (i := 35) rfl)
theorem qw_316 : (.instanceMethod yX2_resume : Cond) ∈ WM := ic_wc7 _ (List.mem_of_getElem? (i := 36) rfl)
theorem qw_317 : (.selects RX2 yX2_resume yX2_resume : Cond) ∈ WM := ic_wc7 _ (List.mem_of_getElem? (i := 37) rfl)
theorem qw_318 : (.methodLink RX5 285 yX1_lineAt : Cond) ∈ WM := ic_wc7 _ (List.mem_of_getElem? (i := 38) rfl)
theorem qw_319 : (.instanceMethod yX1_lineAt : Cond) ∈ WM := ic_wc7 _ (List.mem_of_getElem? (i := 39) rfl)
theorem qw_320 : (.selects RX1 yX1_lineAt yX1_lineAt : Cond) ∈ WM := ic_wc8 _ (List.mem_of_getElem? (i := 0) rfl)
theorem qw_321 : (.methodLink RX5 292 yX5_goesOut : Cond) ∈ WM := ic_wc8 _ (List.mem_of_getElem? (i := 1) rfl)
theorem qw_322 : (.static yX5_goesOut : Cond) ∈ WM := ic_wc8 _ (List.mem_of_getElem? (i := 2) rfl)
theorem qw_323 : (.methodLink RX5 295 yX5_doLineOut : Cond) ∈ WM := ic_wc8 _ (List.mem_of_getElem? (i := 3) rfl)
theorem qw_324 : (.instanceMethod yX5_doLineOut : Cond) ∈ WM := ic_wc8 _ (List.mem_of_getElem? (i := 4) rfl)
theorem qw_325 : (.selects RX5 yX5_doLineOut yX5_doLineOut : Cond) ∈ WM := ic_wc8 _ (List.mem_of_getElem? (i := 5) rfl)
theorem qw_326 : (.methodLink RX5 298 yX5_doLine : Cond) ∈ WM := ic_wc8 _ (List.mem_of_getElem? (i := 6) rfl)
theorem qw_327 : (.instanceMethod yX5_doLine : Cond) ∈ WM := ic_wc8 _ (List.mem_of_getElem? (i := 7) rfl)
theorem qw_328 : (.selects RX5 yX5_doLine yX5_doLine : Cond) ∈ WM := ic_wc8 _ (List.mem_of_getElem? (i := 8) rfl)
theorem qw_329 : (.code yX5_doTurn cX5_doTurn 5 (some .boolean) : Cond) ∈ WM := ic_wc8 _ (List.mem_of_getElem? (i := 9) rfl)
theorem qw_330 : (.code yX5_placeInRow cX5_placeInRow 4 (some .int) : Cond) ∈ WM := ic_wc8 _ (List.mem_of_getElem? (i := 10) rfl)
theorem qw_331 : (.code yX5_watchesOf cX5_watchesOf 4 (some .int) : Cond) ∈ WM := ic_wc8 _ (List.mem_of_getElem? (i := 11) rfl)
theorem qw_332 : (.code yX5_runners cX5_runners 7 (some .int) : Cond) ∈ WM := ic_wc8 _ (List.mem_of_getElem? (i := 12) rfl)
theorem qw_333 : (.code yX5_madeOf cX5_madeOf 4 (some .int) : Cond) ∈ WM := ic_wc8 _ (List.mem_of_getElem? (i := 13) rfl)
theorem qw_334 : (.code yX5_isCurrentUsed cX5_isCurrentUsed 3 (some .boolean) : Cond) ∈ WM := ic_wc8 _ (List.mem_of_getElem? (i := 14) rfl)
theorem qw_335 : (.code yX5_hadSupervisor cX5_hadSupervisor 3 (some .boolean) : Cond) ∈ WM := ic_wc8 _ (List.mem_of_getElem? (i := 15) rfl)
theorem qw_336 : (.code yX5_supervisors cX5_supervisors 3 (some .int) : Cond) ∈ WM := ic_wc8 _ (List.mem_of_getElem? (i := 16) rfl)
theorem qw_337 : (.code yX5_withStatus cX5_withStatus 4 (some .int) : Cond) ∈ WM := ic_wc8 _ (List.mem_of_getElem? (i := 17) rfl)
theorem qw_338 : (.methodLink RX5 348 yJ6_bitCount_0f7a4 : Cond) ∈ WM := ic_wc8 _ (List.mem_of_getElem? (i := 18) rfl)
theorem qw_339 : (.static yJ6_bitCount_0f7a4 : Cond) ∈ WM := ic_wc8 _ (List.mem_of_getElem? (i := 19) rfl)
theorem qw_340 : (.initialized RJ6 : Cond) ∈ WM := ic_wc8 _ (List.mem_of_getElem? (i := 20) rfl)
theorem qw_341 : (.code yJ6_bitCount_0f7a4 cJ6_bitCount_0f7a4 1 (some .int) : Cond) ∈ WM := ic_wc8 _ (List.mem_of_getElem? (i := 21) rfl)
theorem qw_342 : (.constant RJ6 265 (1431655765) : Cond) ∈ WM := ic_wc8 _ (List.mem_of_getElem? (i := 22) rfl)
theorem qw_343 : (.constant RJ6 266 (858993459) : Cond) ∈ WM := ic_wc8 _ (List.mem_of_getElem? (i := 23) rfl)
theorem qw_344 : (.constant RJ6 267 (252645135) : Cond) ∈ WM := ic_wc8 _ (List.mem_of_getElem? (i := 24) rfl)
theorem qw_345 : (.code yX5_linkCount cX5_linkCount 3 (some .int) : Cond) ∈ WM := ic_wc8 _ (List.mem_of_getElem? (i := 25) rfl)
theorem qw_346 : (.code yX5_mailCount cX5_mailCount 3 (some .int) : Cond) ∈ WM := ic_wc8 _ (List.mem_of_getElem? (i := 26) rfl)
theorem qw_347 : (.fieldLink RX6 12 "MailDen" "codes" "LMailDen$Codes;" : Cond) ∈ WM := ic_wc8 _ (List.mem_of_getElem? (i := 27) rfl)
theorem qw_348 : (.fieldLink RX6 19 "MailDen" "specs" "LMailDen$Specs;" : Cond) ∈ WM := ic_wc8 _ (List.mem_of_getElem? (i := 28) rfl)
theorem qw_349 : (.fieldLink RX6 28 "MailDen" "real" "LMailDen$World;" : Cond) ∈ WM := ic_wc8 _ (List.mem_of_getElem? (i := 29) rfl)
theorem qw_350 : (.fieldLink RX6 32 "MailDen" "trial" "LMailDen$World;" : Cond) ∈ WM := ic_wc8 _ (List.mem_of_getElem? (i := 30) rfl)
theorem qw_351 : (.code yX6_checkState cX6_checkState 1 none : Cond) ∈ WM := ic_wc8 _ (List.mem_of_getElem? (i := 31) rfl)
theorem qw_352 : (.fieldLink RX6 35 "MailDen$Codes" "modules" "I" : Cond) ∈ WM := ic_wc8 _ (List.mem_of_getElem? (i := 32) rfl)
theorem qw_353 : (.methodLink RX6 39 yX6_checkState : Cond) ∈ WM := ic_wc8 _ (List.mem_of_getElem? (i := 33) rfl)
theorem qw_354 : (.static yX6_checkState : Cond) ∈ WM := ic_wc8 _ (List.mem_of_getElem? (i := 34) rfl)
theorem qw_355 : (.code yX6_module cX6_module 2 (some .int) : Cond) ∈ WM := ic_wc8 _ (List.mem_of_getElem? (i := 35) rfl)
theorem qw_356 : (.code yX6_checkIndex cX6_checkIndex 1 none : Cond) ∈ WM := ic_wc8 _ (List.mem_of_getElem? (i := 36) rfl)
theorem qw_357 : (.code yX6_checkArgument cX6_checkArgument 1 none : Cond) ∈ WM := ic_wc8 _ (List.mem_of_getElem? (i := 37) rfl)
theorem qw_358 : (.methodLink RX6 43 yX1_hasModule : Cond) ∈ WM := ic_wc8 _ (List.mem_of_getElem? (i := 38) rfl)
theorem qw_359 : (.methodLink RX6 47 yX6_checkIndex : Cond) ∈ WM := ic_wc8 _ (List.mem_of_getElem? (i := 39) rfl)
theorem qw_360 : (.static yX6_checkIndex : Cond) ∈ WM := ic_wc9 _ (List.mem_of_getElem? (i := 0) rfl)
theorem qw_361 : (.methodLink RX6 50 yX5_currentOf : Cond) ∈ WM := ic_wc9 _ (List.mem_of_getElem? (i := 1) rfl)
theorem qw_362 : (.methodLink RX6 54 yX1_linesOf : Cond) ∈ WM := ic_wc9 _ (List.mem_of_getElem? (i := 2) rfl)
theorem qw_363 : (.instanceMethod yX1_linesOf : Cond) ∈ WM := ic_wc9 _ (List.mem_of_getElem? (i := 3) rfl)
theorem qw_364 : (.selects RX1 yX1_linesOf yX1_linesOf : Cond) ∈ WM := ic_wc9 _ (List.mem_of_getElem? (i := 4) rfl)
theorem qw_365 : (.methodLink RX6 58 yX1_isLine : Cond) ∈ WM := ic_wc9 _ (List.mem_of_getElem? (i := 5) rfl)
theorem qw_366 : (.instanceMethod yX1_isLine : Cond) ∈ WM := ic_wc9 _ (List.mem_of_getElem? (i := 6) rfl)
theorem qw_367 : (.selects RX1 yX1_isLine yX1_isLine : Cond) ∈ WM := ic_wc9 _ (List.mem_of_getElem? (i := 7) rfl)
theorem qw_368 : (.methodLink RX6 62 yX6_checkArgument : Cond) ∈ WM := ic_wc9 _ (List.mem_of_getElem? (i := 8) rfl)
theorem qw_369 : (.static yX6_checkArgument : Cond) ∈ WM := ic_wc9 _ (List.mem_of_getElem? (i := 9) rfl)
theorem qw_370 : (.methodLink RX6 65 yX5_isCurrentUsed : Cond) ∈ WM := ic_wc9 _ (List.mem_of_getElem? (i := 10) rfl)
theorem qw_371 : (.instanceMethod yX5_isCurrentUsed : Cond) ∈ WM := ic_wc9 _ (List.mem_of_getElem? (i := 11) rfl)
theorem qw_372 : (.selects RX5 yX5_isCurrentUsed yX5_isCurrentUsed : Cond) ∈ WM := ic_wc9 _ (List.mem_of_getElem? (i := 12) rfl)
theorem qw_373 : (.methodLink RX6 68 yX1_addLine : Cond) ∈ WM := ic_wc9 _ (List.mem_of_getElem? (i := 13) rfl)
theorem qw_374 : (.instanceMethod yX1_addLine : Cond) ∈ WM := ic_wc9 _ (List.mem_of_getElem? (i := 14) rfl)
theorem qw_375 : (.selects RX1 yX1_addLine yX1_addLine : Cond) ∈ WM := ic_wc9 _ (List.mem_of_getElem? (i := 15) rfl)
theorem qw_376 : (.code yX6_line cX6_line 7 (some .int) : Cond) ∈ WM := ic_wc9 _ (List.mem_of_getElem? (i := 16) rfl)
theorem qw_377 : (.fieldLink RX6 72 "MailDen$World" "endedCount" "I" : Cond) ∈ WM := ic_wc9 _ (List.mem_of_getElem? (i := 17) rfl)
theorem qw_378 : (.methodLink RX6 75 yX5_loadModule : Cond) ∈ WM := ic_wc9 _ (List.mem_of_getElem? (i := 18) rfl)
theorem qw_379 : (.instanceMethod yX5_loadModule : Cond) ∈ WM := ic_wc9 _ (List.mem_of_getElem? (i := 19) rfl)
theorem qw_380 : (.selects RX5 yX5_loadModule yX5_loadModule : Cond) ∈ WM := ic_wc9 _ (List.mem_of_getElem? (i := 20) rfl)
theorem qw_381 : (.code yX6_load cX6_load 3 (some .int) : Cond) ∈ WM := ic_wc9 _ (List.mem_of_getElem? (i := 21) rfl)
theorem qw_382 : (.fieldLink RX6 83 "MailDen$Specs" "count" "I" : Cond) ∈ WM := ic_wc9 _ (List.mem_of_getElem? (i := 22) rfl)
theorem qw_383 : (.methodLink RX6 79 yX6_isWithin : Cond) ∈ WM := ic_wc9 _ (List.mem_of_getElem? (i := 23) rfl)
theorem qw_384 : (.methodLink RX6 86 yX3_addSpec : Cond) ∈ WM := ic_wc9 _ (List.mem_of_getElem? (i := 24) rfl)
theorem qw_385 : (.instanceMethod yX3_addSpec : Cond) ∈ WM := ic_wc9 _ (List.mem_of_getElem? (i := 25) rfl)
theorem qw_386 : (.selects RX3 yX3_addSpec yX3_addSpec : Cond) ∈ WM := ic_wc9 _ (List.mem_of_getElem? (i := 26) rfl)
theorem qw_387 : (.code yX6_spec cX6_spec 4 (some .int) : Cond) ∈ WM := ic_wc9 _ (List.mem_of_getElem? (i := 27) rfl)
theorem qw_388 : (.methodLink RX6 90 yX3_hasSpec : Cond) ∈ WM := ic_wc9 _ (List.mem_of_getElem? (i := 28) rfl)
theorem qw_389 : (.methodLink RX6 93 yX5_hadSupervisor : Cond) ∈ WM := ic_wc9 _ (List.mem_of_getElem? (i := 29) rfl)
theorem qw_390 : (.instanceMethod yX5_hadSupervisor : Cond) ∈ WM := ic_wc9 _ (List.mem_of_getElem? (i := 30) rfl)
theorem qw_391 : (.selects RX5 yX5_hadSupervisor yX5_hadSupervisor : Cond) ∈ WM := ic_wc9 _ (List.mem_of_getElem? (i := 31) rfl)
theorem qw_392 : (.methodLink RX6 96 yX3_placesOf : Cond) ∈ WM := ic_wc9 _ (List.mem_of_getElem? (i := 32) rfl)
theorem qw_393 : (.instanceMethod yX3_placesOf : Cond) ∈ WM := ic_wc9 _ (List.mem_of_getElem? (i := 33) rfl)
theorem qw_394 : (.selects RX3 yX3_placesOf yX3_placesOf : Cond) ∈ WM := ic_wc9 _ (List.mem_of_getElem? (i := 34) rfl)
theorem qw_395 : (.methodLink RX6 99 yX3_addPlace : Cond) ∈ WM := ic_wc9 _ (List.mem_of_getElem? (i := 35) rfl)
theorem qw_396 : (.instanceMethod yX3_addPlace : Cond) ∈ WM := ic_wc9 _ (List.mem_of_getElem? (i := 36) rfl)
theorem qw_397 : (.selects RX3 yX3_addPlace yX3_addPlace : Cond) ∈ WM := ic_wc9 _ (List.mem_of_getElem? (i := 37) rfl)
theorem qw_398 : (.code yX6_place cX6_place 5 (some .int) : Cond) ∈ WM := ic_wc9 _ (List.mem_of_getElem? (i := 38) rfl)
theorem qw_399 : (.methodLink RX6 103 yX5_runners : Cond) ∈ WM := ic_wc9 _ (List.mem_of_getElem? (i := 39) rfl)
theorem qw_400 : (.instanceMethod yX5_runners : Cond) ∈ WM := ic_wc10 _ (List.mem_of_getElem? (i := 0) rfl)
theorem qw_401 : (.selects RX5 yX5_runners yX5_runners : Cond) ∈ WM := ic_wc10 _ (List.mem_of_getElem? (i := 1) rfl)
theorem qw_402 : (.methodLink RX6 106 yX5_madeOf : Cond) ∈ WM := ic_wc10 _ (List.mem_of_getElem? (i := 2) rfl)
theorem qw_403 : (.instanceMethod yX5_madeOf : Cond) ∈ WM := ic_wc10 _ (List.mem_of_getElem? (i := 3) rfl)
theorem qw_404 : (.selects RX5 yX5_madeOf yX5_madeOf : Cond) ∈ WM := ic_wc10 _ (List.mem_of_getElem? (i := 4) rfl)
theorem qw_405 : (.code yX6_ofModule cX6_ofModule 4 (some .int) : Cond) ∈ WM := ic_wc10 _ (List.mem_of_getElem? (i := 5) rfl)
theorem qw_406 : (.fieldLink RX6 113 "MailDen$Proc" "number" "I" : Cond) ∈ WM := ic_wc10 _ (List.mem_of_getElem? (i := 6) rfl)
theorem qw_407 : (.methodLink RX6 109 yX5_comesOfModule : Cond) ∈ WM := ic_wc10 _ (List.mem_of_getElem? (i := 7) rfl)
theorem qw_408 : (.code yX6_start cX6_start 3 (some .int) : Cond) ∈ WM := ic_wc10 _ (List.mem_of_getElem? (i := 8) rfl)
theorem qw_409 : (.fieldLink RX6 118 "MailDen$World" "count" "I" : Cond) ∈ WM := ic_wc10 _ (List.mem_of_getElem? (i := 9) rfl)
theorem qw_410 : (.methodLink RX6 119 yX5_comesFromOutside : Cond) ∈ WM := ic_wc10 _ (List.mem_of_getElem? (i := 10) rfl)
theorem qw_411 : (.instanceMethod yX5_comesFromOutside : Cond) ∈ WM := ic_wc10 _ (List.mem_of_getElem? (i := 11) rfl)
theorem qw_412 : (.selects RX5 yX5_comesFromOutside yX5_comesFromOutside : Cond) ∈ WM := ic_wc10 _ (List.mem_of_getElem? (i := 12) rfl)
theorem qw_413 : (.code yX6_supervise cX6_supervise 2 (some .int) : Cond) ∈ WM := ic_wc10 _ (List.mem_of_getElem? (i := 13) rfl)
theorem qw_414 : (.methodLink RX6 122 yX5_doTurn : Cond) ∈ WM := ic_wc10 _ (List.mem_of_getElem? (i := 14) rfl)
theorem qw_415 : (.instanceMethod yX5_doTurn : Cond) ∈ WM := ic_wc10 _ (List.mem_of_getElem? (i := 15) rfl)
theorem qw_416 : (.selects RX5 yX5_doTurn yX5_doTurn : Cond) ∈ WM := ic_wc10 _ (List.mem_of_getElem? (i := 16) rfl)
theorem qw_417 : (.code yX6_run cX6_run 3 (some .int) : Cond) ∈ WM := ic_wc10 _ (List.mem_of_getElem? (i := 17) rfl)
theorem qw_418 : (.methodLink RX6 126 yX5_passTime : Cond) ∈ WM := ic_wc10 _ (List.mem_of_getElem? (i := 18) rfl)
theorem qw_419 : (.instanceMethod yX5_passTime : Cond) ∈ WM := ic_wc10 _ (List.mem_of_getElem? (i := 19) rfl)
theorem qw_420 : (.selects RX5 yX5_passTime yX5_passTime : Cond) ∈ WM := ic_wc10 _ (List.mem_of_getElem? (i := 20) rfl)
theorem qw_421 : (.code yX6_tick cX6_tick 4 (some .int) : Cond) ∈ WM := ic_wc10 _ (List.mem_of_getElem? (i := 21) rfl)
theorem qw_422 : (.methodLink RX6 301 yX5_procAt : Cond) ∈ WM := ic_wc10 _ (List.mem_of_getElem? (i := 22) rfl)
theorem qw_423 : (.code yX6_checkProcess cX6_checkProcess 3 (some (.object "MailDen$Proc")) : Cond) ∈ WM := ic_wc10 _ (List.mem_of_getElem? (i := 23) rfl)
theorem qw_424 : (.methodLink RX6 130 yX6_checkProcess : Cond) ∈ WM := ic_wc10 _ (List.mem_of_getElem? (i := 24) rfl)
theorem qw_425 : (.instanceMethod yX6_checkProcess : Cond) ∈ WM := ic_wc10 _ (List.mem_of_getElem? (i := 25) rfl)
theorem qw_426 : (.selects RX6 yX6_checkProcess yX6_checkProcess : Cond) ∈ WM := ic_wc10 _ (List.mem_of_getElem? (i := 26) rfl)
theorem qw_427 : (.methodLink RX6 134 yX5_putMail : Cond) ∈ WM := ic_wc10 _ (List.mem_of_getElem? (i := 27) rfl)
theorem qw_428 : (.code yX6_send cX6_send 4 (some .boolean) : Cond) ∈ WM := ic_wc10 _ (List.mem_of_getElem? (i := 28) rfl)
theorem qw_429 : (.methodLink RX6 137 yX5_signalTo : Cond) ∈ WM := ic_wc10 _ (List.mem_of_getElem? (i := 29) rfl)
theorem qw_430 : (.methodLink RX6 141 yX5_settle : Cond) ∈ WM := ic_wc10 _ (List.mem_of_getElem? (i := 30) rfl)
theorem qw_431 : (.code yX6_signal cX6_signal 4 (some .int) : Cond) ∈ WM := ic_wc10 _ (List.mem_of_getElem? (i := 31) rfl)
theorem qw_432 : (.fieldLink RX6 144 "MailDen$Proc" "module" "I" : Cond) ∈ WM := ic_wc10 _ (List.mem_of_getElem? (i := 32) rfl)
theorem qw_433 : (.fieldLink RX6 147 "MailDen$Proc" "version" "I" : Cond) ∈ WM := ic_wc10 _ (List.mem_of_getElem? (i := 33) rfl)
theorem qw_434 : (.fieldLink RX6 150 "MailDen$Proc" "status" "I" : Cond) ∈ WM := ic_wc10 _ (List.mem_of_getElem? (i := 34) rfl)
theorem qw_435 : (.fieldLink RX6 153 "MailDen$Proc" "reason" "I" : Cond) ∈ WM := ic_wc10 _ (List.mem_of_getElem? (i := 35) rfl)
theorem qw_436 : (.fieldLink RX6 160 "MailDen$Proc" "there" "I" : Cond) ∈ WM := ic_wc10 _ (List.mem_of_getElem? (i := 36) rfl)
theorem qw_437 : (.fieldLink RX6 163 "MailDen$Proc" "line" "I" : Cond) ∈ WM := ic_wc10 _ (List.mem_of_getElem? (i := 37) rfl)
theorem qw_438 : (.fieldLink RX6 166 "MailDen$Proc" "until" "I" : Cond) ∈ WM := ic_wc10 _ (List.mem_of_getElem? (i := 38) rfl)
theorem qw_439 : (.fieldLink RX6 169 "MailDen$Proc" "box" "LMailDen$Box;" : Cond) ∈ WM := ic_wc10 _ (List.mem_of_getElem? (i := 39) rfl)
theorem qw_440 : (.fieldLink RX6 173 "MailDen$Box" "count" "I" : Cond) ∈ WM := ic_wc11 _ (List.mem_of_getElem? (i := 0) rfl)
theorem qw_441 : (.fieldLink RX6 176 "MailDen$Proc" "links" "I" : Cond) ∈ WM := ic_wc11 _ (List.mem_of_getElem? (i := 1) rfl)
theorem qw_442 : (.fieldLink RX6 179 "MailDen$Proc" "traps" "Z" : Cond) ∈ WM := ic_wc11 _ (List.mem_of_getElem? (i := 2) rfl)
theorem qw_443 : (.fieldLink RX6 183 "MailDen$Proc" "parent" "I" : Cond) ∈ WM := ic_wc11 _ (List.mem_of_getElem? (i := 3) rfl)
theorem qw_444 : (.methodLink RX6 156 yX5_placeInRow : Cond) ∈ WM := ic_wc11 _ (List.mem_of_getElem? (i := 4) rfl)
theorem qw_445 : (.instanceMethod yX5_placeInRow : Cond) ∈ WM := ic_wc11 _ (List.mem_of_getElem? (i := 5) rfl)
theorem qw_446 : (.selects RX5 yX5_placeInRow yX5_placeInRow : Cond) ∈ WM := ic_wc11 _ (List.mem_of_getElem? (i := 6) rfl)
theorem qw_447 : (.methodLink RX6 186 yX5_watchesOf : Cond) ∈ WM := ic_wc11 _ (List.mem_of_getElem? (i := 7) rfl)
theorem qw_448 : (.instanceMethod yX5_watchesOf : Cond) ∈ WM := ic_wc11 _ (List.mem_of_getElem? (i := 8) rfl)
theorem qw_449 : (.selects RX5 yX5_watchesOf yX5_watchesOf : Cond) ∈ WM := ic_wc11 _ (List.mem_of_getElem? (i := 9) rfl)
theorem qw_450 : (.code yX6_ofProcess cX6_ofProcess 4 (some .int) : Cond) ∈ WM := ic_wc11 _ (List.mem_of_getElem? (i := 10) rfl)
theorem qw_451 : (.methodLink RX6 189 yX2_localAt : Cond) ∈ WM := ic_wc11 _ (List.mem_of_getElem? (i := 11) rfl)
theorem qw_452 : (.code yX6_local cX6_local 4 (some .int) : Cond) ∈ WM := ic_wc11 _ (List.mem_of_getElem? (i := 12) rfl)
theorem qw_453 : (.fieldLink RX6 192 "MailDen$Box" "tags" "[I" : Cond) ∈ WM := ic_wc11 _ (List.mem_of_getElem? (i := 13) rfl)
theorem qw_454 : (.fieldLink RX6 196 "MailDen$Box" "numbers" "[I" : Cond) ∈ WM := ic_wc11 _ (List.mem_of_getElem? (i := 14) rfl)
theorem qw_455 : (.code yX6_mail cX6_mail 5 (some .int) : Cond) ∈ WM := ic_wc11 _ (List.mem_of_getElem? (i := 15) rfl)
theorem qw_456 : (.fieldLink RX6 202 "MailDen$Proc" "spec" "I" : Cond) ∈ WM := ic_wc11 _ (List.mem_of_getElem? (i := 16) rfl)
theorem qw_457 : (.fieldLink RX6 211 "MailDen$Proc" "children" "[I" : Cond) ∈ WM := ic_wc11 _ (List.mem_of_getElem? (i := 17) rfl)
theorem qw_458 : (.methodLink RX6 199 yX2_isSupervisor : Cond) ∈ WM := ic_wc11 _ (List.mem_of_getElem? (i := 18) rfl)
theorem qw_459 : (.methodLink RX6 205 yX5_restartsEver : Cond) ∈ WM := ic_wc11 _ (List.mem_of_getElem? (i := 19) rfl)
theorem qw_460 : (.instanceMethod yX5_restartsEver : Cond) ∈ WM := ic_wc11 _ (List.mem_of_getElem? (i := 20) rfl)
theorem qw_461 : (.selects RX5 yX5_restartsEver yX5_restartsEver : Cond) ∈ WM := ic_wc11 _ (List.mem_of_getElem? (i := 21) rfl)
theorem qw_462 : (.methodLink RX6 208 yX5_restartsLately : Cond) ∈ WM := ic_wc11 _ (List.mem_of_getElem? (i := 22) rfl)
theorem qw_463 : (.code yX6_ofSupervisor cX6_ofSupervisor 4 (some .int) : Cond) ∈ WM := ic_wc11 _ (List.mem_of_getElem? (i := 23) rfl)
theorem qw_464 : (.methodLink RX6 214 yX5_holderOf : Cond) ∈ WM := ic_wc11 _ (List.mem_of_getElem? (i := 24) rfl)
theorem qw_465 : (.code yX6_named cX6_named 2 (some .int) : Cond) ∈ WM := ic_wc11 _ (List.mem_of_getElem? (i := 25) rfl)
theorem qw_466 : (.fieldLink RX6 229 "MailDen$World" "lost" "I" : Cond) ∈ WM := ic_wc11 _ (List.mem_of_getElem? (i := 26) rfl)
theorem qw_467 : (.fieldLink RX6 232 "MailDen$World" "now" "I" : Cond) ∈ WM := ic_wc11 _ (List.mem_of_getElem? (i := 27) rfl)
theorem qw_468 : (.fieldLink RX6 235 "MailDen$World" "turns" "I" : Cond) ∈ WM := ic_wc11 _ (List.mem_of_getElem? (i := 28) rfl)
theorem qw_469 : (.fieldLink RX6 238 "MailDen$World" "lines" "I" : Cond) ∈ WM := ic_wc11 _ (List.mem_of_getElem? (i := 29) rfl)
theorem qw_470 : (.methodLink RX6 217 yX5_withStatus : Cond) ∈ WM := ic_wc11 _ (List.mem_of_getElem? (i := 30) rfl)
theorem qw_471 : (.instanceMethod yX5_withStatus : Cond) ∈ WM := ic_wc11 _ (List.mem_of_getElem? (i := 31) rfl)
theorem qw_472 : (.selects RX5 yX5_withStatus yX5_withStatus : Cond) ∈ WM := ic_wc11 _ (List.mem_of_getElem? (i := 32) rfl)
theorem qw_473 : (.methodLink RX6 220 yX5_supervisors : Cond) ∈ WM := ic_wc11 _ (List.mem_of_getElem? (i := 33) rfl)
theorem qw_474 : (.instanceMethod yX5_supervisors : Cond) ∈ WM := ic_wc11 _ (List.mem_of_getElem? (i := 34) rfl)
theorem qw_475 : (.selects RX5 yX5_supervisors yX5_supervisors : Cond) ∈ WM := ic_wc11 _ (List.mem_of_getElem? (i := 35) rfl)
theorem qw_476 : (.methodLink RX6 223 yX5_linkCount : Cond) ∈ WM := ic_wc11 _ (List.mem_of_getElem? (i := 36) rfl)
theorem qw_477 : (.instanceMethod yX5_linkCount : Cond) ∈ WM := ic_wc11 _ (List.mem_of_getElem? (i := 37) rfl)
theorem qw_478 : (.selects RX5 yX5_linkCount yX5_linkCount : Cond) ∈ WM := ic_wc11 _ (List.mem_of_getElem? (i := 38) rfl)
theorem qw_479 : (.methodLink RX6 226 yX5_mailCount : Cond) ∈ WM := ic_wc11 _ (List.mem_of_getElem? (i := 39) rfl)
theorem qw_480 : (.instanceMethod yX5_mailCount : Cond) ∈ WM := ic_wc12 _ (List.mem_of_getElem? (i := 0) rfl)
theorem qw_481 : (.selects RX5 yX5_mailCount yX5_mailCount : Cond) ∈ WM := ic_wc12 _ (List.mem_of_getElem? (i := 1) rfl)
theorem qw_482 : (.code yX6_many cX6_many 2 (some .int) : Cond) ∈ WM := ic_wc12 _ (List.mem_of_getElem? (i := 2) rfl)
theorem qw_483 : (.code yX6_meanLines cX6_meanLines 2 (some .double) : Cond) ∈ WM := ic_wc12 _ (List.mem_of_getElem? (i := 3) rfl)
theorem qw_484 : (.methodLink RX6 241 yX5_copyFrom : Cond) ∈ WM := ic_wc12 _ (List.mem_of_getElem? (i := 4) rfl)
theorem qw_485 : (.instanceMethod yX5_copyFrom : Cond) ∈ WM := ic_wc12 _ (List.mem_of_getElem? (i := 5) rfl)
theorem qw_486 : (.selects RX5 yX5_copyFrom yX5_copyFrom : Cond) ∈ WM := ic_wc12 _ (List.mem_of_getElem? (i := 6) rfl)
theorem qw_487 : (.methodLink RX6 245 yX5_endedBehind : Cond) ∈ WM := ic_wc12 _ (List.mem_of_getElem? (i := 7) rfl)
theorem qw_488 : (.instanceMethod yX5_endedBehind : Cond) ∈ WM := ic_wc12 _ (List.mem_of_getElem? (i := 8) rfl)
theorem qw_489 : (.selects RX5 yX5_endedBehind yX5_endedBehind : Cond) ∈ WM := ic_wc12 _ (List.mem_of_getElem? (i := 9) rfl)
theorem qw_490 : (.code yX6_wouldFall cX6_wouldFall 3 (some .int) : Cond) ∈ WM := ic_wc12 _ (List.mem_of_getElem? (i := 10) rfl)
theorem qw_491 : (.code yX6_wouldPurge cX6_wouldPurge 2 (some .int) : Cond) ∈ WM := ic_wc12 _ (List.mem_of_getElem? (i := 11) rfl)
theorem qw_492 : (.code yX6_overBy cX6_overBy 5 (some .int) : Cond) ∈ WM := ic_wc12 _ (List.mem_of_getElem? (i := 12) rfl)
theorem qw_493 : (.methodLink RX6 248 yX0_firstOf : Cond) ∈ WM := ic_wc12 _ (List.mem_of_getElem? (i := 13) rfl)
theorem qw_494 : (.code yX6_passedOver cX6_passedOver 4 (some .int) : Cond) ∈ WM := ic_wc12 _ (List.mem_of_getElem? (i := 14) rfl)
theorem qw_495 : (.constantLong RX6 253 (31) : Cond) ∈ WM := ic_wc12 _ (List.mem_of_getElem? (i := 15) rfl)
theorem qw_496 : (.methodLink RX6 274 yX6_ofProcess : Cond) ∈ WM := ic_wc12 _ (List.mem_of_getElem? (i := 16) rfl)
theorem qw_497 : (.instanceMethod yX6_ofProcess : Cond) ∈ WM := ic_wc12 _ (List.mem_of_getElem? (i := 17) rfl)
theorem qw_498 : (.selects RX6 yX6_ofProcess yX6_ofProcess : Cond) ∈ WM := ic_wc12 _ (List.mem_of_getElem? (i := 18) rfl)
theorem qw_499 : (.methodLink RX6 277 yX6_local : Cond) ∈ WM := ic_wc12 _ (List.mem_of_getElem? (i := 19) rfl)
theorem qw_500 : (.instanceMethod yX6_local : Cond) ∈ WM := ic_wc12 _ (List.mem_of_getElem? (i := 20) rfl)
theorem qw_501 : (.selects RX6 yX6_local yX6_local : Cond) ∈ WM := ic_wc12 _ (List.mem_of_getElem? (i := 21) rfl)
theorem qw_502 : (.methodLink RX6 280 yX6_mail : Cond) ∈ WM := ic_wc12 _ (List.mem_of_getElem? (i := 22) rfl)
theorem qw_503 : (.instanceMethod yX6_mail : Cond) ∈ WM := ic_wc12 _ (List.mem_of_getElem? (i := 23) rfl)
theorem qw_504 : (.selects RX6 yX6_mail yX6_mail : Cond) ∈ WM := ic_wc12 _ (List.mem_of_getElem? (i := 24) rfl)
theorem qw_505 : (.methodLink RX6 283 yX6_ofSupervisor : Cond) ∈ WM := ic_wc12 _ (List.mem_of_getElem? (i := 25) rfl)
theorem qw_506 : (.instanceMethod yX6_ofSupervisor : Cond) ∈ WM := ic_wc12 _ (List.mem_of_getElem? (i := 26) rfl)
theorem qw_507 : (.selects RX6 yX6_ofSupervisor yX6_ofSupervisor : Cond) ∈ WM := ic_wc12 _ (List.mem_of_getElem? (i := 27) rfl)
theorem qw_508 : (.methodLink RX6 286 yX6_wouldFall : Cond) ∈ WM := ic_wc12 _ (List.mem_of_getElem? (i := 28) rfl)
theorem qw_509 : (.instanceMethod yX6_wouldFall : Cond) ∈ WM := ic_wc12 _ (List.mem_of_getElem? (i := 29) rfl)
theorem qw_510 : (.selects RX6 yX6_wouldFall yX6_wouldFall : Cond) ∈ WM := ic_wc12 _ (List.mem_of_getElem? (i := 30) rfl)
theorem qw_511 : (.methodLink RX6 289 yX6_passedOver : Cond) ∈ WM := ic_wc12 _ (List.mem_of_getElem? (i := 31) rfl)
theorem qw_512 : (.instanceMethod yX6_passedOver : Cond) ∈ WM := ic_wc12 _ (List.mem_of_getElem? (i := 32) rfl)
theorem qw_513 : (.selects RX6 yX6_passedOver yX6_passedOver : Cond) ∈ WM := ic_wc12 _ (List.mem_of_getElem? (i := 33) rfl)
theorem qw_514 : (.code yX6_digestOfProcess cX6_digestOfProcess 8 (some .long) : Cond) ∈ WM := ic_wc12 _ (List.mem_of_getElem? (i := 34) rfl)
theorem qw_515 : (.constantLong RX6 251 (58144) : Cond) ∈ WM := ic_wc12 _ (List.mem_of_getElem? (i := 35) rfl)
theorem qw_516 : (.methodLink RX6 255 yX6_many : Cond) ∈ WM := ic_wc12 _ (List.mem_of_getElem? (i := 36) rfl)
theorem qw_517 : (.instanceMethod yX6_many : Cond) ∈ WM := ic_wc12 _ (List.mem_of_getElem? (i := 37) rfl)
theorem qw_518 : (.selects RX6 yX6_many yX6_many : Cond) ∈ WM := ic_wc12 _ (List.mem_of_getElem? (i := 38) rfl)
theorem qw_519 : (.methodLink RX6 258 yX6_ofModule : Cond) ∈ WM := ic_wc12 _ (List.mem_of_getElem? (i := 39) rfl)
theorem qw_520 : (.instanceMethod yX6_ofModule : Cond) ∈ WM := ic_wc13 _ (List.mem_of_getElem? (i := 0) rfl)
theorem qw_521 : (.selects RX6 yX6_ofModule yX6_ofModule : Cond) ∈ WM := ic_wc13 _ (List.mem_of_getElem? (i := 1) rfl)
theorem qw_522 : (.methodLink RX6 261 yX6_wouldPurge : Cond) ∈ WM := ic_wc13 _ (List.mem_of_getElem? (i := 2) rfl)
theorem qw_523 : (.instanceMethod yX6_wouldPurge : Cond) ∈ WM := ic_wc13 _ (List.mem_of_getElem? (i := 3) rfl)
theorem qw_524 : (.selects RX6 yX6_wouldPurge yX6_wouldPurge : Cond) ∈ WM := ic_wc13 _ (List.mem_of_getElem? (i := 4) rfl)
theorem qw_525 : (.methodLink RX6 264 yX6_digestOfProcess : Cond) ∈ WM := ic_wc13 _ (List.mem_of_getElem? (i := 5) rfl)
theorem qw_526 : (.instanceMethod yX6_digestOfProcess : Cond) ∈ WM := ic_wc13 _ (List.mem_of_getElem? (i := 6) rfl)
theorem qw_527 : (.selects RX6 yX6_digestOfProcess yX6_digestOfProcess : Cond) ∈ WM := ic_wc13 _ (List.mem_of_getElem? (i := 7) rfl)
theorem qw_528 : (.methodLink RX6 268 yX6_named : Cond) ∈ WM := ic_wc13 _ (List.mem_of_getElem? (i := 8) rfl)
theorem qw_529 : (.instanceMethod yX6_named : Cond) ∈ WM := ic_wc13 _ (List.mem_of_getElem? (i := 9) rfl)
theorem qw_530 : (.selects RX6 yX6_named yX6_named : Cond) ∈ WM := ic_wc13 _ (List.mem_of_getElem? (i := 10) rfl)
theorem qw_531 : (.methodLink RX6 271 yX6_overBy : Cond) ∈ WM := ic_wc13 _ (List.mem_of_getElem? (i := 11) rfl)
theorem qw_532 : (.instanceMethod yX6_overBy : Cond) ∈ WM := ic_wc13 _ (List.mem_of_getElem? (i := 12) rfl)
theorem qw_533 : (.selects RX6 yX6_overBy yX6_overBy : Cond) ∈ WM := ic_wc13 _ (List.mem_of_getElem? (i := 13) rfl)
theorem qw_534 : (.code yX6_digest cX6_digest 5 (some .long) : Cond) ∈ WM := ic_wc13 _ (List.mem_of_getElem? (i := 14) rfl)
end
section
theorem dX0_copyFrom_0 : decode cX0_copyFrom 0 = .ok (.aload_n 1, 1) := by decide +kernel
theorem dX0_copyFrom_1 : decode cX0_copyFrom 1 = .ok (.getfield 9, 3) := by decide +kernel
theorem dX0_copyFrom_4 : decode cX0_copyFrom 4 = .ok (.iconst 0, 1) := by decide +kernel
theorem dX0_copyFrom_5 : decode cX0_copyFrom 5 = .ok (.aload_n 0, 1) := by decide +kernel
theorem dX0_copyFrom_6 : decode cX0_copyFrom 6 = .ok (.getfield 9, 3) := by decide +kernel
theorem dX0_copyFrom_9 : decode cX0_copyFrom 9 = .ok (.iconst 0, 1) := by decide +kernel
theorem dX0_copyFrom_10 : decode cX0_copyFrom 10 = .ok (.bipush 8, 2) := by decide +kernel
theorem dX0_copyFrom_12 : decode cX0_copyFrom 12 = .ok (.invokestatic 26, 3) := by decide +kernel
theorem dX0_copyFrom_15 : decode cX0_copyFrom 15 = .ok (.aload_n 1, 1) := by decide +kernel
theorem dX0_copyFrom_16 : decode cX0_copyFrom 16 = .ok (.getfield 15, 3) := by decide +kernel
theorem dX0_copyFrom_19 : decode cX0_copyFrom 19 = .ok (.iconst 0, 1) := by decide +kernel
theorem dX0_copyFrom_20 : decode cX0_copyFrom 20 = .ok (.aload_n 0, 1) := by decide +kernel
theorem dX0_copyFrom_21 : decode cX0_copyFrom 21 = .ok (.getfield 15, 3) := by decide +kernel
theorem dX0_copyFrom_24 : decode cX0_copyFrom 24 = .ok (.iconst 0, 1) := by decide +kernel
theorem dX0_copyFrom_25 : decode cX0_copyFrom 25 = .ok (.bipush 8, 2) := by decide +kernel
theorem dX0_copyFrom_27 : decode cX0_copyFrom 27 = .ok (.invokestatic 26, 3) := by decide +kernel
theorem dX0_copyFrom_30 : decode cX0_copyFrom 30 = .ok (.aload_n 0, 1) := by decide +kernel
theorem dX0_copyFrom_31 : decode cX0_copyFrom 31 = .ok (.aload_n 1, 1) := by decide +kernel
theorem dX0_copyFrom_32 : decode cX0_copyFrom 32 = .ok (.getfield 18, 3) := by decide +kernel
theorem dX0_copyFrom_35 : decode cX0_copyFrom 35 = .ok (.putfield 18, 3) := by decide +kernel
theorem dX0_copyFrom_38 : decode cX0_copyFrom 38 = .ok (.return_, 1) := by decide +kernel
theorem dX0_firstOf_0 : decode cX0_firstOf 0 = .ok (.iconst 0, 1) := by decide +kernel
theorem dX0_firstOf_1 : decode cX0_firstOf 1 = .ok (.istore_n 2, 1) := by decide +kernel
theorem dX0_firstOf_2 : decode cX0_firstOf 2 = .ok (.iload_n 2, 1) := by decide +kernel
theorem dX0_firstOf_3 : decode cX0_firstOf 3 = .ok (.aload_n 0, 1) := by decide +kernel
theorem dX0_firstOf_4 : decode cX0_firstOf 4 = .ok (.getfield 18, 3) := by decide +kernel
theorem dX0_firstOf_7 : decode cX0_firstOf 7 = .ok (.if_icmp .ge 32, 3) := by decide +kernel
theorem dX0_firstOf_10 : decode cX0_firstOf 10 = .ok (.iload_n 2, 1) := by decide +kernel
theorem dX0_firstOf_11 : decode cX0_firstOf 11 = .ok (.bipush 8, 2) := by decide +kernel
theorem dX0_firstOf_13 : decode cX0_firstOf 13 = .ok (.if_icmp .ge 26, 3) := by decide +kernel
theorem dX0_firstOf_16 : decode cX0_firstOf 16 = .ok (.iload_n 1, 1) := by decide +kernel
theorem dX0_firstOf_17 : decode cX0_firstOf 17 = .ok (.iconst 4, 1) := by decide +kernel
theorem dX0_firstOf_18 : decode cX0_firstOf 18 = .ok (.if_icmp .eq 13, 3) := by decide +kernel
theorem dX0_firstOf_21 : decode cX0_firstOf 21 = .ok (.aload_n 0, 1) := by decide +kernel
theorem dX0_firstOf_22 : decode cX0_firstOf 22 = .ok (.getfield 9, 3) := by decide +kernel
theorem dX0_firstOf_25 : decode cX0_firstOf 25 = .ok (.iload_n 2, 1) := by decide +kernel
theorem dX0_firstOf_26 : decode cX0_firstOf 26 = .ok (.iaload, 1) := by decide +kernel
theorem dX0_firstOf_27 : decode cX0_firstOf 27 = .ok (.iload_n 1, 1) := by decide +kernel
theorem dX0_firstOf_28 : decode cX0_firstOf 28 = .ok (.if_icmp .ne 5, 3) := by decide +kernel
theorem dX0_firstOf_31 : decode cX0_firstOf 31 = .ok (.iload_n 2, 1) := by decide +kernel
theorem dX0_firstOf_32 : decode cX0_firstOf 32 = .ok (.ireturn, 1) := by decide +kernel
theorem dX0_firstOf_33 : decode cX0_firstOf 33 = .ok (.iinc 2 1, 3) := by decide +kernel
theorem dX0_firstOf_36 : decode cX0_firstOf 36 = .ok (.goto (-34), 3) := by decide +kernel
theorem dX0_firstOf_39 : decode cX0_firstOf 39 = .ok (.iconst (-1), 1) := by decide +kernel
theorem dX0_firstOf_40 : decode cX0_firstOf 40 = .ok (.ireturn, 1) := by decide +kernel
theorem dX0_init_0 : decode cX0_init 0 = .ok (.aload_n 0, 1) := by decide +kernel
theorem dX0_init_1 : decode cX0_init 1 = .ok (.invokespecial 3, 3) := by decide +kernel
theorem dX0_init_4 : decode cX0_init 4 = .ok (.aload_n 0, 1) := by decide +kernel
theorem dX0_init_5 : decode cX0_init 5 = .ok (.bipush 8, 2) := by decide +kernel
theorem dX0_init_7 : decode cX0_init 7 = .ok (.newarray .int, 2) := by decide +kernel
theorem dX0_init_9 : decode cX0_init 9 = .ok (.putfield 9, 3) := by decide +kernel
theorem dX0_init_12 : decode cX0_init 12 = .ok (.aload_n 0, 1) := by decide +kernel
theorem dX0_init_13 : decode cX0_init 13 = .ok (.bipush 8, 2) := by decide +kernel
theorem dX0_init_15 : decode cX0_init 15 = .ok (.newarray .int, 2) := by decide +kernel
theorem dX0_init_17 : decode cX0_init 17 = .ok (.putfield 15, 3) := by decide +kernel
theorem dX0_init_20 : decode cX0_init 20 = .ok (.return_, 1) := by decide +kernel
theorem dX0_put_0 : decode cX0_put 0 = .ok (.aload_n 0, 1) := by decide +kernel
theorem dX0_put_1 : decode cX0_put 1 = .ok (.getfield 18, 3) := by decide +kernel
theorem dX0_put_4 : decode cX0_put 4 = .ok (.bipush 8, 2) := by decide +kernel
theorem dX0_put_6 : decode cX0_put 6 = .ok (.if_icmp .lt 5, 3) := by decide +kernel
theorem dX0_put_9 : decode cX0_put 9 = .ok (.iconst 0, 1) := by decide +kernel
theorem dX0_put_10 : decode cX0_put 10 = .ok (.ireturn, 1) := by decide +kernel
theorem dX0_put_11 : decode cX0_put 11 = .ok (.aload_n 0, 1) := by decide +kernel
theorem dX0_put_12 : decode cX0_put 12 = .ok (.getfield 9, 3) := by decide +kernel
theorem dX0_put_15 : decode cX0_put 15 = .ok (.aload_n 0, 1) := by decide +kernel
theorem dX0_put_16 : decode cX0_put 16 = .ok (.getfield 18, 3) := by decide +kernel
theorem dX0_put_19 : decode cX0_put 19 = .ok (.iload_n 1, 1) := by decide +kernel
theorem dX0_put_20 : decode cX0_put 20 = .ok (.iastore, 1) := by decide +kernel
theorem dX0_put_21 : decode cX0_put 21 = .ok (.aload_n 0, 1) := by decide +kernel
theorem dX0_put_22 : decode cX0_put 22 = .ok (.getfield 15, 3) := by decide +kernel
theorem dX0_put_25 : decode cX0_put 25 = .ok (.aload_n 0, 1) := by decide +kernel
theorem dX0_put_26 : decode cX0_put 26 = .ok (.getfield 18, 3) := by decide +kernel
theorem dX0_put_29 : decode cX0_put 29 = .ok (.iload_n 2, 1) := by decide +kernel
theorem dX0_put_30 : decode cX0_put 30 = .ok (.iastore, 1) := by decide +kernel
theorem dX0_put_31 : decode cX0_put 31 = .ok (.aload_n 0, 1) := by decide +kernel
theorem dX0_put_32 : decode cX0_put 32 = .ok (.dup, 1) := by decide +kernel
theorem dX0_put_33 : decode cX0_put 33 = .ok (.getfield 18, 3) := by decide +kernel
theorem dX0_put_36 : decode cX0_put 36 = .ok (.iconst 1, 1) := by decide +kernel
theorem dX0_put_37 : decode cX0_put 37 = .ok (.iadd, 1) := by decide +kernel
theorem dX0_put_38 : decode cX0_put 38 = .ok (.putfield 18, 3) := by decide +kernel
theorem dX0_put_41 : decode cX0_put 41 = .ok (.iconst 1, 1) := by decide +kernel
theorem dX0_put_42 : decode cX0_put 42 = .ok (.ireturn, 1) := by decide +kernel
theorem dX0_takeOut_0 : decode cX0_takeOut 0 = .ok (.iload_n 1, 1) := by decide +kernel
theorem dX0_takeOut_1 : decode cX0_takeOut 1 = .ok (.iconst 0, 1) := by decide +kernel
theorem dX0_takeOut_2 : decode cX0_takeOut 2 = .ok (.aload_n 0, 1) := by decide +kernel
theorem dX0_takeOut_3 : decode cX0_takeOut 3 = .ok (.getfield 18, 3) := by decide +kernel
theorem dX0_takeOut_6 : decode cX0_takeOut 6 = .ok (.iconst 1, 1) := by decide +kernel
theorem dX0_takeOut_7 : decode cX0_takeOut 7 = .ok (.isub, 1) := by decide +kernel
theorem dX0_takeOut_8 : decode cX0_takeOut 8 = .ok (.invokestatic 22, 3) := by decide +kernel
theorem dX0_takeOut_11 : decode cX0_takeOut 11 = .ok (.ifCond .eq 9, 3) := by decide +kernel
theorem dX0_takeOut_14 : decode cX0_takeOut 14 = .ok (.iload_n 1, 1) := by decide +kernel
theorem dX0_takeOut_15 : decode cX0_takeOut 15 = .ok (.bipush 8, 2) := by decide +kernel
theorem dX0_takeOut_17 : decode cX0_takeOut 17 = .ok (.if_icmp .lt 5, 3) := by decide +kernel
theorem dX0_takeOut_20 : decode cX0_takeOut 20 = .ok (.iconst (-1), 1) := by decide +kernel
theorem dX0_takeOut_21 : decode cX0_takeOut 21 = .ok (.ireturn, 1) := by decide +kernel
theorem dX0_takeOut_22 : decode cX0_takeOut 22 = .ok (.aload_n 0, 1) := by decide +kernel
theorem dX0_takeOut_23 : decode cX0_takeOut 23 = .ok (.getfield 15, 3) := by decide +kernel
theorem dX0_takeOut_26 : decode cX0_takeOut 26 = .ok (.iload_n 1, 1) := by decide +kernel
theorem dX0_takeOut_27 : decode cX0_takeOut 27 = .ok (.iaload, 1) := by decide +kernel
theorem dX0_takeOut_28 : decode cX0_takeOut 28 = .ok (.istore_n 2, 1) := by decide +kernel
theorem dX0_takeOut_29 : decode cX0_takeOut 29 = .ok (.iload_n 1, 1) := by decide +kernel
theorem dX0_takeOut_30 : decode cX0_takeOut 30 = .ok (.iconst 1, 1) := by decide +kernel
theorem dX0_takeOut_31 : decode cX0_takeOut 31 = .ok (.iadd, 1) := by decide +kernel
theorem dX0_takeOut_32 : decode cX0_takeOut 32 = .ok (.istore_n 3, 1) := by decide +kernel
theorem dX0_takeOut_33 : decode cX0_takeOut 33 = .ok (.iload_n 3, 1) := by decide +kernel
theorem dX0_takeOut_34 : decode cX0_takeOut 34 = .ok (.aload_n 0, 1) := by decide +kernel
theorem dX0_takeOut_35 : decode cX0_takeOut 35 = .ok (.getfield 18, 3) := by decide +kernel
theorem dX0_takeOut_38 : decode cX0_takeOut 38 = .ok (.if_icmp .ge 43, 3) := by decide +kernel
theorem dX0_takeOut_41 : decode cX0_takeOut 41 = .ok (.iload_n 3, 1) := by decide +kernel
theorem dX0_takeOut_42 : decode cX0_takeOut 42 = .ok (.bipush 8, 2) := by decide +kernel
theorem dX0_takeOut_44 : decode cX0_takeOut 44 = .ok (.if_icmp .ge 37, 3) := by decide +kernel
theorem dX0_takeOut_47 : decode cX0_takeOut 47 = .ok (.aload_n 0, 1) := by decide +kernel
theorem dX0_takeOut_48 : decode cX0_takeOut 48 = .ok (.getfield 9, 3) := by decide +kernel
theorem dX0_takeOut_51 : decode cX0_takeOut 51 = .ok (.iload_n 3, 1) := by decide +kernel
theorem dX0_takeOut_52 : decode cX0_takeOut 52 = .ok (.iconst 1, 1) := by decide +kernel
theorem dX0_takeOut_53 : decode cX0_takeOut 53 = .ok (.isub, 1) := by decide +kernel
theorem dX0_takeOut_54 : decode cX0_takeOut 54 = .ok (.aload_n 0, 1) := by decide +kernel
theorem dX0_takeOut_55 : decode cX0_takeOut 55 = .ok (.getfield 9, 3) := by decide +kernel
theorem dX0_takeOut_58 : decode cX0_takeOut 58 = .ok (.iload_n 3, 1) := by decide +kernel
theorem dX0_takeOut_59 : decode cX0_takeOut 59 = .ok (.iaload, 1) := by decide +kernel
theorem dX0_takeOut_60 : decode cX0_takeOut 60 = .ok (.iastore, 1) := by decide +kernel
theorem dX0_takeOut_61 : decode cX0_takeOut 61 = .ok (.aload_n 0, 1) := by decide +kernel
theorem dX0_takeOut_62 : decode cX0_takeOut 62 = .ok (.getfield 15, 3) := by decide +kernel
theorem dX0_takeOut_65 : decode cX0_takeOut 65 = .ok (.iload_n 3, 1) := by decide +kernel
theorem dX0_takeOut_66 : decode cX0_takeOut 66 = .ok (.iconst 1, 1) := by decide +kernel
theorem dX0_takeOut_67 : decode cX0_takeOut 67 = .ok (.isub, 1) := by decide +kernel
theorem dX0_takeOut_68 : decode cX0_takeOut 68 = .ok (.aload_n 0, 1) := by decide +kernel
theorem dX0_takeOut_69 : decode cX0_takeOut 69 = .ok (.getfield 15, 3) := by decide +kernel
theorem dX0_takeOut_72 : decode cX0_takeOut 72 = .ok (.iload_n 3, 1) := by decide +kernel
theorem dX0_takeOut_73 : decode cX0_takeOut 73 = .ok (.iaload, 1) := by decide +kernel
theorem dX0_takeOut_74 : decode cX0_takeOut 74 = .ok (.iastore, 1) := by decide +kernel
theorem dX0_takeOut_75 : decode cX0_takeOut 75 = .ok (.iinc 3 1, 3) := by decide +kernel
theorem dX0_takeOut_78 : decode cX0_takeOut 78 = .ok (.goto (-45), 3) := by decide +kernel
theorem dX0_takeOut_81 : decode cX0_takeOut 81 = .ok (.aload_n 0, 1) := by decide +kernel
theorem dX0_takeOut_82 : decode cX0_takeOut 82 = .ok (.dup, 1) := by decide +kernel
theorem dX0_takeOut_83 : decode cX0_takeOut 83 = .ok (.getfield 18, 3) := by decide +kernel
theorem dX0_takeOut_86 : decode cX0_takeOut 86 = .ok (.iconst 1, 1) := by decide +kernel
theorem dX0_takeOut_87 : decode cX0_takeOut 87 = .ok (.isub, 1) := by decide +kernel
theorem dX0_takeOut_88 : decode cX0_takeOut 88 = .ok (.putfield 18, 3) := by decide +kernel
theorem dX0_takeOut_91 : decode cX0_takeOut 91 = .ok (.iload_n 2, 1) := by decide +kernel
theorem dX0_takeOut_92 : decode cX0_takeOut 92 = .ok (.ireturn, 1) := by decide +kernel
theorem dX1_addLine_0 : decode cX1_addLine 0 = .ok (.aload_n 0, 1) := by decide +kernel
theorem dX1_addLine_1 : decode cX1_addLine 1 = .ok (.iload_n 1, 1) := by decide +kernel
theorem dX1_addLine_2 : decode cX1_addLine 2 = .ok (.iload_n 2, 1) := by decide +kernel
theorem dX1_addLine_3 : decode cX1_addLine 3 = .ok (.invokevirtual 36, 3) := by decide +kernel
theorem dX1_addLine_6 : decode cX1_addLine 6 = .ok (.istore 6, 2) := by decide +kernel
theorem dX1_addLine_8 : decode cX1_addLine 8 = .ok (.iload 6, 2) := by decide +kernel
theorem dX1_addLine_10 : decode cX1_addLine 10 = .ok (.iconst (-1), 1) := by decide +kernel
theorem dX1_addLine_11 : decode cX1_addLine 11 = .ok (.if_icmp .eq 15, 3) := by decide +kernel
theorem dX1_addLine_14 : decode cX1_addLine 14 = .ok (.aload_n 0, 1) := by decide +kernel
theorem dX1_addLine_15 : decode cX1_addLine 15 = .ok (.getfield 9, 3) := by decide +kernel
theorem dX1_addLine_18 : decode cX1_addLine 18 = .ok (.iload 6, 2) := by decide +kernel
theorem dX1_addLine_20 : decode cX1_addLine 20 = .ok (.iaload, 1) := by decide +kernel
theorem dX1_addLine_21 : decode cX1_addLine 21 = .ok (.bipush 12, 2) := by decide +kernel
theorem dX1_addLine_23 : decode cX1_addLine 23 = .ok (.if_icmp .lt 5, 3) := by decide +kernel
theorem dX1_addLine_26 : decode cX1_addLine 26 = .ok (.iconst (-1), 1) := by decide +kernel
theorem dX1_addLine_27 : decode cX1_addLine 27 = .ok (.ireturn, 1) := by decide +kernel
theorem dX1_addLine_28 : decode cX1_addLine 28 = .ok (.aload_n 0, 1) := by decide +kernel
theorem dX1_addLine_29 : decode cX1_addLine 29 = .ok (.getfield 9, 3) := by decide +kernel
theorem dX1_addLine_32 : decode cX1_addLine 32 = .ok (.iload 6, 2) := by decide +kernel
theorem dX1_addLine_34 : decode cX1_addLine 34 = .ok (.iaload, 1) := by decide +kernel
theorem dX1_addLine_35 : decode cX1_addLine 35 = .ok (.istore 7, 2) := by decide +kernel
theorem dX1_addLine_37 : decode cX1_addLine 37 = .ok (.aload_n 0, 1) := by decide +kernel
theorem dX1_addLine_38 : decode cX1_addLine 38 = .ok (.getfield 9, 3) := by decide +kernel
theorem dX1_addLine_41 : decode cX1_addLine 41 = .ok (.iload 6, 2) := by decide +kernel
theorem dX1_addLine_43 : decode cX1_addLine 43 = .ok (.iload 7, 2) := by decide +kernel
theorem dX1_addLine_45 : decode cX1_addLine 45 = .ok (.iconst 1, 1) := by decide +kernel
theorem dX1_addLine_46 : decode cX1_addLine 46 = .ok (.iadd, 1) := by decide +kernel
theorem dX1_addLine_47 : decode cX1_addLine 47 = .ok (.iastore, 1) := by decide +kernel
theorem dX1_addLine_48 : decode cX1_addLine 48 = .ok (.iload 6, 2) := by decide +kernel
theorem dX1_addLine_50 : decode cX1_addLine 50 = .ok (.bipush 12, 2) := by decide +kernel
theorem dX1_addLine_52 : decode cX1_addLine 52 = .ok (.imul, 1) := by decide +kernel
theorem dX1_addLine_53 : decode cX1_addLine 53 = .ok (.iload 7, 2) := by decide +kernel
theorem dX1_addLine_55 : decode cX1_addLine 55 = .ok (.iadd, 1) := by decide +kernel
theorem dX1_addLine_56 : decode cX1_addLine 56 = .ok (.istore 8, 2) := by decide +kernel
theorem dX1_addLine_58 : decode cX1_addLine 58 = .ok (.aload_n 0, 1) := by decide +kernel
theorem dX1_addLine_59 : decode cX1_addLine 59 = .ok (.getfield 15, 3) := by decide +kernel
theorem dX1_addLine_62 : decode cX1_addLine 62 = .ok (.iload 8, 2) := by decide +kernel
theorem dX1_addLine_64 : decode cX1_addLine 64 = .ok (.iload_n 3, 1) := by decide +kernel
theorem dX1_addLine_65 : decode cX1_addLine 65 = .ok (.iastore, 1) := by decide +kernel
theorem dX1_addLine_66 : decode cX1_addLine 66 = .ok (.aload_n 0, 1) := by decide +kernel
theorem dX1_addLine_67 : decode cX1_addLine 67 = .ok (.getfield 18, 3) := by decide +kernel
theorem dX1_addLine_70 : decode cX1_addLine 70 = .ok (.iload 8, 2) := by decide +kernel
theorem dX1_addLine_72 : decode cX1_addLine 72 = .ok (.iload 4, 2) := by decide +kernel
theorem dX1_addLine_74 : decode cX1_addLine 74 = .ok (.iastore, 1) := by decide +kernel
theorem dX1_addLine_75 : decode cX1_addLine 75 = .ok (.aload_n 0, 1) := by decide +kernel
theorem dX1_addLine_76 : decode cX1_addLine 76 = .ok (.getfield 21, 3) := by decide +kernel
theorem dX1_addLine_79 : decode cX1_addLine 79 = .ok (.iload 8, 2) := by decide +kernel
theorem dX1_addLine_81 : decode cX1_addLine 81 = .ok (.iload 5, 2) := by decide +kernel
theorem dX1_addLine_83 : decode cX1_addLine 83 = .ok (.iastore, 1) := by decide +kernel
theorem dX1_addLine_84 : decode cX1_addLine 84 = .ok (.iload 7, 2) := by decide +kernel
theorem dX1_addLine_86 : decode cX1_addLine 86 = .ok (.ireturn, 1) := by decide +kernel
theorem dX1_hasModule_0 : decode cX1_hasModule 0 = .ok (.iload_n 1, 1) := by decide +kernel
theorem dX1_hasModule_1 : decode cX1_hasModule 1 = .ok (.ifCond .lt 20, 3) := by decide +kernel
theorem dX1_hasModule_4 : decode cX1_hasModule 4 = .ok (.iload_n 1, 1) := by decide +kernel
theorem dX1_hasModule_5 : decode cX1_hasModule 5 = .ok (.aload_n 0, 1) := by decide +kernel
theorem dX1_hasModule_6 : decode cX1_hasModule 6 = .ok (.getfield 24, 3) := by decide +kernel
theorem dX1_hasModule_9 : decode cX1_hasModule 9 = .ok (.if_icmp .ge 12, 3) := by decide +kernel
theorem dX1_hasModule_12 : decode cX1_hasModule 12 = .ok (.iload_n 1, 1) := by decide +kernel
theorem dX1_hasModule_13 : decode cX1_hasModule 13 = .ok (.iconst 4, 1) := by decide +kernel
theorem dX1_hasModule_14 : decode cX1_hasModule 14 = .ok (.if_icmp .ge 7, 3) := by decide +kernel
theorem dX1_hasModule_17 : decode cX1_hasModule 17 = .ok (.iconst 1, 1) := by decide +kernel
theorem dX1_hasModule_18 : decode cX1_hasModule 18 = .ok (.goto 4, 3) := by decide +kernel
theorem dX1_hasModule_21 : decode cX1_hasModule 21 = .ok (.iconst 0, 1) := by decide +kernel
theorem dX1_hasModule_22 : decode cX1_hasModule 22 = .ok (.ireturn, 1) := by decide +kernel
theorem dX1_init_0 : decode cX1_init 0 = .ok (.aload_n 0, 1) := by decide +kernel
theorem dX1_init_1 : decode cX1_init 1 = .ok (.invokespecial 3, 3) := by decide +kernel
theorem dX1_init_4 : decode cX1_init 4 = .ok (.aload_n 0, 1) := by decide +kernel
theorem dX1_init_5 : decode cX1_init 5 = .ok (.bipush 16, 2) := by decide +kernel
theorem dX1_init_7 : decode cX1_init 7 = .ok (.newarray .int, 2) := by decide +kernel
theorem dX1_init_9 : decode cX1_init 9 = .ok (.putfield 9, 3) := by decide +kernel
theorem dX1_init_12 : decode cX1_init 12 = .ok (.aload_n 0, 1) := by decide +kernel
theorem dX1_init_13 : decode cX1_init 13 = .ok (.sipush 192, 3) := by decide +kernel
theorem dX1_init_16 : decode cX1_init 16 = .ok (.newarray .int, 2) := by decide +kernel
theorem dX1_init_18 : decode cX1_init 18 = .ok (.putfield 15, 3) := by decide +kernel
theorem dX1_init_21 : decode cX1_init 21 = .ok (.aload_n 0, 1) := by decide +kernel
theorem dX1_init_22 : decode cX1_init 22 = .ok (.sipush 192, 3) := by decide +kernel
theorem dX1_init_25 : decode cX1_init 25 = .ok (.newarray .int, 2) := by decide +kernel
theorem dX1_init_27 : decode cX1_init 27 = .ok (.putfield 18, 3) := by decide +kernel
theorem dX1_init_30 : decode cX1_init 30 = .ok (.aload_n 0, 1) := by decide +kernel
theorem dX1_init_31 : decode cX1_init 31 = .ok (.sipush 192, 3) := by decide +kernel
theorem dX1_init_34 : decode cX1_init 34 = .ok (.newarray .int, 2) := by decide +kernel
theorem dX1_init_36 : decode cX1_init 36 = .ok (.putfield 21, 3) := by decide +kernel
theorem dX1_init_39 : decode cX1_init 39 = .ok (.return_, 1) := by decide +kernel
theorem dX1_isLine_0 : decode cX1_isLine 0 = .ok (.iload_n 1, 1) := by decide +kernel
theorem dX1_isLine_1 : decode cX1_isLine 1 = .ok (.iconst 0, 1) := by decide +kernel
theorem dX1_isLine_2 : decode cX1_isLine 2 = .ok (.bipush 17, 2) := by decide +kernel
theorem dX1_isLine_4 : decode cX1_isLine 4 = .ok (.invokestatic 32, 3) := by decide +kernel
theorem dX1_isLine_7 : decode cX1_isLine 7 = .ok (.ifCond .eq 20, 3) := by decide +kernel
theorem dX1_isLine_10 : decode cX1_isLine 10 = .ok (.iload_n 2, 1) := by decide +kernel
theorem dX1_isLine_11 : decode cX1_isLine 11 = .ok (.getstatic 40, 3) := by decide +kernel
theorem dX1_isLine_14 : decode cX1_isLine 14 = .ok (.iload_n 1, 1) := by decide +kernel
theorem dX1_isLine_15 : decode cX1_isLine 15 = .ok (.iaload, 1) := by decide +kernel
theorem dX1_isLine_16 : decode cX1_isLine 16 = .ok (.getstatic 43, 3) := by decide +kernel
theorem dX1_isLine_19 : decode cX1_isLine 19 = .ok (.iload_n 1, 1) := by decide +kernel
theorem dX1_isLine_20 : decode cX1_isLine 20 = .ok (.iaload, 1) := by decide +kernel
theorem dX1_isLine_21 : decode cX1_isLine 21 = .ok (.invokestatic 32, 3) := by decide +kernel
theorem dX1_isLine_24 : decode cX1_isLine 24 = .ok (.ifCond .ne 5, 3) := by decide +kernel
theorem dX1_isLine_27 : decode cX1_isLine 27 = .ok (.iconst 0, 1) := by decide +kernel
theorem dX1_isLine_28 : decode cX1_isLine 28 = .ok (.ireturn, 1) := by decide +kernel
theorem dX1_isLine_29 : decode cX1_isLine 29 = .ok (.iload_n 1, 1) := by decide +kernel
theorem dX1_isLine_30 : decode cX1_isLine 30 = .ok (.iconst 4, 1) := by decide +kernel
theorem dX1_isLine_31 : decode cX1_isLine 31 = .ok (.if_icmp .ne 10, 3) := by decide +kernel
theorem dX1_isLine_34 : decode cX1_isLine 34 = .ok (.iload 4, 2) := by decide +kernel
theorem dX1_isLine_36 : decode cX1_isLine 36 = .ok (.iconst 1, 1) := by decide +kernel
theorem dX1_isLine_37 : decode cX1_isLine 37 = .ok (.iadd, 1) := by decide +kernel
theorem dX1_isLine_38 : decode cX1_isLine 38 = .ok (.goto 4, 3) := by decide +kernel
theorem dX1_isLine_41 : decode cX1_isLine 41 = .ok (.iconst 0, 1) := by decide +kernel
theorem dX1_isLine_42 : decode cX1_isLine 42 = .ok (.istore 5, 2) := by decide +kernel
theorem dX1_isLine_44 : decode cX1_isLine 44 = .ok (.iload_n 1, 1) := by decide +kernel
theorem dX1_isLine_45 : decode cX1_isLine 45 = .ok (.iconst 3, 1) := by decide +kernel
theorem dX1_isLine_46 : decode cX1_isLine 46 = .ok (.if_icmp .ne 8, 3) := by decide +kernel
theorem dX1_isLine_49 : decode cX1_isLine 49 = .ok (.iload 4, 2) := by decide +kernel
theorem dX1_isLine_51 : decode cX1_isLine 51 = .ok (.goto 8, 3) := by decide +kernel
theorem dX1_isLine_54 : decode cX1_isLine 54 = .ok (.getstatic 46, 3) := by decide +kernel
theorem dX1_isLine_57 : decode cX1_isLine 57 = .ok (.iload_n 1, 1) := by decide +kernel
theorem dX1_isLine_58 : decode cX1_isLine 58 = .ok (.iaload, 1) := by decide +kernel
theorem dX1_isLine_59 : decode cX1_isLine 59 = .ok (.istore 6, 2) := by decide +kernel
theorem dX1_isLine_61 : decode cX1_isLine 61 = .ok (.iload_n 3, 1) := by decide +kernel
theorem dX1_isLine_62 : decode cX1_isLine 62 = .ok (.iload 5, 2) := by decide +kernel
theorem dX1_isLine_64 : decode cX1_isLine 64 = .ok (.iload 6, 2) := by decide +kernel
theorem dX1_isLine_66 : decode cX1_isLine 66 = .ok (.invokestatic 32, 3) := by decide +kernel
theorem dX1_isLine_69 : decode cX1_isLine 69 = .ok (.ireturn, 1) := by decide +kernel
theorem dX1_lineAt_0 : decode cX1_lineAt 0 = .ok (.aload_n 0, 1) := by decide +kernel
theorem dX1_lineAt_1 : decode cX1_lineAt 1 = .ok (.iload_n 1, 1) := by decide +kernel
theorem dX1_lineAt_2 : decode cX1_lineAt 2 = .ok (.iload_n 2, 1) := by decide +kernel
theorem dX1_lineAt_3 : decode cX1_lineAt 3 = .ok (.invokevirtual 36, 3) := by decide +kernel
theorem dX1_lineAt_6 : decode cX1_lineAt 6 = .ok (.istore 4, 2) := by decide +kernel
theorem dX1_lineAt_8 : decode cX1_lineAt 8 = .ok (.iload 4, 2) := by decide +kernel
theorem dX1_lineAt_10 : decode cX1_lineAt 10 = .ok (.iconst (-1), 1) := by decide +kernel
theorem dX1_lineAt_11 : decode cX1_lineAt 11 = .ok (.if_icmp .eq 26, 3) := by decide +kernel
theorem dX1_lineAt_14 : decode cX1_lineAt 14 = .ok (.iload_n 3, 1) := by decide +kernel
theorem dX1_lineAt_15 : decode cX1_lineAt 15 = .ok (.iconst 0, 1) := by decide +kernel
theorem dX1_lineAt_16 : decode cX1_lineAt 16 = .ok (.aload_n 0, 1) := by decide +kernel
theorem dX1_lineAt_17 : decode cX1_lineAt 17 = .ok (.getfield 9, 3) := by decide +kernel
theorem dX1_lineAt_20 : decode cX1_lineAt 20 = .ok (.iload 4, 2) := by decide +kernel
theorem dX1_lineAt_22 : decode cX1_lineAt 22 = .ok (.iaload, 1) := by decide +kernel
theorem dX1_lineAt_23 : decode cX1_lineAt 23 = .ok (.iconst 1, 1) := by decide +kernel
theorem dX1_lineAt_24 : decode cX1_lineAt 24 = .ok (.isub, 1) := by decide +kernel
theorem dX1_lineAt_25 : decode cX1_lineAt 25 = .ok (.invokestatic 32, 3) := by decide +kernel
theorem dX1_lineAt_28 : decode cX1_lineAt 28 = .ok (.ifCond .eq 9, 3) := by decide +kernel
theorem dX1_lineAt_31 : decode cX1_lineAt 31 = .ok (.iload_n 3, 1) := by decide +kernel
theorem dX1_lineAt_32 : decode cX1_lineAt 32 = .ok (.bipush 12, 2) := by decide +kernel
theorem dX1_lineAt_34 : decode cX1_lineAt 34 = .ok (.if_icmp .lt 5, 3) := by decide +kernel
theorem dX1_lineAt_37 : decode cX1_lineAt 37 = .ok (.iconst (-1), 1) := by decide +kernel
theorem dX1_lineAt_38 : decode cX1_lineAt 38 = .ok (.ireturn, 1) := by decide +kernel
theorem dX1_lineAt_39 : decode cX1_lineAt 39 = .ok (.iload 4, 2) := by decide +kernel
theorem dX1_lineAt_41 : decode cX1_lineAt 41 = .ok (.bipush 12, 2) := by decide +kernel
theorem dX1_lineAt_43 : decode cX1_lineAt 43 = .ok (.imul, 1) := by decide +kernel
theorem dX1_lineAt_44 : decode cX1_lineAt 44 = .ok (.iload_n 3, 1) := by decide +kernel
theorem dX1_lineAt_45 : decode cX1_lineAt 45 = .ok (.iadd, 1) := by decide +kernel
theorem dX1_lineAt_46 : decode cX1_lineAt 46 = .ok (.ireturn, 1) := by decide +kernel
theorem dX1_linesOf_0 : decode cX1_linesOf 0 = .ok (.aload_n 0, 1) := by decide +kernel
theorem dX1_linesOf_1 : decode cX1_linesOf 1 = .ok (.iload_n 1, 1) := by decide +kernel
theorem dX1_linesOf_2 : decode cX1_linesOf 2 = .ok (.iload_n 2, 1) := by decide +kernel
theorem dX1_linesOf_3 : decode cX1_linesOf 3 = .ok (.invokevirtual 36, 3) := by decide +kernel
theorem dX1_linesOf_6 : decode cX1_linesOf 6 = .ok (.istore_n 3, 1) := by decide +kernel
theorem dX1_linesOf_7 : decode cX1_linesOf 7 = .ok (.iload_n 3, 1) := by decide +kernel
theorem dX1_linesOf_8 : decode cX1_linesOf 8 = .ok (.iconst (-1), 1) := by decide +kernel
theorem dX1_linesOf_9 : decode cX1_linesOf 9 = .ok (.if_icmp .ne 7, 3) := by decide +kernel
theorem dX1_linesOf_12 : decode cX1_linesOf 12 = .ok (.iconst 0, 1) := by decide +kernel
theorem dX1_linesOf_13 : decode cX1_linesOf 13 = .ok (.goto 9, 3) := by decide +kernel
theorem dX1_linesOf_16 : decode cX1_linesOf 16 = .ok (.aload_n 0, 1) := by decide +kernel
theorem dX1_linesOf_17 : decode cX1_linesOf 17 = .ok (.getfield 9, 3) := by decide +kernel
theorem dX1_linesOf_20 : decode cX1_linesOf 20 = .ok (.iload_n 3, 1) := by decide +kernel
theorem dX1_linesOf_21 : decode cX1_linesOf 21 = .ok (.iaload, 1) := by decide +kernel
theorem dX1_linesOf_22 : decode cX1_linesOf 22 = .ok (.ireturn, 1) := by decide +kernel
theorem dX1_rowOf_0 : decode cX1_rowOf 0 = .ok (.aload_n 0, 1) := by decide +kernel
theorem dX1_rowOf_1 : decode cX1_rowOf 1 = .ok (.iload_n 1, 1) := by decide +kernel
theorem dX1_rowOf_2 : decode cX1_rowOf 2 = .ok (.invokevirtual 28, 3) := by decide +kernel
theorem dX1_rowOf_5 : decode cX1_rowOf 5 = .ok (.ifCond .eq 12, 3) := by decide +kernel
theorem dX1_rowOf_8 : decode cX1_rowOf 8 = .ok (.iload_n 2, 1) := by decide +kernel
theorem dX1_rowOf_9 : decode cX1_rowOf 9 = .ok (.iconst 0, 1) := by decide +kernel
theorem dX1_rowOf_10 : decode cX1_rowOf 10 = .ok (.iconst 3, 1) := by decide +kernel
theorem dX1_rowOf_11 : decode cX1_rowOf 11 = .ok (.invokestatic 32, 3) := by decide +kernel
theorem dX1_rowOf_14 : decode cX1_rowOf 14 = .ok (.ifCond .ne 5, 3) := by decide +kernel
theorem dX1_rowOf_17 : decode cX1_rowOf 17 = .ok (.iconst (-1), 1) := by decide +kernel
theorem dX1_rowOf_18 : decode cX1_rowOf 18 = .ok (.ireturn, 1) := by decide +kernel
theorem dX1_rowOf_19 : decode cX1_rowOf 19 = .ok (.iload_n 1, 1) := by decide +kernel
theorem dX1_rowOf_20 : decode cX1_rowOf 20 = .ok (.iconst 4, 1) := by decide +kernel
theorem dX1_rowOf_21 : decode cX1_rowOf 21 = .ok (.imul, 1) := by decide +kernel
theorem dX1_rowOf_22 : decode cX1_rowOf 22 = .ok (.iload_n 2, 1) := by decide +kernel
theorem dX1_rowOf_23 : decode cX1_rowOf 23 = .ok (.iadd, 1) := by decide +kernel
theorem dX1_rowOf_24 : decode cX1_rowOf 24 = .ok (.ireturn, 1) := by decide +kernel
theorem dX2_copyFrom_0 : decode cX2_copyFrom 0 = .ok (.aload_n 0, 1) := by decide +kernel
theorem dX2_copyFrom_1 : decode cX2_copyFrom 1 = .ok (.aload_n 1, 1) := by decide +kernel
theorem dX2_copyFrom_2 : decode cX2_copyFrom 2 = .ok (.getfield 9, 3) := by decide +kernel
theorem dX2_copyFrom_5 : decode cX2_copyFrom 5 = .ok (.putfield 9, 3) := by decide +kernel
theorem dX2_copyFrom_8 : decode cX2_copyFrom 8 = .ok (.aload_n 0, 1) := by decide +kernel
theorem dX2_copyFrom_9 : decode cX2_copyFrom 9 = .ok (.aload_n 1, 1) := by decide +kernel
theorem dX2_copyFrom_10 : decode cX2_copyFrom 10 = .ok (.getfield 15, 3) := by decide +kernel
theorem dX2_copyFrom_13 : decode cX2_copyFrom 13 = .ok (.putfield 15, 3) := by decide +kernel
theorem dX2_copyFrom_16 : decode cX2_copyFrom 16 = .ok (.aload_n 0, 1) := by decide +kernel
theorem dX2_copyFrom_17 : decode cX2_copyFrom 17 = .ok (.aload_n 1, 1) := by decide +kernel
theorem dX2_copyFrom_18 : decode cX2_copyFrom 18 = .ok (.getfield 18, 3) := by decide +kernel
theorem dX2_copyFrom_21 : decode cX2_copyFrom 21 = .ok (.putfield 18, 3) := by decide +kernel
theorem dX2_copyFrom_24 : decode cX2_copyFrom 24 = .ok (.aload_n 0, 1) := by decide +kernel
theorem dX2_copyFrom_25 : decode cX2_copyFrom 25 = .ok (.aload_n 1, 1) := by decide +kernel
theorem dX2_copyFrom_26 : decode cX2_copyFrom 26 = .ok (.getfield 21, 3) := by decide +kernel
theorem dX2_copyFrom_29 : decode cX2_copyFrom 29 = .ok (.putfield 21, 3) := by decide +kernel
theorem dX2_copyFrom_32 : decode cX2_copyFrom 32 = .ok (.aload_n 0, 1) := by decide +kernel
theorem dX2_copyFrom_33 : decode cX2_copyFrom 33 = .ok (.aload_n 1, 1) := by decide +kernel
theorem dX2_copyFrom_34 : decode cX2_copyFrom 34 = .ok (.getfield 24, 3) := by decide +kernel
theorem dX2_copyFrom_37 : decode cX2_copyFrom 37 = .ok (.putfield 24, 3) := by decide +kernel
theorem dX2_copyFrom_40 : decode cX2_copyFrom 40 = .ok (.aload_n 0, 1) := by decide +kernel
theorem dX2_copyFrom_41 : decode cX2_copyFrom 41 = .ok (.aload_n 1, 1) := by decide +kernel
theorem dX2_copyFrom_42 : decode cX2_copyFrom 42 = .ok (.getfield 27, 3) := by decide +kernel
theorem dX2_copyFrom_45 : decode cX2_copyFrom 45 = .ok (.putfield 27, 3) := by decide +kernel
theorem dX2_copyFrom_48 : decode cX2_copyFrom 48 = .ok (.aload_n 0, 1) := by decide +kernel
theorem dX2_copyFrom_49 : decode cX2_copyFrom 49 = .ok (.aload_n 1, 1) := by decide +kernel
theorem dX2_copyFrom_50 : decode cX2_copyFrom 50 = .ok (.getfield 66, 3) := by decide +kernel
theorem dX2_copyFrom_53 : decode cX2_copyFrom 53 = .ok (.putfield 66, 3) := by decide +kernel
theorem dX2_copyFrom_56 : decode cX2_copyFrom 56 = .ok (.aload_n 0, 1) := by decide +kernel
theorem dX2_copyFrom_57 : decode cX2_copyFrom 57 = .ok (.aload_n 1, 1) := by decide +kernel
theorem dX2_copyFrom_58 : decode cX2_copyFrom 58 = .ok (.getfield 69, 3) := by decide +kernel
theorem dX2_copyFrom_61 : decode cX2_copyFrom 61 = .ok (.putfield 69, 3) := by decide +kernel
theorem dX2_copyFrom_64 : decode cX2_copyFrom 64 = .ok (.aload_n 0, 1) := by decide +kernel
theorem dX2_copyFrom_65 : decode cX2_copyFrom 65 = .ok (.aload_n 1, 1) := by decide +kernel
theorem dX2_copyFrom_66 : decode cX2_copyFrom 66 = .ok (.getfield 30, 3) := by decide +kernel
theorem dX2_copyFrom_69 : decode cX2_copyFrom 69 = .ok (.putfield 30, 3) := by decide +kernel
theorem dX2_copyFrom_72 : decode cX2_copyFrom 72 = .ok (.aload_n 0, 1) := by decide +kernel
theorem dX2_copyFrom_73 : decode cX2_copyFrom 73 = .ok (.aload_n 1, 1) := by decide +kernel
theorem dX2_copyFrom_74 : decode cX2_copyFrom 74 = .ok (.getfield 33, 3) := by decide +kernel
theorem dX2_copyFrom_77 : decode cX2_copyFrom 77 = .ok (.putfield 33, 3) := by decide +kernel
theorem dX2_copyFrom_80 : decode cX2_copyFrom 80 = .ok (.aload_n 0, 1) := by decide +kernel
theorem dX2_copyFrom_81 : decode cX2_copyFrom 81 = .ok (.aload_n 1, 1) := by decide +kernel
theorem dX2_copyFrom_82 : decode cX2_copyFrom 82 = .ok (.getfield 72, 3) := by decide +kernel
theorem dX2_copyFrom_85 : decode cX2_copyFrom 85 = .ok (.putfield 72, 3) := by decide +kernel
theorem dX2_copyFrom_88 : decode cX2_copyFrom 88 = .ok (.aload_n 0, 1) := by decide +kernel
theorem dX2_copyFrom_89 : decode cX2_copyFrom 89 = .ok (.aload_n 1, 1) := by decide +kernel
theorem dX2_copyFrom_90 : decode cX2_copyFrom 90 = .ok (.getfield 75, 3) := by decide +kernel
theorem dX2_copyFrom_93 : decode cX2_copyFrom 93 = .ok (.putfield 75, 3) := by decide +kernel
theorem dX2_copyFrom_96 : decode cX2_copyFrom 96 = .ok (.aload_n 0, 1) := by decide +kernel
theorem dX2_copyFrom_97 : decode cX2_copyFrom 97 = .ok (.aload_n 1, 1) := by decide +kernel
theorem dX2_copyFrom_98 : decode cX2_copyFrom 98 = .ok (.getfield 79, 3) := by decide +kernel
theorem dX2_copyFrom_101 : decode cX2_copyFrom 101 = .ok (.putfield 79, 3) := by decide +kernel
theorem dX2_copyFrom_104 : decode cX2_copyFrom 104 = .ok (.aload_n 0, 1) := by decide +kernel
theorem dX2_copyFrom_105 : decode cX2_copyFrom 105 = .ok (.aload_n 1, 1) := by decide +kernel
theorem dX2_copyFrom_106 : decode cX2_copyFrom 106 = .ok (.getfield 82, 3) := by decide +kernel
theorem dX2_copyFrom_109 : decode cX2_copyFrom 109 = .ok (.putfield 82, 3) := by decide +kernel
theorem dX2_copyFrom_112 : decode cX2_copyFrom 112 = .ok (.aload_n 1, 1) := by decide +kernel
theorem dX2_copyFrom_113 : decode cX2_copyFrom 113 = .ok (.getfield 36, 3) := by decide +kernel
theorem dX2_copyFrom_116 : decode cX2_copyFrom 116 = .ok (.iconst 0, 1) := by decide +kernel
theorem dX2_copyFrom_117 : decode cX2_copyFrom 117 = .ok (.aload_n 0, 1) := by decide +kernel
theorem dX2_copyFrom_118 : decode cX2_copyFrom 118 = .ok (.getfield 36, 3) := by decide +kernel
theorem dX2_copyFrom_121 : decode cX2_copyFrom 121 = .ok (.iconst 0, 1) := by decide +kernel
theorem dX2_copyFrom_122 : decode cX2_copyFrom 122 = .ok (.iconst 4, 1) := by decide +kernel
theorem dX2_copyFrom_123 : decode cX2_copyFrom 123 = .ok (.invokestatic 85, 3) := by decide +kernel
theorem dX2_copyFrom_126 : decode cX2_copyFrom 126 = .ok (.aload_n 1, 1) := by decide +kernel
theorem dX2_copyFrom_127 : decode cX2_copyFrom 127 = .ok (.getfield 40, 3) := by decide +kernel
theorem dX2_copyFrom_130 : decode cX2_copyFrom 130 = .ok (.iconst 0, 1) := by decide +kernel
theorem dX2_copyFrom_131 : decode cX2_copyFrom 131 = .ok (.aload_n 0, 1) := by decide +kernel
theorem dX2_copyFrom_132 : decode cX2_copyFrom 132 = .ok (.getfield 40, 3) := by decide +kernel
theorem dX2_copyFrom_135 : decode cX2_copyFrom 135 = .ok (.iconst 0, 1) := by decide +kernel
theorem dX2_copyFrom_136 : decode cX2_copyFrom 136 = .ok (.iconst 4, 1) := by decide +kernel
theorem dX2_copyFrom_137 : decode cX2_copyFrom 137 = .ok (.invokestatic 85, 3) := by decide +kernel
theorem dX2_copyFrom_140 : decode cX2_copyFrom 140 = .ok (.aload_n 0, 1) := by decide +kernel
theorem dX2_copyFrom_141 : decode cX2_copyFrom 141 = .ok (.getfield 46, 3) := by decide +kernel
theorem dX2_copyFrom_144 : decode cX2_copyFrom 144 = .ok (.aload_n 1, 1) := by decide +kernel
theorem dX2_copyFrom_145 : decode cX2_copyFrom 145 = .ok (.getfield 46, 3) := by decide +kernel
theorem dX2_copyFrom_148 : decode cX2_copyFrom 148 = .ok (.invokevirtual 91, 3) := by decide +kernel
theorem dX2_copyFrom_151 : decode cX2_copyFrom 151 = .ok (.aload_n 0, 1) := by decide +kernel
theorem dX2_copyFrom_152 : decode cX2_copyFrom 152 = .ok (.getfield 53, 3) := by decide +kernel
theorem dX2_copyFrom_155 : decode cX2_copyFrom 155 = .ok (.aload_n 1, 1) := by decide +kernel
theorem dX2_copyFrom_156 : decode cX2_copyFrom 156 = .ok (.getfield 53, 3) := by decide +kernel
theorem dX2_copyFrom_159 : decode cX2_copyFrom 159 = .ok (.invokevirtual 95, 3) := by decide +kernel
theorem dX2_copyFrom_162 : decode cX2_copyFrom 162 = .ok (.return_, 1) := by decide +kernel
theorem dX2_hold_0 : decode cX2_hold 0 = .ok (.aload_n 0, 1) := by decide +kernel
theorem dX2_hold_1 : decode cX2_hold 1 = .ok (.sipush (-9999), 3) := by decide +kernel
theorem dX2_hold_4 : decode cX2_hold 4 = .ok (.sipush 9999, 3) := by decide +kernel
theorem dX2_hold_7 : decode cX2_hold 7 = .ok (.iload_n 1, 1) := by decide +kernel
theorem dX2_hold_8 : decode cX2_hold 8 = .ok (.invokestatic 102, 3) := by decide +kernel
theorem dX2_hold_11 : decode cX2_hold 11 = .ok (.invokestatic 108, 3) := by decide +kernel
theorem dX2_hold_14 : decode cX2_hold 14 = .ok (.putfield 66, 3) := by decide +kernel
theorem dX2_hold_17 : decode cX2_hold 17 = .ok (.return_, 1) := by decide +kernel
theorem dX2_init_0 : decode cX2_init 0 = .ok (.aload_n 0, 1) := by decide +kernel
theorem dX2_init_1 : decode cX2_init 1 = .ok (.invokespecial 3, 3) := by decide +kernel
theorem dX2_init_4 : decode cX2_init 4 = .ok (.aload_n 0, 1) := by decide +kernel
theorem dX2_init_5 : decode cX2_init 5 = .ok (.iconst (-1), 1) := by decide +kernel
theorem dX2_init_6 : decode cX2_init 6 = .ok (.putfield 9, 3) := by decide +kernel
theorem dX2_init_9 : decode cX2_init 9 = .ok (.aload_n 0, 1) := by decide +kernel
theorem dX2_init_10 : decode cX2_init 10 = .ok (.iconst (-1), 1) := by decide +kernel
theorem dX2_init_11 : decode cX2_init 11 = .ok (.putfield 15, 3) := by decide +kernel
theorem dX2_init_14 : decode cX2_init 14 = .ok (.aload_n 0, 1) := by decide +kernel
theorem dX2_init_15 : decode cX2_init 15 = .ok (.iconst (-1), 1) := by decide +kernel
theorem dX2_init_16 : decode cX2_init 16 = .ok (.putfield 18, 3) := by decide +kernel
theorem dX2_init_19 : decode cX2_init 19 = .ok (.aload_n 0, 1) := by decide +kernel
theorem dX2_init_20 : decode cX2_init 20 = .ok (.iconst (-1), 1) := by decide +kernel
theorem dX2_init_21 : decode cX2_init 21 = .ok (.putfield 21, 3) := by decide +kernel
theorem dX2_init_24 : decode cX2_init 24 = .ok (.aload_n 0, 1) := by decide +kernel
theorem dX2_init_25 : decode cX2_init 25 = .ok (.iconst 1, 1) := by decide +kernel
theorem dX2_init_26 : decode cX2_init 26 = .ok (.putfield 24, 3) := by decide +kernel
theorem dX2_init_29 : decode cX2_init 29 = .ok (.aload_n 0, 1) := by decide +kernel
theorem dX2_init_30 : decode cX2_init 30 = .ok (.iconst (-1), 1) := by decide +kernel
theorem dX2_init_31 : decode cX2_init 31 = .ok (.putfield 27, 3) := by decide +kernel
theorem dX2_init_34 : decode cX2_init 34 = .ok (.aload_n 0, 1) := by decide +kernel
theorem dX2_init_35 : decode cX2_init 35 = .ok (.iconst (-1), 1) := by decide +kernel
theorem dX2_init_36 : decode cX2_init 36 = .ok (.putfield 30, 3) := by decide +kernel
theorem dX2_init_39 : decode cX2_init 39 = .ok (.aload_n 0, 1) := by decide +kernel
theorem dX2_init_40 : decode cX2_init 40 = .ok (.iconst (-1), 1) := by decide +kernel
theorem dX2_init_41 : decode cX2_init 41 = .ok (.putfield 33, 3) := by decide +kernel
theorem dX2_init_44 : decode cX2_init 44 = .ok (.aload_n 0, 1) := by decide +kernel
theorem dX2_init_45 : decode cX2_init 45 = .ok (.iconst 4, 1) := by decide +kernel
theorem dX2_init_46 : decode cX2_init 46 = .ok (.newarray .int, 2) := by decide +kernel
theorem dX2_init_48 : decode cX2_init 48 = .ok (.putfield 36, 3) := by decide +kernel
theorem dX2_init_51 : decode cX2_init 51 = .ok (.aload_n 0, 1) := by decide +kernel
theorem dX2_init_52 : decode cX2_init 52 = .ok (.iconst 4, 1) := by decide +kernel
theorem dX2_init_53 : decode cX2_init 53 = .ok (.newarray .int, 2) := by decide +kernel
theorem dX2_init_55 : decode cX2_init 55 = .ok (.putfield 40, 3) := by decide +kernel
theorem dX2_init_58 : decode cX2_init 58 = .ok (.aload_n 0, 1) := by decide +kernel
theorem dX2_init_59 : decode cX2_init 59 = .ok (.new 43, 3) := by decide +kernel
theorem dX2_init_62 : decode cX2_init 62 = .ok (.dup, 1) := by decide +kernel
theorem dX2_init_63 : decode cX2_init 63 = .ok (.invokespecial 45, 3) := by decide +kernel
theorem dX2_init_66 : decode cX2_init 66 = .ok (.putfield 46, 3) := by decide +kernel
theorem dX2_init_69 : decode cX2_init 69 = .ok (.aload_n 0, 1) := by decide +kernel
theorem dX2_init_70 : decode cX2_init 70 = .ok (.new 50, 3) := by decide +kernel
theorem dX2_init_73 : decode cX2_init 73 = .ok (.dup, 1) := by decide +kernel
theorem dX2_init_74 : decode cX2_init 74 = .ok (.invokespecial 52, 3) := by decide +kernel
theorem dX2_init_77 : decode cX2_init 77 = .ok (.putfield 53, 3) := by decide +kernel
theorem dX2_init_80 : decode cX2_init 80 = .ok (.aload_n 0, 1) := by decide +kernel
theorem dX2_init_81 : decode cX2_init 81 = .ok (.iload_n 1, 1) := by decide +kernel
theorem dX2_init_82 : decode cX2_init 82 = .ok (.putfield 57, 3) := by decide +kernel
theorem dX2_init_85 : decode cX2_init 85 = .ok (.aload_n 0, 1) := by decide +kernel
theorem dX2_init_86 : decode cX2_init 86 = .ok (.getfield 40, 3) := by decide +kernel
theorem dX2_init_89 : decode cX2_init 89 = .ok (.iconst (-1), 1) := by decide +kernel
theorem dX2_init_90 : decode cX2_init 90 = .ok (.invokestatic 60, 3) := by decide +kernel
theorem dX2_init_93 : decode cX2_init 93 = .ok (.return_, 1) := by decide +kernel
theorem dX2_isEmptyPlace_0 : decode cX2_isEmptyPlace 0 = .ok (.aload_n 0, 1) := by decide +kernel
theorem dX2_isEmptyPlace_1 : decode cX2_isEmptyPlace 1 = .ok (.getfield 82, 3) := by decide +kernel
theorem dX2_isEmptyPlace_4 : decode cX2_isEmptyPlace 4 = .ok (.iconst 1, 1) := by decide +kernel
theorem dX2_isEmptyPlace_5 : decode cX2_isEmptyPlace 5 = .ok (.iload_n 1, 1) := by decide +kernel
theorem dX2_isEmptyPlace_6 : decode cX2_isEmptyPlace 6 = .ok (.ishl, 1) := by decide +kernel
theorem dX2_isEmptyPlace_7 : decode cX2_isEmptyPlace 7 = .ok (.iand, 1) := by decide +kernel
theorem dX2_isEmptyPlace_8 : decode cX2_isEmptyPlace 8 = .ok (.ifCond .eq 7, 3) := by decide +kernel
theorem dX2_isEmptyPlace_11 : decode cX2_isEmptyPlace 11 = .ok (.iconst 1, 1) := by decide +kernel
theorem dX2_isEmptyPlace_12 : decode cX2_isEmptyPlace 12 = .ok (.goto 4, 3) := by decide +kernel
theorem dX2_isEmptyPlace_15 : decode cX2_isEmptyPlace 15 = .ok (.iconst 0, 1) := by decide +kernel
theorem dX2_isEmptyPlace_16 : decode cX2_isEmptyPlace 16 = .ok (.ireturn, 1) := by decide +kernel
theorem dX2_isLinkedWith_0 : decode cX2_isLinkedWith 0 = .ok (.aload_n 0, 1) := by decide +kernel
theorem dX2_isLinkedWith_1 : decode cX2_isLinkedWith 1 = .ok (.getfield 79, 3) := by decide +kernel
theorem dX2_isLinkedWith_4 : decode cX2_isLinkedWith 4 = .ok (.iconst 1, 1) := by decide +kernel
theorem dX2_isLinkedWith_5 : decode cX2_isLinkedWith 5 = .ok (.iload_n 1, 1) := by decide +kernel
theorem dX2_isLinkedWith_6 : decode cX2_isLinkedWith 6 = .ok (.ishl, 1) := by decide +kernel
theorem dX2_isLinkedWith_7 : decode cX2_isLinkedWith 7 = .ok (.iand, 1) := by decide +kernel
theorem dX2_isLinkedWith_8 : decode cX2_isLinkedWith 8 = .ok (.ifCond .eq 7, 3) := by decide +kernel
theorem dX2_isLinkedWith_11 : decode cX2_isLinkedWith 11 = .ok (.iconst 1, 1) := by decide +kernel
theorem dX2_isLinkedWith_12 : decode cX2_isLinkedWith 12 = .ok (.goto 4, 3) := by decide +kernel
theorem dX2_isLinkedWith_15 : decode cX2_isLinkedWith 15 = .ok (.iconst 0, 1) := by decide +kernel
theorem dX2_isLinkedWith_16 : decode cX2_isLinkedWith 16 = .ok (.ireturn, 1) := by decide +kernel
theorem dX2_isSupervisor_0 : decode cX2_isSupervisor 0 = .ok (.aload_n 0, 1) := by decide +kernel
theorem dX2_isSupervisor_1 : decode cX2_isSupervisor 1 = .ok (.getfield 18, 3) := by decide +kernel
theorem dX2_isSupervisor_4 : decode cX2_isSupervisor 4 = .ok (.iconst (-1), 1) := by decide +kernel
theorem dX2_isSupervisor_5 : decode cX2_isSupervisor 5 = .ok (.if_icmp .eq 7, 3) := by decide +kernel
theorem dX2_isSupervisor_8 : decode cX2_isSupervisor 8 = .ok (.iconst 1, 1) := by decide +kernel
theorem dX2_isSupervisor_9 : decode cX2_isSupervisor 9 = .ok (.goto 4, 3) := by decide +kernel
theorem dX2_isSupervisor_12 : decode cX2_isSupervisor 12 = .ok (.iconst 0, 1) := by decide +kernel
theorem dX2_isSupervisor_13 : decode cX2_isSupervisor 13 = .ok (.ireturn, 1) := by decide +kernel
theorem dX2_localAt_0 : decode cX2_localAt 0 = .ok (.iload_n 1, 1) := by decide +kernel
theorem dX2_localAt_1 : decode cX2_localAt 1 = .ok (.iconst 0, 1) := by decide +kernel
theorem dX2_localAt_2 : decode cX2_localAt 2 = .ok (.iconst 3, 1) := by decide +kernel
theorem dX2_localAt_3 : decode cX2_localAt 3 = .ok (.invokestatic 98, 3) := by decide +kernel
theorem dX2_localAt_6 : decode cX2_localAt 6 = .ok (.ifCond .eq 12, 3) := by decide +kernel
theorem dX2_localAt_9 : decode cX2_localAt 9 = .ok (.aload_n 0, 1) := by decide +kernel
theorem dX2_localAt_10 : decode cX2_localAt 10 = .ok (.getfield 36, 3) := by decide +kernel
theorem dX2_localAt_13 : decode cX2_localAt 13 = .ok (.iload_n 1, 1) := by decide +kernel
theorem dX2_localAt_14 : decode cX2_localAt 14 = .ok (.iaload, 1) := by decide +kernel
theorem dX2_localAt_15 : decode cX2_localAt 15 = .ok (.goto 4, 3) := by decide +kernel
theorem dX2_localAt_18 : decode cX2_localAt 18 = .ok (.iconst 0, 1) := by decide +kernel
theorem dX2_localAt_19 : decode cX2_localAt 19 = .ok (.ireturn, 1) := by decide +kernel
theorem dX2_placeOf_0 : decode cX2_placeOf 0 = .ok (.iconst 0, 1) := by decide +kernel
theorem dX2_placeOf_1 : decode cX2_placeOf 1 = .ok (.istore_n 2, 1) := by decide +kernel
theorem dX2_placeOf_2 : decode cX2_placeOf 2 = .ok (.iload_n 2, 1) := by decide +kernel
theorem dX2_placeOf_3 : decode cX2_placeOf 3 = .ok (.iconst 4, 1) := by decide +kernel
theorem dX2_placeOf_4 : decode cX2_placeOf 4 = .ok (.if_icmp .ge 21, 3) := by decide +kernel
theorem dX2_placeOf_7 : decode cX2_placeOf 7 = .ok (.aload_n 0, 1) := by decide +kernel
theorem dX2_placeOf_8 : decode cX2_placeOf 8 = .ok (.getfield 40, 3) := by decide +kernel
theorem dX2_placeOf_11 : decode cX2_placeOf 11 = .ok (.iload_n 2, 1) := by decide +kernel
theorem dX2_placeOf_12 : decode cX2_placeOf 12 = .ok (.iaload, 1) := by decide +kernel
theorem dX2_placeOf_13 : decode cX2_placeOf 13 = .ok (.iload_n 1, 1) := by decide +kernel
theorem dX2_placeOf_14 : decode cX2_placeOf 14 = .ok (.if_icmp .ne 5, 3) := by decide +kernel
theorem dX2_placeOf_17 : decode cX2_placeOf 17 = .ok (.iload_n 2, 1) := by decide +kernel
theorem dX2_placeOf_18 : decode cX2_placeOf 18 = .ok (.ireturn, 1) := by decide +kernel
theorem dX2_placeOf_19 : decode cX2_placeOf 19 = .ok (.iinc 2 1, 3) := by decide +kernel
theorem dX2_placeOf_22 : decode cX2_placeOf 22 = .ok (.goto (-20), 3) := by decide +kernel
theorem dX2_placeOf_25 : decode cX2_placeOf 25 = .ok (.iconst (-1), 1) := by decide +kernel
theorem dX2_placeOf_26 : decode cX2_placeOf 26 = .ok (.ireturn, 1) := by decide +kernel
theorem dX2_putLocal_0 : decode cX2_putLocal 0 = .ok (.iload_n 1, 1) := by decide +kernel
theorem dX2_putLocal_1 : decode cX2_putLocal 1 = .ok (.iconst 0, 1) := by decide +kernel
theorem dX2_putLocal_2 : decode cX2_putLocal 2 = .ok (.iconst 3, 1) := by decide +kernel
theorem dX2_putLocal_3 : decode cX2_putLocal 3 = .ok (.invokestatic 98, 3) := by decide +kernel
theorem dX2_putLocal_6 : decode cX2_putLocal 6 = .ok (.ifCond .eq 10, 3) := by decide +kernel
theorem dX2_putLocal_9 : decode cX2_putLocal 9 = .ok (.aload_n 0, 1) := by decide +kernel
theorem dX2_putLocal_10 : decode cX2_putLocal 10 = .ok (.getfield 36, 3) := by decide +kernel
theorem dX2_putLocal_13 : decode cX2_putLocal 13 = .ok (.iload_n 1, 1) := by decide +kernel
theorem dX2_putLocal_14 : decode cX2_putLocal 14 = .ok (.iload_n 2, 1) := by decide +kernel
theorem dX2_putLocal_15 : decode cX2_putLocal 15 = .ok (.iastore, 1) := by decide +kernel
theorem dX2_putLocal_16 : decode cX2_putLocal 16 = .ok (.return_, 1) := by decide +kernel
theorem dX2_resume_0 : decode cX2_resume 0 = .ok (.aload_n 0, 1) := by decide +kernel
theorem dX2_resume_1 : decode cX2_resume 1 = .ok (.getfield 33, 3) := by decide +kernel
theorem dX2_resume_4 : decode cX2_resume 4 = .ok (.iconst (-1), 1) := by decide +kernel
theorem dX2_resume_5 : decode cX2_resume 5 = .ok (.if_icmp .ne 4, 3) := by decide +kernel
theorem dX2_resume_8 : decode cX2_resume 8 = .ok (.return_, 1) := by decide +kernel
theorem dX2_resume_9 : decode cX2_resume 9 = .ok (.aload_n 0, 1) := by decide +kernel
theorem dX2_resume_10 : decode cX2_resume 10 = .ok (.getfield 33, 3) := by decide +kernel
theorem dX2_resume_13 : decode cX2_resume 13 = .ok (.iconst 5, 1) := by decide +kernel
theorem dX2_resume_14 : decode cX2_resume 14 = .ok (.if_icmp .eq 19, 3) := by decide +kernel
theorem dX2_resume_17 : decode cX2_resume 17 = .ok (.aload_n 0, 1) := by decide +kernel
theorem dX2_resume_18 : decode cX2_resume 18 = .ok (.aload_n 0, 1) := by decide +kernel
theorem dX2_resume_19 : decode cX2_resume 19 = .ok (.getfield 33, 3) := by decide +kernel
theorem dX2_resume_22 : decode cX2_resume 22 = .ok (.invokevirtual 122, 3) := by decide +kernel
theorem dX2_resume_25 : decode cX2_resume 25 = .ok (.ifCond .ne 8, 3) := by decide +kernel
theorem dX2_resume_28 : decode cX2_resume 28 = .ok (.aload_n 0, 1) := by decide +kernel
theorem dX2_resume_29 : decode cX2_resume 29 = .ok (.iconst (-1), 1) := by decide +kernel
theorem dX2_resume_30 : decode cX2_resume 30 = .ok (.putfield 66, 3) := by decide +kernel
theorem dX2_resume_33 : decode cX2_resume 33 = .ok (.aload_n 0, 1) := by decide +kernel
theorem dX2_resume_34 : decode cX2_resume 34 = .ok (.iconst (-1), 1) := by decide +kernel
theorem dX2_resume_35 : decode cX2_resume 35 = .ok (.putfield 33, 3) := by decide +kernel
theorem dX2_resume_38 : decode cX2_resume 38 = .ok (.aload_n 0, 1) := by decide +kernel
theorem dX2_resume_39 : decode cX2_resume 39 = .ok (.dup, 1) := by decide +kernel
theorem dX2_resume_40 : decode cX2_resume 40 = .ok (.getfield 69, 3) := by decide +kernel
theorem dX2_resume_43 : decode cX2_resume 43 = .ok (.iconst 1, 1) := by decide +kernel
theorem dX2_resume_44 : decode cX2_resume 44 = .ok (.iadd, 1) := by decide +kernel
theorem dX2_resume_45 : decode cX2_resume 45 = .ok (.putfield 69, 3) := by decide +kernel
theorem dX2_resume_48 : decode cX2_resume 48 = .ok (.return_, 1) := by decide +kernel
theorem dX2_takeMail_0 : decode cX2_takeMail 0 = .ok (.aload_n 0, 1) := by decide +kernel
theorem dX2_takeMail_1 : decode cX2_takeMail 1 = .ok (.getfield 46, 3) := by decide +kernel
theorem dX2_takeMail_4 : decode cX2_takeMail 4 = .ok (.iload_n 1, 1) := by decide +kernel
theorem dX2_takeMail_5 : decode cX2_takeMail 5 = .ok (.invokevirtual 111, 3) := by decide +kernel
theorem dX2_takeMail_8 : decode cX2_takeMail 8 = .ok (.istore_n 2, 1) := by decide +kernel
theorem dX2_takeMail_9 : decode cX2_takeMail 9 = .ok (.iload_n 2, 1) := by decide +kernel
theorem dX2_takeMail_10 : decode cX2_takeMail 10 = .ok (.iconst (-1), 1) := by decide +kernel
theorem dX2_takeMail_11 : decode cX2_takeMail 11 = .ok (.if_icmp .ne 5, 3) := by decide +kernel
theorem dX2_takeMail_14 : decode cX2_takeMail 14 = .ok (.iconst 0, 1) := by decide +kernel
theorem dX2_takeMail_15 : decode cX2_takeMail 15 = .ok (.ireturn, 1) := by decide +kernel
theorem dX2_takeMail_16 : decode cX2_takeMail 16 = .ok (.aload_n 0, 1) := by decide +kernel
theorem dX2_takeMail_17 : decode cX2_takeMail 17 = .ok (.aload_n 0, 1) := by decide +kernel
theorem dX2_takeMail_18 : decode cX2_takeMail 18 = .ok (.getfield 46, 3) := by decide +kernel
theorem dX2_takeMail_21 : decode cX2_takeMail 21 = .ok (.iload_n 2, 1) := by decide +kernel
theorem dX2_takeMail_22 : decode cX2_takeMail 22 = .ok (.invokevirtual 115, 3) := by decide +kernel
theorem dX2_takeMail_25 : decode cX2_takeMail 25 = .ok (.invokevirtual 118, 3) := by decide +kernel
theorem dX2_takeMail_28 : decode cX2_takeMail 28 = .ok (.iconst 1, 1) := by decide +kernel
theorem dX2_takeMail_29 : decode cX2_takeMail 29 = .ok (.ireturn, 1) := by decide +kernel
theorem dX2_waitFor_0 : decode cX2_waitFor 0 = .ok (.aload_n 0, 1) := by decide +kernel
theorem dX2_waitFor_1 : decode cX2_waitFor 1 = .ok (.iconst 1, 1) := by decide +kernel
theorem dX2_waitFor_2 : decode cX2_waitFor 2 = .ok (.putfield 24, 3) := by decide +kernel
theorem dX2_waitFor_5 : decode cX2_waitFor 5 = .ok (.aload_n 0, 1) := by decide +kernel
theorem dX2_waitFor_6 : decode cX2_waitFor 6 = .ok (.iload_n 1, 1) := by decide +kernel
theorem dX2_waitFor_7 : decode cX2_waitFor 7 = .ok (.putfield 33, 3) := by decide +kernel
theorem dX2_waitFor_10 : decode cX2_waitFor 10 = .ok (.aload_n 0, 1) := by decide +kernel
theorem dX2_waitFor_11 : decode cX2_waitFor 11 = .ok (.iload_n 2, 1) := by decide +kernel
theorem dX2_waitFor_12 : decode cX2_waitFor 12 = .ok (.putfield 30, 3) := by decide +kernel
theorem dX2_waitFor_15 : decode cX2_waitFor 15 = .ok (.return_, 1) := by decide +kernel
theorem dX2_waitsForMail_0 : decode cX2_waitsForMail 0 = .ok (.aload_n 0, 1) := by decide +kernel
theorem dX2_waitsForMail_1 : decode cX2_waitsForMail 1 = .ok (.getfield 24, 3) := by decide +kernel
theorem dX2_waitsForMail_4 : decode cX2_waitsForMail 4 = .ok (.iconst 1, 1) := by decide +kernel
theorem dX2_waitsForMail_5 : decode cX2_waitsForMail 5 = .ok (.if_icmp .ne 23, 3) := by decide +kernel
theorem dX2_waitsForMail_8 : decode cX2_waitsForMail 8 = .ok (.aload_n 0, 1) := by decide +kernel
theorem dX2_waitsForMail_9 : decode cX2_waitsForMail 9 = .ok (.getfield 33, 3) := by decide +kernel
theorem dX2_waitsForMail_12 : decode cX2_waitsForMail 12 = .ok (.iload_n 1, 1) := by decide +kernel
theorem dX2_waitsForMail_13 : decode cX2_waitsForMail 13 = .ok (.if_icmp .eq 11, 3) := by decide +kernel
theorem dX2_waitsForMail_16 : decode cX2_waitsForMail 16 = .ok (.aload_n 0, 1) := by decide +kernel
theorem dX2_waitsForMail_17 : decode cX2_waitsForMail 17 = .ok (.getfield 33, 3) := by decide +kernel
theorem dX2_waitsForMail_20 : decode cX2_waitsForMail 20 = .ok (.iconst 4, 1) := by decide +kernel
theorem dX2_waitsForMail_21 : decode cX2_waitsForMail 21 = .ok (.if_icmp .ne 7, 3) := by decide +kernel
theorem dX2_waitsForMail_24 : decode cX2_waitsForMail 24 = .ok (.iconst 1, 1) := by decide +kernel
theorem dX2_waitsForMail_25 : decode cX2_waitsForMail 25 = .ok (.goto 4, 3) := by decide +kernel
theorem dX2_waitsForMail_28 : decode cX2_waitsForMail 28 = .ok (.iconst 0, 1) := by decide +kernel
theorem dX2_waitsForMail_29 : decode cX2_waitsForMail 29 = .ok (.ireturn, 1) := by decide +kernel
theorem dX3_addPlace_0 : decode cX3_addPlace 0 = .ok (.aload_n 0, 1) := by decide +kernel
theorem dX3_addPlace_1 : decode cX3_addPlace 1 = .ok (.iload_n 1, 1) := by decide +kernel
theorem dX3_addPlace_2 : decode cX3_addPlace 2 = .ok (.invokevirtual 38, 3) := by decide +kernel
theorem dX3_addPlace_5 : decode cX3_addPlace 5 = .ok (.ifCond .eq 13, 3) := by decide +kernel
theorem dX3_addPlace_8 : decode cX3_addPlace 8 = .ok (.aload_n 0, 1) := by decide +kernel
theorem dX3_addPlace_9 : decode cX3_addPlace 9 = .ok (.getfield 21, 3) := by decide +kernel
theorem dX3_addPlace_12 : decode cX3_addPlace 12 = .ok (.iload_n 1, 1) := by decide +kernel
theorem dX3_addPlace_13 : decode cX3_addPlace 13 = .ok (.iaload, 1) := by decide +kernel
theorem dX3_addPlace_14 : decode cX3_addPlace 14 = .ok (.iconst 4, 1) := by decide +kernel
theorem dX3_addPlace_15 : decode cX3_addPlace 15 = .ok (.if_icmp .lt 5, 3) := by decide +kernel
theorem dX3_addPlace_18 : decode cX3_addPlace 18 = .ok (.iconst (-1), 1) := by decide +kernel
theorem dX3_addPlace_19 : decode cX3_addPlace 19 = .ok (.ireturn, 1) := by decide +kernel
theorem dX3_addPlace_20 : decode cX3_addPlace 20 = .ok (.aload_n 0, 1) := by decide +kernel
theorem dX3_addPlace_21 : decode cX3_addPlace 21 = .ok (.getfield 21, 3) := by decide +kernel
theorem dX3_addPlace_24 : decode cX3_addPlace 24 = .ok (.iload_n 1, 1) := by decide +kernel
theorem dX3_addPlace_25 : decode cX3_addPlace 25 = .ok (.iaload, 1) := by decide +kernel
theorem dX3_addPlace_26 : decode cX3_addPlace 26 = .ok (.istore 5, 2) := by decide +kernel
theorem dX3_addPlace_28 : decode cX3_addPlace 28 = .ok (.aload_n 0, 1) := by decide +kernel
theorem dX3_addPlace_29 : decode cX3_addPlace 29 = .ok (.getfield 21, 3) := by decide +kernel
theorem dX3_addPlace_32 : decode cX3_addPlace 32 = .ok (.iload_n 1, 1) := by decide +kernel
theorem dX3_addPlace_33 : decode cX3_addPlace 33 = .ok (.iload 5, 2) := by decide +kernel
theorem dX3_addPlace_35 : decode cX3_addPlace 35 = .ok (.iconst 1, 1) := by decide +kernel
theorem dX3_addPlace_36 : decode cX3_addPlace 36 = .ok (.iadd, 1) := by decide +kernel
theorem dX3_addPlace_37 : decode cX3_addPlace 37 = .ok (.iastore, 1) := by decide +kernel
theorem dX3_addPlace_38 : decode cX3_addPlace 38 = .ok (.iload_n 1, 1) := by decide +kernel
theorem dX3_addPlace_39 : decode cX3_addPlace 39 = .ok (.iconst 4, 1) := by decide +kernel
theorem dX3_addPlace_40 : decode cX3_addPlace 40 = .ok (.imul, 1) := by decide +kernel
theorem dX3_addPlace_41 : decode cX3_addPlace 41 = .ok (.iload 5, 2) := by decide +kernel
theorem dX3_addPlace_43 : decode cX3_addPlace 43 = .ok (.iadd, 1) := by decide +kernel
theorem dX3_addPlace_44 : decode cX3_addPlace 44 = .ok (.istore 6, 2) := by decide +kernel
theorem dX3_addPlace_46 : decode cX3_addPlace 46 = .ok (.aload_n 0, 1) := by decide +kernel
theorem dX3_addPlace_47 : decode cX3_addPlace 47 = .ok (.getfield 24, 3) := by decide +kernel
theorem dX3_addPlace_50 : decode cX3_addPlace 50 = .ok (.iload 6, 2) := by decide +kernel
theorem dX3_addPlace_52 : decode cX3_addPlace 52 = .ok (.iload_n 2, 1) := by decide +kernel
theorem dX3_addPlace_53 : decode cX3_addPlace 53 = .ok (.bastore, 1) := by decide +kernel
theorem dX3_addPlace_54 : decode cX3_addPlace 54 = .ok (.aload_n 0, 1) := by decide +kernel
theorem dX3_addPlace_55 : decode cX3_addPlace 55 = .ok (.getfield 28, 3) := by decide +kernel
theorem dX3_addPlace_58 : decode cX3_addPlace 58 = .ok (.iload 6, 2) := by decide +kernel
theorem dX3_addPlace_60 : decode cX3_addPlace 60 = .ok (.iload_n 3, 1) := by decide +kernel
theorem dX3_addPlace_61 : decode cX3_addPlace 61 = .ok (.iastore, 1) := by decide +kernel
theorem dX3_addPlace_62 : decode cX3_addPlace 62 = .ok (.aload_n 0, 1) := by decide +kernel
theorem dX3_addPlace_63 : decode cX3_addPlace 63 = .ok (.getfield 31, 3) := by decide +kernel
theorem dX3_addPlace_66 : decode cX3_addPlace 66 = .ok (.iload 6, 2) := by decide +kernel
theorem dX3_addPlace_68 : decode cX3_addPlace 68 = .ok (.iload 4, 2) := by decide +kernel
theorem dX3_addPlace_70 : decode cX3_addPlace 70 = .ok (.iastore, 1) := by decide +kernel
theorem dX3_addPlace_71 : decode cX3_addPlace 71 = .ok (.iload 5, 2) := by decide +kernel
theorem dX3_addPlace_73 : decode cX3_addPlace 73 = .ok (.ireturn, 1) := by decide +kernel
theorem dX3_addSpec_0 : decode cX3_addSpec 0 = .ok (.aload_n 0, 1) := by decide +kernel
theorem dX3_addSpec_1 : decode cX3_addSpec 1 = .ok (.getfield 34, 3) := by decide +kernel
theorem dX3_addSpec_4 : decode cX3_addSpec 4 = .ok (.iconst 5, 1) := by decide +kernel
theorem dX3_addSpec_5 : decode cX3_addSpec 5 = .ok (.if_icmp .lt 5, 3) := by decide +kernel
theorem dX3_addSpec_8 : decode cX3_addSpec 8 = .ok (.iconst (-1), 1) := by decide +kernel
theorem dX3_addSpec_9 : decode cX3_addSpec 9 = .ok (.ireturn, 1) := by decide +kernel
theorem dX3_addSpec_10 : decode cX3_addSpec 10 = .ok (.aload_n 0, 1) := by decide +kernel
theorem dX3_addSpec_11 : decode cX3_addSpec 11 = .ok (.getfield 34, 3) := by decide +kernel
theorem dX3_addSpec_14 : decode cX3_addSpec 14 = .ok (.istore 4, 2) := by decide +kernel
theorem dX3_addSpec_16 : decode cX3_addSpec 16 = .ok (.aload_n 0, 1) := by decide +kernel
theorem dX3_addSpec_17 : decode cX3_addSpec 17 = .ok (.dup, 1) := by decide +kernel
theorem dX3_addSpec_18 : decode cX3_addSpec 18 = .ok (.getfield 34, 3) := by decide +kernel
theorem dX3_addSpec_21 : decode cX3_addSpec 21 = .ok (.iconst 1, 1) := by decide +kernel
theorem dX3_addSpec_22 : decode cX3_addSpec 22 = .ok (.iadd, 1) := by decide +kernel
theorem dX3_addSpec_23 : decode cX3_addSpec 23 = .ok (.putfield 34, 3) := by decide +kernel
theorem dX3_addSpec_26 : decode cX3_addSpec 26 = .ok (.aload_n 0, 1) := by decide +kernel
theorem dX3_addSpec_27 : decode cX3_addSpec 27 = .ok (.getfield 9, 3) := by decide +kernel
theorem dX3_addSpec_30 : decode cX3_addSpec 30 = .ok (.iload 4, 2) := by decide +kernel
theorem dX3_addSpec_32 : decode cX3_addSpec 32 = .ok (.iload_n 1, 1) := by decide +kernel
theorem dX3_addSpec_33 : decode cX3_addSpec 33 = .ok (.iastore, 1) := by decide +kernel
theorem dX3_addSpec_34 : decode cX3_addSpec 34 = .ok (.aload_n 0, 1) := by decide +kernel
theorem dX3_addSpec_35 : decode cX3_addSpec 35 = .ok (.getfield 15, 3) := by decide +kernel
theorem dX3_addSpec_38 : decode cX3_addSpec 38 = .ok (.iload 4, 2) := by decide +kernel
theorem dX3_addSpec_40 : decode cX3_addSpec 40 = .ok (.iload_n 2, 1) := by decide +kernel
theorem dX3_addSpec_41 : decode cX3_addSpec 41 = .ok (.iastore, 1) := by decide +kernel
theorem dX3_addSpec_42 : decode cX3_addSpec 42 = .ok (.aload_n 0, 1) := by decide +kernel
theorem dX3_addSpec_43 : decode cX3_addSpec 43 = .ok (.getfield 18, 3) := by decide +kernel
theorem dX3_addSpec_46 : decode cX3_addSpec 46 = .ok (.iload 4, 2) := by decide +kernel
theorem dX3_addSpec_48 : decode cX3_addSpec 48 = .ok (.iload_n 3, 1) := by decide +kernel
theorem dX3_addSpec_49 : decode cX3_addSpec 49 = .ok (.iastore, 1) := by decide +kernel
theorem dX3_addSpec_50 : decode cX3_addSpec 50 = .ok (.iload 4, 2) := by decide +kernel
theorem dX3_addSpec_52 : decode cX3_addSpec 52 = .ok (.ireturn, 1) := by decide +kernel
theorem dX3_hasSpec_0 : decode cX3_hasSpec 0 = .ok (.iload_n 1, 1) := by decide +kernel
theorem dX3_hasSpec_1 : decode cX3_hasSpec 1 = .ok (.ifCond .lt 20, 3) := by decide +kernel
theorem dX3_hasSpec_4 : decode cX3_hasSpec 4 = .ok (.iload_n 1, 1) := by decide +kernel
theorem dX3_hasSpec_5 : decode cX3_hasSpec 5 = .ok (.aload_n 0, 1) := by decide +kernel
theorem dX3_hasSpec_6 : decode cX3_hasSpec 6 = .ok (.getfield 34, 3) := by decide +kernel
theorem dX3_hasSpec_9 : decode cX3_hasSpec 9 = .ok (.if_icmp .ge 12, 3) := by decide +kernel
theorem dX3_hasSpec_12 : decode cX3_hasSpec 12 = .ok (.iload_n 1, 1) := by decide +kernel
theorem dX3_hasSpec_13 : decode cX3_hasSpec 13 = .ok (.iconst 5, 1) := by decide +kernel
theorem dX3_hasSpec_14 : decode cX3_hasSpec 14 = .ok (.if_icmp .ge 7, 3) := by decide +kernel
theorem dX3_hasSpec_17 : decode cX3_hasSpec 17 = .ok (.iconst 1, 1) := by decide +kernel
theorem dX3_hasSpec_18 : decode cX3_hasSpec 18 = .ok (.goto 4, 3) := by decide +kernel
theorem dX3_hasSpec_21 : decode cX3_hasSpec 21 = .ok (.iconst 0, 1) := by decide +kernel
theorem dX3_hasSpec_22 : decode cX3_hasSpec 22 = .ok (.ireturn, 1) := by decide +kernel
theorem dX3_init_0 : decode cX3_init 0 = .ok (.aload_n 0, 1) := by decide +kernel
theorem dX3_init_1 : decode cX3_init 1 = .ok (.invokespecial 3, 3) := by decide +kernel
theorem dX3_init_4 : decode cX3_init 4 = .ok (.aload_n 0, 1) := by decide +kernel
theorem dX3_init_5 : decode cX3_init 5 = .ok (.iconst 5, 1) := by decide +kernel
theorem dX3_init_6 : decode cX3_init 6 = .ok (.newarray .int, 2) := by decide +kernel
theorem dX3_init_8 : decode cX3_init 8 = .ok (.putfield 9, 3) := by decide +kernel
theorem dX3_init_11 : decode cX3_init 11 = .ok (.aload_n 0, 1) := by decide +kernel
theorem dX3_init_12 : decode cX3_init 12 = .ok (.iconst 5, 1) := by decide +kernel
theorem dX3_init_13 : decode cX3_init 13 = .ok (.newarray .int, 2) := by decide +kernel
theorem dX3_init_15 : decode cX3_init 15 = .ok (.putfield 15, 3) := by decide +kernel
theorem dX3_init_18 : decode cX3_init 18 = .ok (.aload_n 0, 1) := by decide +kernel
theorem dX3_init_19 : decode cX3_init 19 = .ok (.iconst 5, 1) := by decide +kernel
theorem dX3_init_20 : decode cX3_init 20 = .ok (.newarray .int, 2) := by decide +kernel
theorem dX3_init_22 : decode cX3_init 22 = .ok (.putfield 18, 3) := by decide +kernel
theorem dX3_init_25 : decode cX3_init 25 = .ok (.aload_n 0, 1) := by decide +kernel
theorem dX3_init_26 : decode cX3_init 26 = .ok (.iconst 5, 1) := by decide +kernel
theorem dX3_init_27 : decode cX3_init 27 = .ok (.newarray .int, 2) := by decide +kernel
theorem dX3_init_29 : decode cX3_init 29 = .ok (.putfield 21, 3) := by decide +kernel
theorem dX3_init_32 : decode cX3_init 32 = .ok (.aload_n 0, 1) := by decide +kernel
theorem dX3_init_33 : decode cX3_init 33 = .ok (.bipush 20, 2) := by decide +kernel
theorem dX3_init_35 : decode cX3_init 35 = .ok (.newarray .boolean, 2) := by decide +kernel
theorem dX3_init_37 : decode cX3_init 37 = .ok (.putfield 24, 3) := by decide +kernel
theorem dX3_init_40 : decode cX3_init 40 = .ok (.aload_n 0, 1) := by decide +kernel
theorem dX3_init_41 : decode cX3_init 41 = .ok (.bipush 20, 2) := by decide +kernel
theorem dX3_init_43 : decode cX3_init 43 = .ok (.newarray .int, 2) := by decide +kernel
theorem dX3_init_45 : decode cX3_init 45 = .ok (.putfield 28, 3) := by decide +kernel
theorem dX3_init_48 : decode cX3_init 48 = .ok (.aload_n 0, 1) := by decide +kernel
theorem dX3_init_49 : decode cX3_init 49 = .ok (.bipush 20, 2) := by decide +kernel
theorem dX3_init_51 : decode cX3_init 51 = .ok (.newarray .int, 2) := by decide +kernel
theorem dX3_init_53 : decode cX3_init 53 = .ok (.putfield 31, 3) := by decide +kernel
theorem dX3_init_56 : decode cX3_init 56 = .ok (.return_, 1) := by decide +kernel
theorem dX3_placeAt_0 : decode cX3_placeAt 0 = .ok (.iload_n 1, 1) := by decide +kernel
theorem dX3_placeAt_1 : decode cX3_placeAt 1 = .ok (.ifCond .lt 16, 3) := by decide +kernel
theorem dX3_placeAt_4 : decode cX3_placeAt 4 = .ok (.iload_n 1, 1) := by decide +kernel
theorem dX3_placeAt_5 : decode cX3_placeAt 5 = .ok (.aload_n 0, 1) := by decide +kernel
theorem dX3_placeAt_6 : decode cX3_placeAt 6 = .ok (.getfield 34, 3) := by decide +kernel
theorem dX3_placeAt_9 : decode cX3_placeAt 9 = .ok (.if_icmp .ge 8, 3) := by decide +kernel
theorem dX3_placeAt_12 : decode cX3_placeAt 12 = .ok (.iload_n 1, 1) := by decide +kernel
theorem dX3_placeAt_13 : decode cX3_placeAt 13 = .ok (.iconst 5, 1) := by decide +kernel
theorem dX3_placeAt_14 : decode cX3_placeAt 14 = .ok (.if_icmp .lt 5, 3) := by decide +kernel
theorem dX3_placeAt_17 : decode cX3_placeAt 17 = .ok (.iconst (-1), 1) := by decide +kernel
theorem dX3_placeAt_18 : decode cX3_placeAt 18 = .ok (.ireturn, 1) := by decide +kernel
theorem dX3_placeAt_19 : decode cX3_placeAt 19 = .ok (.iload_n 2, 1) := by decide +kernel
theorem dX3_placeAt_20 : decode cX3_placeAt 20 = .ok (.ifCond .lt 18, 3) := by decide +kernel
theorem dX3_placeAt_23 : decode cX3_placeAt 23 = .ok (.iload_n 2, 1) := by decide +kernel
theorem dX3_placeAt_24 : decode cX3_placeAt 24 = .ok (.aload_n 0, 1) := by decide +kernel
theorem dX3_placeAt_25 : decode cX3_placeAt 25 = .ok (.getfield 21, 3) := by decide +kernel
theorem dX3_placeAt_28 : decode cX3_placeAt 28 = .ok (.iload_n 1, 1) := by decide +kernel
theorem dX3_placeAt_29 : decode cX3_placeAt 29 = .ok (.iaload, 1) := by decide +kernel
theorem dX3_placeAt_30 : decode cX3_placeAt 30 = .ok (.if_icmp .ge 8, 3) := by decide +kernel
theorem dX3_placeAt_33 : decode cX3_placeAt 33 = .ok (.iload_n 2, 1) := by decide +kernel
theorem dX3_placeAt_34 : decode cX3_placeAt 34 = .ok (.iconst 4, 1) := by decide +kernel
theorem dX3_placeAt_35 : decode cX3_placeAt 35 = .ok (.if_icmp .lt 5, 3) := by decide +kernel
theorem dX3_placeAt_38 : decode cX3_placeAt 38 = .ok (.iconst (-1), 1) := by decide +kernel
theorem dX3_placeAt_39 : decode cX3_placeAt 39 = .ok (.ireturn, 1) := by decide +kernel
theorem dX3_placeAt_40 : decode cX3_placeAt 40 = .ok (.iload_n 1, 1) := by decide +kernel
theorem dX3_placeAt_41 : decode cX3_placeAt 41 = .ok (.iconst 4, 1) := by decide +kernel
theorem dX3_placeAt_42 : decode cX3_placeAt 42 = .ok (.imul, 1) := by decide +kernel
theorem dX3_placeAt_43 : decode cX3_placeAt 43 = .ok (.iload_n 2, 1) := by decide +kernel
theorem dX3_placeAt_44 : decode cX3_placeAt 44 = .ok (.iadd, 1) := by decide +kernel
theorem dX3_placeAt_45 : decode cX3_placeAt 45 = .ok (.ireturn, 1) := by decide +kernel
theorem dX3_placesOf_0 : decode cX3_placesOf 0 = .ok (.aload_n 0, 1) := by decide +kernel
theorem dX3_placesOf_1 : decode cX3_placesOf 1 = .ok (.iload_n 1, 1) := by decide +kernel
theorem dX3_placesOf_2 : decode cX3_placesOf 2 = .ok (.invokevirtual 38, 3) := by decide +kernel
theorem dX3_placesOf_5 : decode cX3_placesOf 5 = .ok (.ifCond .eq 12, 3) := by decide +kernel
theorem dX3_placesOf_8 : decode cX3_placesOf 8 = .ok (.aload_n 0, 1) := by decide +kernel
theorem dX3_placesOf_9 : decode cX3_placesOf 9 = .ok (.getfield 21, 3) := by decide +kernel
theorem dX3_placesOf_12 : decode cX3_placesOf 12 = .ok (.iload_n 1, 1) := by decide +kernel
theorem dX3_placesOf_13 : decode cX3_placesOf 13 = .ok (.iaload, 1) := by decide +kernel
theorem dX3_placesOf_14 : decode cX3_placesOf 14 = .ok (.goto 4, 3) := by decide +kernel
theorem dX3_placesOf_17 : decode cX3_placesOf 17 = .ok (.iconst 0, 1) := by decide +kernel
theorem dX3_placesOf_18 : decode cX3_placesOf 18 = .ok (.ireturn, 1) := by decide +kernel
theorem dX4_add_0 : decode cX4_add 0 = .ok (.iconst 0, 1) := by decide +kernel
theorem dX4_add_1 : decode cX4_add 1 = .ok (.istore_n 2, 1) := by decide +kernel
theorem dX4_add_2 : decode cX4_add 2 = .ok (.iload_n 2, 1) := by decide +kernel
theorem dX4_add_3 : decode cX4_add 3 = .ok (.aload_n 0, 1) := by decide +kernel
theorem dX4_add_4 : decode cX4_add 4 = .ok (.getfield 18, 3) := by decide +kernel
theorem dX4_add_7 : decode cX4_add 7 = .ok (.if_icmp .ge 36, 3) := by decide +kernel
theorem dX4_add_10 : decode cX4_add 10 = .ok (.iload_n 2, 1) := by decide +kernel
theorem dX4_add_11 : decode cX4_add 11 = .ok (.bipush 24, 2) := by decide +kernel
theorem dX4_add_13 : decode cX4_add 13 = .ok (.if_icmp .ge 30, 3) := by decide +kernel
theorem dX4_add_16 : decode cX4_add 16 = .ok (.aload_n 0, 1) := by decide +kernel
theorem dX4_add_17 : decode cX4_add 17 = .ok (.getfield 9, 3) := by decide +kernel
theorem dX4_add_20 : decode cX4_add 20 = .ok (.iload_n 2, 1) := by decide +kernel
theorem dX4_add_21 : decode cX4_add 21 = .ok (.iaload, 1) := by decide +kernel
theorem dX4_add_22 : decode cX4_add 22 = .ok (.iload_n 1, 1) := by decide +kernel
theorem dX4_add_23 : decode cX4_add 23 = .ok (.if_icmp .ne 14, 3) := by decide +kernel
theorem dX4_add_26 : decode cX4_add 26 = .ok (.aload_n 0, 1) := by decide +kernel
theorem dX4_add_27 : decode cX4_add 27 = .ok (.getfield 15, 3) := by decide +kernel
theorem dX4_add_30 : decode cX4_add 30 = .ok (.iload_n 2, 1) := by decide +kernel
theorem dX4_add_31 : decode cX4_add 31 = .ok (.dup2, 1) := by decide +kernel
theorem dX4_add_32 : decode cX4_add 32 = .ok (.iaload, 1) := by decide +kernel
theorem dX4_add_33 : decode cX4_add 33 = .ok (.iconst 1, 1) := by decide +kernel
theorem dX4_add_34 : decode cX4_add 34 = .ok (.iadd, 1) := by decide +kernel
theorem dX4_add_35 : decode cX4_add 35 = .ok (.iastore, 1) := by decide +kernel
theorem dX4_add_36 : decode cX4_add 36 = .ok (.return_, 1) := by decide +kernel
theorem dX4_add_37 : decode cX4_add 37 = .ok (.iinc 2 1, 3) := by decide +kernel
theorem dX4_add_40 : decode cX4_add 40 = .ok (.goto (-38), 3) := by decide +kernel
theorem dX4_add_43 : decode cX4_add 43 = .ok (.aload_n 0, 1) := by decide +kernel
theorem dX4_add_44 : decode cX4_add 44 = .ok (.getfield 18, 3) := by decide +kernel
theorem dX4_add_47 : decode cX4_add 47 = .ok (.bipush 24, 2) := by decide +kernel
theorem dX4_add_49 : decode cX4_add 49 = .ok (.if_icmp .ge 33, 3) := by decide +kernel
theorem dX4_add_52 : decode cX4_add 52 = .ok (.aload_n 0, 1) := by decide +kernel
theorem dX4_add_53 : decode cX4_add 53 = .ok (.getfield 9, 3) := by decide +kernel
theorem dX4_add_56 : decode cX4_add 56 = .ok (.aload_n 0, 1) := by decide +kernel
theorem dX4_add_57 : decode cX4_add 57 = .ok (.getfield 18, 3) := by decide +kernel
theorem dX4_add_60 : decode cX4_add 60 = .ok (.iload_n 1, 1) := by decide +kernel
theorem dX4_add_61 : decode cX4_add 61 = .ok (.iastore, 1) := by decide +kernel
theorem dX4_add_62 : decode cX4_add 62 = .ok (.aload_n 0, 1) := by decide +kernel
theorem dX4_add_63 : decode cX4_add 63 = .ok (.getfield 15, 3) := by decide +kernel
theorem dX4_add_66 : decode cX4_add 66 = .ok (.aload_n 0, 1) := by decide +kernel
theorem dX4_add_67 : decode cX4_add 67 = .ok (.getfield 18, 3) := by decide +kernel
theorem dX4_add_70 : decode cX4_add 70 = .ok (.iconst 1, 1) := by decide +kernel
theorem dX4_add_71 : decode cX4_add 71 = .ok (.iastore, 1) := by decide +kernel
theorem dX4_add_72 : decode cX4_add 72 = .ok (.aload_n 0, 1) := by decide +kernel
theorem dX4_add_73 : decode cX4_add 73 = .ok (.dup, 1) := by decide +kernel
theorem dX4_add_74 : decode cX4_add 74 = .ok (.getfield 18, 3) := by decide +kernel
theorem dX4_add_77 : decode cX4_add 77 = .ok (.iconst 1, 1) := by decide +kernel
theorem dX4_add_78 : decode cX4_add 78 = .ok (.iadd, 1) := by decide +kernel
theorem dX4_add_79 : decode cX4_add 79 = .ok (.putfield 18, 3) := by decide +kernel
theorem dX4_add_82 : decode cX4_add 82 = .ok (.return_, 1) := by decide +kernel
theorem dX4_copyFrom_0 : decode cX4_copyFrom 0 = .ok (.aload_n 1, 1) := by decide +kernel
theorem dX4_copyFrom_1 : decode cX4_copyFrom 1 = .ok (.getfield 9, 3) := by decide +kernel
theorem dX4_copyFrom_4 : decode cX4_copyFrom 4 = .ok (.iconst 0, 1) := by decide +kernel
theorem dX4_copyFrom_5 : decode cX4_copyFrom 5 = .ok (.aload_n 0, 1) := by decide +kernel
theorem dX4_copyFrom_6 : decode cX4_copyFrom 6 = .ok (.getfield 9, 3) := by decide +kernel
theorem dX4_copyFrom_9 : decode cX4_copyFrom 9 = .ok (.iconst 0, 1) := by decide +kernel
theorem dX4_copyFrom_10 : decode cX4_copyFrom 10 = .ok (.bipush 24, 2) := by decide +kernel
theorem dX4_copyFrom_12 : decode cX4_copyFrom 12 = .ok (.invokestatic 22, 3) := by decide +kernel
theorem dX4_copyFrom_15 : decode cX4_copyFrom 15 = .ok (.aload_n 1, 1) := by decide +kernel
theorem dX4_copyFrom_16 : decode cX4_copyFrom 16 = .ok (.getfield 15, 3) := by decide +kernel
theorem dX4_copyFrom_19 : decode cX4_copyFrom 19 = .ok (.iconst 0, 1) := by decide +kernel
theorem dX4_copyFrom_20 : decode cX4_copyFrom 20 = .ok (.aload_n 0, 1) := by decide +kernel
theorem dX4_copyFrom_21 : decode cX4_copyFrom 21 = .ok (.getfield 15, 3) := by decide +kernel
theorem dX4_copyFrom_24 : decode cX4_copyFrom 24 = .ok (.iconst 0, 1) := by decide +kernel
theorem dX4_copyFrom_25 : decode cX4_copyFrom 25 = .ok (.bipush 24, 2) := by decide +kernel
theorem dX4_copyFrom_27 : decode cX4_copyFrom 27 = .ok (.invokestatic 22, 3) := by decide +kernel
theorem dX4_copyFrom_30 : decode cX4_copyFrom 30 = .ok (.aload_n 0, 1) := by decide +kernel
theorem dX4_copyFrom_31 : decode cX4_copyFrom 31 = .ok (.aload_n 1, 1) := by decide +kernel
theorem dX4_copyFrom_32 : decode cX4_copyFrom 32 = .ok (.getfield 18, 3) := by decide +kernel
theorem dX4_copyFrom_35 : decode cX4_copyFrom 35 = .ok (.putfield 18, 3) := by decide +kernel
theorem dX4_copyFrom_38 : decode cX4_copyFrom 38 = .ok (.return_, 1) := by decide +kernel
theorem dX4_init_0 : decode cX4_init 0 = .ok (.aload_n 0, 1) := by decide +kernel
theorem dX4_init_1 : decode cX4_init 1 = .ok (.invokespecial 3, 3) := by decide +kernel
theorem dX4_init_4 : decode cX4_init 4 = .ok (.aload_n 0, 1) := by decide +kernel
theorem dX4_init_5 : decode cX4_init 5 = .ok (.bipush 24, 2) := by decide +kernel
theorem dX4_init_7 : decode cX4_init 7 = .ok (.newarray .int, 2) := by decide +kernel
theorem dX4_init_9 : decode cX4_init 9 = .ok (.putfield 9, 3) := by decide +kernel
theorem dX4_init_12 : decode cX4_init 12 = .ok (.aload_n 0, 1) := by decide +kernel
theorem dX4_init_13 : decode cX4_init 13 = .ok (.bipush 24, 2) := by decide +kernel
theorem dX4_init_15 : decode cX4_init 15 = .ok (.newarray .int, 2) := by decide +kernel
theorem dX4_init_17 : decode cX4_init 17 = .ok (.putfield 15, 3) := by decide +kernel
theorem dX4_init_20 : decode cX4_init 20 = .ok (.return_, 1) := by decide +kernel
theorem dX5_callName_0 : decode cX5_callName 0 = .ok (.aload_n 0, 1) := by decide +kernel
theorem dX5_callName_1 : decode cX5_callName 1 = .ok (.iload_n 2, 1) := by decide +kernel
theorem dX5_callName_2 : decode cX5_callName 2 = .ok (.invokevirtual 345, 3) := by decide +kernel
theorem dX5_callName_5 : decode cX5_callName 5 = .ok (.istore 4, 2) := by decide +kernel
theorem dX5_callName_7 : decode cX5_callName 7 = .ok (.iload 4, 2) := by decide +kernel
theorem dX5_callName_9 : decode cX5_callName 9 = .ok (.iconst (-1), 1) := by decide +kernel
theorem dX5_callName_10 : decode cX5_callName 10 = .ok (.if_icmp .ne 13, 3) := by decide +kernel
theorem dX5_callName_13 : decode cX5_callName 13 = .ok (.aload_n 0, 1) := by decide +kernel
theorem dX5_callName_14 : decode cX5_callName 14 = .ok (.aload_n 1, 1) := by decide +kernel
theorem dX5_callName_15 : decode cX5_callName 15 = .ok (.bipush 6, 2) := by decide +kernel
theorem dX5_callName_17 : decode cX5_callName 17 = .ok (.invokevirtual 156, 3) := by decide +kernel
theorem dX5_callName_20 : decode cX5_callName 20 = .ok (.goto 15, 3) := by decide +kernel
theorem dX5_callName_23 : decode cX5_callName 23 = .ok (.aload_n 0, 1) := by decide +kernel
theorem dX5_callName_24 : decode cX5_callName 24 = .ok (.iload 4, 2) := by decide +kernel
theorem dX5_callName_26 : decode cX5_callName 26 = .ok (.iload_n 3, 1) := by decide +kernel
theorem dX5_callName_27 : decode cX5_callName 27 = .ok (.aload_n 1, 1) := by decide +kernel
theorem dX5_callName_28 : decode cX5_callName 28 = .ok (.getfield 307, 3) := by decide +kernel
theorem dX5_callName_31 : decode cX5_callName 31 = .ok (.invokevirtual 198, 3) := by decide +kernel
theorem dX5_callName_34 : decode cX5_callName 34 = .ok (.pop, 1) := by decide +kernel
theorem dX5_callName_35 : decode cX5_callName 35 = .ok (.return_, 1) := by decide +kernel
theorem dX5_comesFromOutside_0 : decode cX5_comesFromOutside 0 = .ok (.aload_n 0, 1) := by decide +kernel
theorem dX5_comesFromOutside_1 : decode cX5_comesFromOutside 1 = .ok (.iload_n 1, 1) := by decide +kernel
theorem dX5_comesFromOutside_2 : decode cX5_comesFromOutside 2 = .ok (.iconst (-1), 1) := by decide +kernel
theorem dX5_comesFromOutside_3 : decode cX5_comesFromOutside 3 = .ok (.invokevirtual 149, 3) := by decide +kernel
theorem dX5_comesFromOutside_6 : decode cX5_comesFromOutside 6 = .ok (.astore_n 2, 1) := by decide +kernel
theorem dX5_comesFromOutside_7 : decode cX5_comesFromOutside 7 = .ok (.aload_n 2, 1) := by decide +kernel
theorem dX5_comesFromOutside_8 : decode cX5_comesFromOutside 8 = .ok (.ifnonnull 5, 3) := by decide +kernel
theorem dX5_comesFromOutside_11 : decode cX5_comesFromOutside 11 = .ok (.iconst (-1), 1) := by decide +kernel
theorem dX5_comesFromOutside_12 : decode cX5_comesFromOutside 12 = .ok (.ireturn, 1) := by decide +kernel
theorem dX5_comesFromOutside_13 : decode cX5_comesFromOutside 13 = .ok (.aload_n 0, 1) := by decide +kernel
theorem dX5_comesFromOutside_14 : decode cX5_comesFromOutside 14 = .ok (.aload_n 2, 1) := by decide +kernel
theorem dX5_comesFromOutside_15 : decode cX5_comesFromOutside 15 = .ok (.iconst 0, 1) := by decide +kernel
theorem dX5_comesFromOutside_16 : decode cX5_comesFromOutside 16 = .ok (.iconst 4, 1) := by decide +kernel
theorem dX5_comesFromOutside_17 : decode cX5_comesFromOutside 17 = .ok (.iconst 0, 1) := by decide +kernel
theorem dX5_comesFromOutside_18 : decode cX5_comesFromOutside 18 = .ok (.invokestatic 163, 3) := by decide +kernel
theorem dX5_comesFromOutside_21 : decode cX5_comesFromOutside 21 = .ok (.aload_n 0, 1) := by decide +kernel
theorem dX5_comesFromOutside_22 : decode cX5_comesFromOutside 22 = .ok (.invokevirtual 167, 3) := by decide +kernel
theorem dX5_comesFromOutside_25 : decode cX5_comesFromOutside 25 = .ok (.aload_n 2, 1) := by decide +kernel
theorem dX5_comesFromOutside_26 : decode cX5_comesFromOutside 26 = .ok (.getfield 146, 3) := by decide +kernel
theorem dX5_comesFromOutside_29 : decode cX5_comesFromOutside 29 = .ok (.ireturn, 1) := by decide +kernel
theorem dX5_comesOfModule_0 : decode cX5_comesOfModule 0 = .ok (.iload_n 1, 1) := by decide +kernel
theorem dX5_comesOfModule_1 : decode cX5_comesOfModule 1 = .ok (.ifCond .lt 28, 3) := by decide +kernel
theorem dX5_comesOfModule_4 : decode cX5_comesOfModule 4 = .ok (.iload_n 1, 1) := by decide +kernel
theorem dX5_comesOfModule_5 : decode cX5_comesOfModule 5 = .ok (.aload_n 0, 1) := by decide +kernel
theorem dX5_comesOfModule_6 : decode cX5_comesOfModule 6 = .ok (.getfield 33, 3) := by decide +kernel
theorem dX5_comesOfModule_9 : decode cX5_comesOfModule 9 = .ok (.getfield 107, 3) := by decide +kernel
theorem dX5_comesOfModule_12 : decode cX5_comesOfModule 12 = .ok (.if_icmp .ge 17, 3) := by decide +kernel
theorem dX5_comesOfModule_15 : decode cX5_comesOfModule 15 = .ok (.iload_n 1, 1) := by decide +kernel
theorem dX5_comesOfModule_16 : decode cX5_comesOfModule 16 = .ok (.iconst 4, 1) := by decide +kernel
theorem dX5_comesOfModule_17 : decode cX5_comesOfModule 17 = .ok (.if_icmp .ge 12, 3) := by decide +kernel
theorem dX5_comesOfModule_20 : decode cX5_comesOfModule 20 = .ok (.aload_n 0, 1) := by decide +kernel
theorem dX5_comesOfModule_21 : decode cX5_comesOfModule 21 = .ok (.getfield 56, 3) := by decide +kernel
theorem dX5_comesOfModule_24 : decode cX5_comesOfModule 24 = .ok (.bipush 24, 2) := by decide +kernel
theorem dX5_comesOfModule_26 : decode cX5_comesOfModule 26 = .ok (.if_icmp .lt 5, 3) := by decide +kernel
theorem dX5_comesOfModule_29 : decode cX5_comesOfModule 29 = .ok (.aconst_null, 1) := by decide +kernel
theorem dX5_comesOfModule_30 : decode cX5_comesOfModule 30 = .ok (.areturn, 1) := by decide +kernel
theorem dX5_comesOfModule_31 : decode cX5_comesOfModule 31 = .ok (.aload_n 0, 1) := by decide +kernel
theorem dX5_comesOfModule_32 : decode cX5_comesOfModule 32 = .ok (.getfield 20, 3) := by decide +kernel
theorem dX5_comesOfModule_35 : decode cX5_comesOfModule 35 = .ok (.aload_n 0, 1) := by decide +kernel
theorem dX5_comesOfModule_36 : decode cX5_comesOfModule 36 = .ok (.getfield 56, 3) := by decide +kernel
theorem dX5_comesOfModule_39 : decode cX5_comesOfModule 39 = .ok (.aaload, 1) := by decide +kernel
theorem dX5_comesOfModule_40 : decode cX5_comesOfModule 40 = .ok (.astore_n 3, 1) := by decide +kernel
theorem dX5_comesOfModule_41 : decode cX5_comesOfModule 41 = .ok (.aload_n 0, 1) := by decide +kernel
theorem dX5_comesOfModule_42 : decode cX5_comesOfModule 42 = .ok (.dup, 1) := by decide +kernel
theorem dX5_comesOfModule_43 : decode cX5_comesOfModule 43 = .ok (.getfield 56, 3) := by decide +kernel
theorem dX5_comesOfModule_46 : decode cX5_comesOfModule 46 = .ok (.iconst 1, 1) := by decide +kernel
theorem dX5_comesOfModule_47 : decode cX5_comesOfModule 47 = .ok (.iadd, 1) := by decide +kernel
theorem dX5_comesOfModule_48 : decode cX5_comesOfModule 48 = .ok (.putfield 56, 3) := by decide +kernel
theorem dX5_comesOfModule_51 : decode cX5_comesOfModule 51 = .ok (.aload_n 3, 1) := by decide +kernel
theorem dX5_comesOfModule_52 : decode cX5_comesOfModule 52 = .ok (.iload_n 1, 1) := by decide +kernel
theorem dX5_comesOfModule_53 : decode cX5_comesOfModule 53 = .ok (.putfield 110, 3) := by decide +kernel
theorem dX5_comesOfModule_56 : decode cX5_comesOfModule 56 = .ok (.aload_n 3, 1) := by decide +kernel
theorem dX5_comesOfModule_57 : decode cX5_comesOfModule 57 = .ok (.aload_n 0, 1) := by decide +kernel
theorem dX5_comesOfModule_58 : decode cX5_comesOfModule 58 = .ok (.getfield 9, 3) := by decide +kernel
theorem dX5_comesOfModule_61 : decode cX5_comesOfModule 61 = .ok (.iload_n 1, 1) := by decide +kernel
theorem dX5_comesOfModule_62 : decode cX5_comesOfModule 62 = .ok (.iaload, 1) := by decide +kernel
theorem dX5_comesOfModule_63 : decode cX5_comesOfModule 63 = .ok (.putfield 113, 3) := by decide +kernel
theorem dX5_comesOfModule_66 : decode cX5_comesOfModule 66 = .ok (.aload_n 3, 1) := by decide +kernel
theorem dX5_comesOfModule_67 : decode cX5_comesOfModule 67 = .ok (.iload_n 2, 1) := by decide +kernel
theorem dX5_comesOfModule_68 : decode cX5_comesOfModule 68 = .ok (.putfield 116, 3) := by decide +kernel
theorem dX5_comesOfModule_71 : decode cX5_comesOfModule 71 = .ok (.aload_n 3, 1) := by decide +kernel
theorem dX5_comesOfModule_72 : decode cX5_comesOfModule 72 = .ok (.iconst 0, 1) := by decide +kernel
theorem dX5_comesOfModule_73 : decode cX5_comesOfModule 73 = .ok (.putfield 94, 3) := by decide +kernel
theorem dX5_comesOfModule_76 : decode cX5_comesOfModule 76 = .ok (.aload_n 3, 1) := by decide +kernel
theorem dX5_comesOfModule_77 : decode cX5_comesOfModule 77 = .ok (.aload_n 0, 1) := by decide +kernel
theorem dX5_comesOfModule_78 : decode cX5_comesOfModule 78 = .ok (.getfield 82, 3) := by decide +kernel
theorem dX5_comesOfModule_81 : decode cX5_comesOfModule 81 = .ok (.putfield 119, 3) := by decide +kernel
theorem dX5_comesOfModule_84 : decode cX5_comesOfModule 84 = .ok (.aload_n 0, 1) := by decide +kernel
theorem dX5_comesOfModule_85 : decode cX5_comesOfModule 85 = .ok (.dup, 1) := by decide +kernel
theorem dX5_comesOfModule_86 : decode cX5_comesOfModule 86 = .ok (.getfield 82, 3) := by decide +kernel
theorem dX5_comesOfModule_89 : decode cX5_comesOfModule 89 = .ok (.iconst 1, 1) := by decide +kernel
theorem dX5_comesOfModule_90 : decode cX5_comesOfModule 90 = .ok (.iadd, 1) := by decide +kernel
theorem dX5_comesOfModule_91 : decode cX5_comesOfModule 91 = .ok (.putfield 82, 3) := by decide +kernel
theorem dX5_comesOfModule_94 : decode cX5_comesOfModule 94 = .ok (.aload_n 3, 1) := by decide +kernel
theorem dX5_comesOfModule_95 : decode cX5_comesOfModule 95 = .ok (.areturn, 1) := by decide +kernel
theorem dX5_comesOfSpec_0 : decode cX5_comesOfSpec 0 = .ok (.aload_n 0, 1) := by decide +kernel
theorem dX5_comesOfSpec_1 : decode cX5_comesOfSpec 1 = .ok (.getfield 56, 3) := by decide +kernel
theorem dX5_comesOfSpec_4 : decode cX5_comesOfSpec 4 = .ok (.bipush 24, 2) := by decide +kernel
theorem dX5_comesOfSpec_6 : decode cX5_comesOfSpec 6 = .ok (.if_icmp .lt 5, 3) := by decide +kernel
theorem dX5_comesOfSpec_9 : decode cX5_comesOfSpec 9 = .ok (.aconst_null, 1) := by decide +kernel
theorem dX5_comesOfSpec_10 : decode cX5_comesOfSpec 10 = .ok (.areturn, 1) := by decide +kernel
theorem dX5_comesOfSpec_11 : decode cX5_comesOfSpec 11 = .ok (.aload_n 0, 1) := by decide +kernel
theorem dX5_comesOfSpec_12 : decode cX5_comesOfSpec 12 = .ok (.getfield 20, 3) := by decide +kernel
theorem dX5_comesOfSpec_15 : decode cX5_comesOfSpec 15 = .ok (.aload_n 0, 1) := by decide +kernel
theorem dX5_comesOfSpec_16 : decode cX5_comesOfSpec 16 = .ok (.getfield 56, 3) := by decide +kernel
theorem dX5_comesOfSpec_19 : decode cX5_comesOfSpec 19 = .ok (.aaload, 1) := by decide +kernel
theorem dX5_comesOfSpec_20 : decode cX5_comesOfSpec 20 = .ok (.astore_n 3, 1) := by decide +kernel
theorem dX5_comesOfSpec_21 : decode cX5_comesOfSpec 21 = .ok (.aload_n 0, 1) := by decide +kernel
theorem dX5_comesOfSpec_22 : decode cX5_comesOfSpec 22 = .ok (.dup, 1) := by decide +kernel
theorem dX5_comesOfSpec_23 : decode cX5_comesOfSpec 23 = .ok (.getfield 56, 3) := by decide +kernel
theorem dX5_comesOfSpec_26 : decode cX5_comesOfSpec 26 = .ok (.iconst 1, 1) := by decide +kernel
theorem dX5_comesOfSpec_27 : decode cX5_comesOfSpec 27 = .ok (.iadd, 1) := by decide +kernel
theorem dX5_comesOfSpec_28 : decode cX5_comesOfSpec 28 = .ok (.putfield 56, 3) := by decide +kernel
theorem dX5_comesOfSpec_31 : decode cX5_comesOfSpec 31 = .ok (.aload_n 3, 1) := by decide +kernel
theorem dX5_comesOfSpec_32 : decode cX5_comesOfSpec 32 = .ok (.iload_n 1, 1) := by decide +kernel
theorem dX5_comesOfSpec_33 : decode cX5_comesOfSpec 33 = .ok (.putfield 122, 3) := by decide +kernel
theorem dX5_comesOfSpec_36 : decode cX5_comesOfSpec 36 = .ok (.aload_n 3, 1) := by decide +kernel
theorem dX5_comesOfSpec_37 : decode cX5_comesOfSpec 37 = .ok (.iload_n 2, 1) := by decide +kernel
theorem dX5_comesOfSpec_38 : decode cX5_comesOfSpec 38 = .ok (.putfield 116, 3) := by decide +kernel
theorem dX5_comesOfSpec_41 : decode cX5_comesOfSpec 41 = .ok (.aload_n 3, 1) := by decide +kernel
theorem dX5_comesOfSpec_42 : decode cX5_comesOfSpec 42 = .ok (.iconst (-1), 1) := by decide +kernel
theorem dX5_comesOfSpec_43 : decode cX5_comesOfSpec 43 = .ok (.putfield 125, 3) := by decide +kernel
theorem dX5_comesOfSpec_46 : decode cX5_comesOfSpec 46 = .ok (.aload_n 3, 1) := by decide +kernel
theorem dX5_comesOfSpec_47 : decode cX5_comesOfSpec 47 = .ok (.areturn, 1) := by decide +kernel
theorem dX5_copyFrom_0 : decode cX5_copyFrom 0 = .ok (.aload_n 1, 1) := by decide +kernel
theorem dX5_copyFrom_1 : decode cX5_copyFrom 1 = .ok (.getfield 9, 3) := by decide +kernel
theorem dX5_copyFrom_4 : decode cX5_copyFrom 4 = .ok (.iconst 0, 1) := by decide +kernel
theorem dX5_copyFrom_5 : decode cX5_copyFrom 5 = .ok (.aload_n 0, 1) := by decide +kernel
theorem dX5_copyFrom_6 : decode cX5_copyFrom 6 = .ok (.getfield 9, 3) := by decide +kernel
theorem dX5_copyFrom_9 : decode cX5_copyFrom 9 = .ok (.iconst 0, 1) := by decide +kernel
theorem dX5_copyFrom_10 : decode cX5_copyFrom 10 = .ok (.iconst 4, 1) := by decide +kernel
theorem dX5_copyFrom_11 : decode cX5_copyFrom 11 = .ok (.invokestatic 50, 3) := by decide +kernel
theorem dX5_copyFrom_14 : decode cX5_copyFrom 14 = .ok (.aload_n 1, 1) := by decide +kernel
theorem dX5_copyFrom_15 : decode cX5_copyFrom 15 = .ok (.getfield 15, 3) := by decide +kernel
theorem dX5_copyFrom_18 : decode cX5_copyFrom 18 = .ok (.iconst 0, 1) := by decide +kernel
theorem dX5_copyFrom_19 : decode cX5_copyFrom 19 = .ok (.aload_n 0, 1) := by decide +kernel
theorem dX5_copyFrom_20 : decode cX5_copyFrom 20 = .ok (.getfield 15, 3) := by decide +kernel
theorem dX5_copyFrom_23 : decode cX5_copyFrom 23 = .ok (.iconst 0, 1) := by decide +kernel
theorem dX5_copyFrom_24 : decode cX5_copyFrom 24 = .ok (.iconst 4, 1) := by decide +kernel
theorem dX5_copyFrom_25 : decode cX5_copyFrom 25 = .ok (.invokestatic 50, 3) := by decide +kernel
theorem dX5_copyFrom_28 : decode cX5_copyFrom 28 = .ok (.aload_n 0, 1) := by decide +kernel
theorem dX5_copyFrom_29 : decode cX5_copyFrom 29 = .ok (.getfield 56, 3) := by decide +kernel
theorem dX5_copyFrom_32 : decode cX5_copyFrom 32 = .ok (.aload_n 1, 1) := by decide +kernel
theorem dX5_copyFrom_33 : decode cX5_copyFrom 33 = .ok (.getfield 56, 3) := by decide +kernel
theorem dX5_copyFrom_36 : decode cX5_copyFrom 36 = .ok (.invokestatic 60, 3) := by decide +kernel
theorem dX5_copyFrom_39 : decode cX5_copyFrom 39 = .ok (.istore_n 2, 1) := by decide +kernel
theorem dX5_copyFrom_40 : decode cX5_copyFrom 40 = .ok (.iconst 0, 1) := by decide +kernel
theorem dX5_copyFrom_41 : decode cX5_copyFrom 41 = .ok (.istore_n 3, 1) := by decide +kernel
theorem dX5_copyFrom_42 : decode cX5_copyFrom 42 = .ok (.iload_n 3, 1) := by decide +kernel
theorem dX5_copyFrom_43 : decode cX5_copyFrom 43 = .ok (.iload_n 2, 1) := by decide +kernel
theorem dX5_copyFrom_44 : decode cX5_copyFrom 44 = .ok (.if_icmp .ge 30, 3) := by decide +kernel
theorem dX5_copyFrom_47 : decode cX5_copyFrom 47 = .ok (.iload_n 3, 1) := by decide +kernel
theorem dX5_copyFrom_48 : decode cX5_copyFrom 48 = .ok (.bipush 24, 2) := by decide +kernel
theorem dX5_copyFrom_50 : decode cX5_copyFrom 50 = .ok (.if_icmp .ge 24, 3) := by decide +kernel
theorem dX5_copyFrom_53 : decode cX5_copyFrom 53 = .ok (.aload_n 0, 1) := by decide +kernel
theorem dX5_copyFrom_54 : decode cX5_copyFrom 54 = .ok (.getfield 20, 3) := by decide +kernel
theorem dX5_copyFrom_57 : decode cX5_copyFrom 57 = .ok (.iload_n 3, 1) := by decide +kernel
theorem dX5_copyFrom_58 : decode cX5_copyFrom 58 = .ok (.aaload, 1) := by decide +kernel
theorem dX5_copyFrom_59 : decode cX5_copyFrom 59 = .ok (.aload_n 1, 1) := by decide +kernel
theorem dX5_copyFrom_60 : decode cX5_copyFrom 60 = .ok (.getfield 20, 3) := by decide +kernel
theorem dX5_copyFrom_63 : decode cX5_copyFrom 63 = .ok (.iload_n 3, 1) := by decide +kernel
theorem dX5_copyFrom_64 : decode cX5_copyFrom 64 = .ok (.aaload, 1) := by decide +kernel
theorem dX5_copyFrom_65 : decode cX5_copyFrom 65 = .ok (.invokevirtual 66, 3) := by decide +kernel
theorem dX5_copyFrom_68 : decode cX5_copyFrom 68 = .ok (.iinc 3 1, 3) := by decide +kernel
theorem dX5_copyFrom_71 : decode cX5_copyFrom 71 = .ok (.goto (-29), 3) := by decide +kernel
theorem dX5_copyFrom_74 : decode cX5_copyFrom 74 = .ok (.aload_n 0, 1) := by decide +kernel
theorem dX5_copyFrom_75 : decode cX5_copyFrom 75 = .ok (.aload_n 1, 1) := by decide +kernel
theorem dX5_copyFrom_76 : decode cX5_copyFrom 76 = .ok (.getfield 56, 3) := by decide +kernel
theorem dX5_copyFrom_79 : decode cX5_copyFrom 79 = .ok (.putfield 56, 3) := by decide +kernel
theorem dX5_copyFrom_82 : decode cX5_copyFrom 82 = .ok (.aload_n 0, 1) := by decide +kernel
theorem dX5_copyFrom_83 : decode cX5_copyFrom 83 = .ok (.aload_n 1, 1) := by decide +kernel
theorem dX5_copyFrom_84 : decode cX5_copyFrom 84 = .ok (.getfield 70, 3) := by decide +kernel
theorem dX5_copyFrom_87 : decode cX5_copyFrom 87 = .ok (.putfield 70, 3) := by decide +kernel
theorem dX5_copyFrom_90 : decode cX5_copyFrom 90 = .ok (.aload_n 0, 1) := by decide +kernel
theorem dX5_copyFrom_91 : decode cX5_copyFrom 91 = .ok (.aload_n 1, 1) := by decide +kernel
theorem dX5_copyFrom_92 : decode cX5_copyFrom 92 = .ok (.getfield 73, 3) := by decide +kernel
theorem dX5_copyFrom_95 : decode cX5_copyFrom 95 = .ok (.putfield 73, 3) := by decide +kernel
theorem dX5_copyFrom_98 : decode cX5_copyFrom 98 = .ok (.aload_n 0, 1) := by decide +kernel
theorem dX5_copyFrom_99 : decode cX5_copyFrom 99 = .ok (.aload_n 1, 1) := by decide +kernel
theorem dX5_copyFrom_100 : decode cX5_copyFrom 100 = .ok (.getfield 76, 3) := by decide +kernel
theorem dX5_copyFrom_103 : decode cX5_copyFrom 103 = .ok (.putfield 76, 3) := by decide +kernel
theorem dX5_copyFrom_106 : decode cX5_copyFrom 106 = .ok (.aload_n 0, 1) := by decide +kernel
theorem dX5_copyFrom_107 : decode cX5_copyFrom 107 = .ok (.aload_n 1, 1) := by decide +kernel
theorem dX5_copyFrom_108 : decode cX5_copyFrom 108 = .ok (.getfield 79, 3) := by decide +kernel
theorem dX5_copyFrom_111 : decode cX5_copyFrom 111 = .ok (.putfield 79, 3) := by decide +kernel
theorem dX5_copyFrom_114 : decode cX5_copyFrom 114 = .ok (.aload_n 0, 1) := by decide +kernel
theorem dX5_copyFrom_115 : decode cX5_copyFrom 115 = .ok (.aload_n 1, 1) := by decide +kernel
theorem dX5_copyFrom_116 : decode cX5_copyFrom 116 = .ok (.getfield 82, 3) := by decide +kernel
theorem dX5_copyFrom_119 : decode cX5_copyFrom 119 = .ok (.putfield 82, 3) := by decide +kernel
theorem dX5_copyFrom_122 : decode cX5_copyFrom 122 = .ok (.aload_n 1, 1) := by decide +kernel
theorem dX5_copyFrom_123 : decode cX5_copyFrom 123 = .ok (.getfield 24, 3) := by decide +kernel
theorem dX5_copyFrom_126 : decode cX5_copyFrom 126 = .ok (.iconst 0, 1) := by decide +kernel
theorem dX5_copyFrom_127 : decode cX5_copyFrom 127 = .ok (.aload_n 0, 1) := by decide +kernel
theorem dX5_copyFrom_128 : decode cX5_copyFrom 128 = .ok (.getfield 24, 3) := by decide +kernel
theorem dX5_copyFrom_131 : decode cX5_copyFrom 131 = .ok (.iconst 0, 1) := by decide +kernel
theorem dX5_copyFrom_132 : decode cX5_copyFrom 132 = .ok (.bipush 24, 2) := by decide +kernel
theorem dX5_copyFrom_134 : decode cX5_copyFrom 134 = .ok (.invokestatic 50, 3) := by decide +kernel
theorem dX5_copyFrom_137 : decode cX5_copyFrom 137 = .ok (.aload_n 0, 1) := by decide +kernel
theorem dX5_copyFrom_138 : decode cX5_copyFrom 138 = .ok (.aload_n 1, 1) := by decide +kernel
theorem dX5_copyFrom_139 : decode cX5_copyFrom 139 = .ok (.getfield 85, 3) := by decide +kernel
theorem dX5_copyFrom_142 : decode cX5_copyFrom 142 = .ok (.putfield 85, 3) := by decide +kernel
theorem dX5_copyFrom_145 : decode cX5_copyFrom 145 = .ok (.aload_n 0, 1) := by decide +kernel
theorem dX5_copyFrom_146 : decode cX5_copyFrom 146 = .ok (.aload_n 1, 1) := by decide +kernel
theorem dX5_copyFrom_147 : decode cX5_copyFrom 147 = .ok (.getfield 88, 3) := by decide +kernel
theorem dX5_copyFrom_150 : decode cX5_copyFrom 150 = .ok (.putfield 88, 3) := by decide +kernel
theorem dX5_copyFrom_153 : decode cX5_copyFrom 153 = .ok (.aload_n 1, 1) := by decide +kernel
theorem dX5_copyFrom_154 : decode cX5_copyFrom 154 = .ok (.getfield 27, 3) := by decide +kernel
theorem dX5_copyFrom_157 : decode cX5_copyFrom 157 = .ok (.iconst 0, 1) := by decide +kernel
theorem dX5_copyFrom_158 : decode cX5_copyFrom 158 = .ok (.aload_n 0, 1) := by decide +kernel
theorem dX5_copyFrom_159 : decode cX5_copyFrom 159 = .ok (.getfield 27, 3) := by decide +kernel
theorem dX5_copyFrom_162 : decode cX5_copyFrom 162 = .ok (.iconst 0, 1) := by decide +kernel
theorem dX5_copyFrom_163 : decode cX5_copyFrom 163 = .ok (.bipush 48, 2) := by decide +kernel
theorem dX5_copyFrom_165 : decode cX5_copyFrom 165 = .ok (.invokestatic 50, 3) := by decide +kernel
theorem dX5_copyFrom_168 : decode cX5_copyFrom 168 = .ok (.aload_n 1, 1) := by decide +kernel
theorem dX5_copyFrom_169 : decode cX5_copyFrom 169 = .ok (.getfield 30, 3) := by decide +kernel
theorem dX5_copyFrom_172 : decode cX5_copyFrom 172 = .ok (.iconst 0, 1) := by decide +kernel
theorem dX5_copyFrom_173 : decode cX5_copyFrom 173 = .ok (.aload_n 0, 1) := by decide +kernel
theorem dX5_copyFrom_174 : decode cX5_copyFrom 174 = .ok (.getfield 30, 3) := by decide +kernel
theorem dX5_copyFrom_177 : decode cX5_copyFrom 177 = .ok (.iconst 0, 1) := by decide +kernel
theorem dX5_copyFrom_178 : decode cX5_copyFrom 178 = .ok (.bipush 48, 2) := by decide +kernel
theorem dX5_copyFrom_180 : decode cX5_copyFrom 180 = .ok (.invokestatic 50, 3) := by decide +kernel
theorem dX5_copyFrom_183 : decode cX5_copyFrom 183 = .ok (.aload_n 0, 1) := by decide +kernel
theorem dX5_copyFrom_184 : decode cX5_copyFrom 184 = .ok (.aload_n 1, 1) := by decide +kernel
theorem dX5_copyFrom_185 : decode cX5_copyFrom 185 = .ok (.getfield 91, 3) := by decide +kernel
theorem dX5_copyFrom_188 : decode cX5_copyFrom 188 = .ok (.putfield 91, 3) := by decide +kernel
theorem dX5_copyFrom_191 : decode cX5_copyFrom 191 = .ok (.return_, 1) := by decide +kernel
theorem dX5_currentOf_0 : decode cX5_currentOf 0 = .ok (.aload_n 0, 1) := by decide +kernel
theorem dX5_currentOf_1 : decode cX5_currentOf 1 = .ok (.getfield 33, 3) := by decide +kernel
theorem dX5_currentOf_4 : decode cX5_currentOf 4 = .ok (.iload_n 1, 1) := by decide +kernel
theorem dX5_currentOf_5 : decode cX5_currentOf 5 = .ok (.invokevirtual 97, 3) := by decide +kernel
theorem dX5_currentOf_8 : decode cX5_currentOf 8 = .ok (.ifCond .eq 12, 3) := by decide +kernel
theorem dX5_currentOf_11 : decode cX5_currentOf 11 = .ok (.aload_n 0, 1) := by decide +kernel
theorem dX5_currentOf_12 : decode cX5_currentOf 12 = .ok (.getfield 9, 3) := by decide +kernel
theorem dX5_currentOf_15 : decode cX5_currentOf 15 = .ok (.iload_n 1, 1) := by decide +kernel
theorem dX5_currentOf_16 : decode cX5_currentOf 16 = .ok (.iaload, 1) := by decide +kernel
theorem dX5_currentOf_17 : decode cX5_currentOf 17 = .ok (.goto 4, 3) := by decide +kernel
theorem dX5_currentOf_20 : decode cX5_currentOf 20 = .ok (.iconst (-1), 1) := by decide +kernel
theorem dX5_currentOf_21 : decode cX5_currentOf 21 = .ok (.ireturn, 1) := by decide +kernel
theorem dX5_doLine_0 : decode cX5_doLine 0 = .ok (.aload_n 0, 1) := by decide +kernel
theorem dX5_doLine_1 : decode cX5_doLine 1 = .ok (.getfield 33, 3) := by decide +kernel
theorem dX5_doLine_4 : decode cX5_doLine 4 = .ok (.getfield 301, 3) := by decide +kernel
theorem dX5_doLine_7 : decode cX5_doLine 7 = .ok (.iload_n 2, 1) := by decide +kernel
theorem dX5_doLine_8 : decode cX5_doLine 8 = .ok (.iaload, 1) := by decide +kernel
theorem dX5_doLine_9 : decode cX5_doLine 9 = .ok (.istore_n 3, 1) := by decide +kernel
theorem dX5_doLine_10 : decode cX5_doLine 10 = .ok (.aload_n 0, 1) := by decide +kernel
theorem dX5_doLine_11 : decode cX5_doLine 11 = .ok (.getfield 33, 3) := by decide +kernel
theorem dX5_doLine_14 : decode cX5_doLine 14 = .ok (.getfield 304, 3) := by decide +kernel
theorem dX5_doLine_17 : decode cX5_doLine 17 = .ok (.iload_n 2, 1) := by decide +kernel
theorem dX5_doLine_18 : decode cX5_doLine 18 = .ok (.iaload, 1) := by decide +kernel
theorem dX5_doLine_19 : decode cX5_doLine 19 = .ok (.istore 4, 2) := by decide +kernel
theorem dX5_doLine_21 : decode cX5_doLine 21 = .ok (.aload_n 1, 1) := by decide +kernel
theorem dX5_doLine_22 : decode cX5_doLine 22 = .ok (.getfield 125, 3) := by decide +kernel
theorem dX5_doLine_25 : decode cX5_doLine 25 = .ok (.iconst 1, 1) := by decide +kernel
theorem dX5_doLine_26 : decode cX5_doLine 26 = .ok (.iadd, 1) := by decide +kernel
theorem dX5_doLine_27 : decode cX5_doLine 27 = .ok (.istore 5, 2) := by decide +kernel
theorem dX5_doLine_29 : decode cX5_doLine 29 = .ok (.aload_n 0, 1) := by decide +kernel
theorem dX5_doLine_30 : decode cX5_doLine 30 = .ok (.getfield 33, 3) := by decide +kernel
theorem dX5_doLine_33 : decode cX5_doLine 33 = .ok (.getfield 289, 3) := by decide +kernel
theorem dX5_doLine_36 : decode cX5_doLine 36 = .ok (.iload_n 2, 1) := by decide +kernel
theorem dX5_doLine_37 : decode cX5_doLine 37 = .ok (.iaload, 1) := by decide +kernel
theorem dX5_doLine_38 : decode cX5_doLine 38 = .ok (.tableswitch 228 0 15 #[78, 91, 103, 115, 141, 156, 228, 228, 228, 228, 165, 228, 228, 228, 182, 214], 78) := by decide +kernel
theorem dX5_doLine_116 : decode cX5_doLine 116 = .ok (.aload_n 1, 1) := by decide +kernel
theorem dX5_doLine_117 : decode cX5_doLine 117 = .ok (.aload_n 1, 1) := by decide +kernel
theorem dX5_doLine_118 : decode cX5_doLine 118 = .ok (.getfield 307, 3) := by decide +kernel
theorem dX5_doLine_121 : decode cX5_doLine 121 = .ok (.iload_n 3, 1) := by decide +kernel
theorem dX5_doLine_122 : decode cX5_doLine 122 = .ok (.iadd, 1) := by decide +kernel
theorem dX5_doLine_123 : decode cX5_doLine 123 = .ok (.invokevirtual 310, 3) := by decide +kernel
theorem dX5_doLine_126 : decode cX5_doLine 126 = .ok (.iload 5, 2) := by decide +kernel
theorem dX5_doLine_128 : decode cX5_doLine 128 = .ok (.ireturn, 1) := by decide +kernel
theorem dX5_doLine_129 : decode cX5_doLine 129 = .ok (.aload_n 1, 1) := by decide +kernel
theorem dX5_doLine_130 : decode cX5_doLine 130 = .ok (.aload_n 1, 1) := by decide +kernel
theorem dX5_doLine_131 : decode cX5_doLine 131 = .ok (.iload_n 3, 1) := by decide +kernel
theorem dX5_doLine_132 : decode cX5_doLine 132 = .ok (.invokevirtual 313, 3) := by decide +kernel
theorem dX5_doLine_135 : decode cX5_doLine 135 = .ok (.putfield 307, 3) := by decide +kernel
theorem dX5_doLine_138 : decode cX5_doLine 138 = .ok (.iload 5, 2) := by decide +kernel
theorem dX5_doLine_140 : decode cX5_doLine 140 = .ok (.ireturn, 1) := by decide +kernel
theorem dX5_doLine_141 : decode cX5_doLine 141 = .ok (.aload_n 1, 1) := by decide +kernel
theorem dX5_doLine_142 : decode cX5_doLine 142 = .ok (.iload_n 3, 1) := by decide +kernel
theorem dX5_doLine_143 : decode cX5_doLine 143 = .ok (.aload_n 1, 1) := by decide +kernel
theorem dX5_doLine_144 : decode cX5_doLine 144 = .ok (.getfield 307, 3) := by decide +kernel
theorem dX5_doLine_147 : decode cX5_doLine 147 = .ok (.invokevirtual 316, 3) := by decide +kernel
theorem dX5_doLine_150 : decode cX5_doLine 150 = .ok (.iload 5, 2) := by decide +kernel
theorem dX5_doLine_152 : decode cX5_doLine 152 = .ok (.ireturn, 1) := by decide +kernel
theorem dX5_doLine_153 : decode cX5_doLine 153 = .ok (.aload_n 1, 1) := by decide +kernel
theorem dX5_doLine_154 : decode cX5_doLine 154 = .ok (.iload_n 3, 1) := by decide +kernel
theorem dX5_doLine_155 : decode cX5_doLine 155 = .ok (.invokevirtual 313, 3) := by decide +kernel
theorem dX5_doLine_158 : decode cX5_doLine 158 = .ok (.ifCond .gt 6, 3) := by decide +kernel
theorem dX5_doLine_161 : decode cX5_doLine 161 = .ok (.iload 5, 2) := by decide +kernel
theorem dX5_doLine_163 : decode cX5_doLine 163 = .ok (.ireturn, 1) := by decide +kernel
theorem dX5_doLine_164 : decode cX5_doLine 164 = .ok (.aload_n 1, 1) := by decide +kernel
theorem dX5_doLine_165 : decode cX5_doLine 165 = .ok (.iload_n 3, 1) := by decide +kernel
theorem dX5_doLine_166 : decode cX5_doLine 166 = .ok (.aload_n 1, 1) := by decide +kernel
theorem dX5_doLine_167 : decode cX5_doLine 167 = .ok (.iload_n 3, 1) := by decide +kernel
theorem dX5_doLine_168 : decode cX5_doLine 168 = .ok (.invokevirtual 313, 3) := by decide +kernel
theorem dX5_doLine_171 : decode cX5_doLine 171 = .ok (.iconst 1, 1) := by decide +kernel
theorem dX5_doLine_172 : decode cX5_doLine 172 = .ok (.isub, 1) := by decide +kernel
theorem dX5_doLine_173 : decode cX5_doLine 173 = .ok (.invokevirtual 316, 3) := by decide +kernel
theorem dX5_doLine_176 : decode cX5_doLine 176 = .ok (.iload 4, 2) := by decide +kernel
theorem dX5_doLine_178 : decode cX5_doLine 178 = .ok (.ireturn, 1) := by decide +kernel
theorem dX5_doLine_179 : decode cX5_doLine 179 = .ok (.aload_n 1, 1) := by decide +kernel
theorem dX5_doLine_180 : decode cX5_doLine 180 = .ok (.getfield 307, 3) := by decide +kernel
theorem dX5_doLine_183 : decode cX5_doLine 183 = .ok (.ifCond .gt 8, 3) := by decide +kernel
theorem dX5_doLine_186 : decode cX5_doLine 186 = .ok (.iload 4, 2) := by decide +kernel
theorem dX5_doLine_188 : decode cX5_doLine 188 = .ok (.goto 5, 3) := by decide +kernel
theorem dX5_doLine_191 : decode cX5_doLine 191 = .ok (.iload 5, 2) := by decide +kernel
theorem dX5_doLine_193 : decode cX5_doLine 193 = .ok (.ireturn, 1) := by decide +kernel
theorem dX5_doLine_194 : decode cX5_doLine 194 = .ok (.aload_n 0, 1) := by decide +kernel
theorem dX5_doLine_195 : decode cX5_doLine 195 = .ok (.aload_n 1, 1) := by decide +kernel
theorem dX5_doLine_196 : decode cX5_doLine 196 = .ok (.iload_n 3, 1) := by decide +kernel
theorem dX5_doLine_197 : decode cX5_doLine 197 = .ok (.invokevirtual 156, 3) := by decide +kernel
theorem dX5_doLine_200 : decode cX5_doLine 200 = .ok (.iload 5, 2) := by decide +kernel
theorem dX5_doLine_202 : decode cX5_doLine 202 = .ok (.ireturn, 1) := by decide +kernel
theorem dX5_doLine_203 : decode cX5_doLine 203 = .ok (.aload_n 1, 1) := by decide +kernel
theorem dX5_doLine_204 : decode cX5_doLine 204 = .ok (.iload_n 3, 1) := by decide +kernel
theorem dX5_doLine_205 : decode cX5_doLine 205 = .ok (.iconst 1, 1) := by decide +kernel
theorem dX5_doLine_206 : decode cX5_doLine 206 = .ok (.if_icmp .ne 7, 3) := by decide +kernel
theorem dX5_doLine_209 : decode cX5_doLine 209 = .ok (.iconst 1, 1) := by decide +kernel
theorem dX5_doLine_210 : decode cX5_doLine 210 = .ok (.goto 4, 3) := by decide +kernel
theorem dX5_doLine_213 : decode cX5_doLine 213 = .ok (.iconst 0, 1) := by decide +kernel
theorem dX5_doLine_214 : decode cX5_doLine 214 = .ok (.putfield 194, 3) := by decide +kernel
theorem dX5_doLine_217 : decode cX5_doLine 217 = .ok (.iload 5, 2) := by decide +kernel
theorem dX5_doLine_219 : decode cX5_doLine 219 = .ok (.ireturn, 1) := by decide +kernel
theorem dX5_doLine_220 : decode cX5_doLine 220 = .ok (.aload_n 1, 1) := by decide +kernel
theorem dX5_doLine_221 : decode cX5_doLine 221 = .ok (.iload_n 3, 1) := by decide +kernel
theorem dX5_doLine_222 : decode cX5_doLine 222 = .ok (.invokevirtual 320, 3) := by decide +kernel
theorem dX5_doLine_225 : decode cX5_doLine 225 = .ok (.ifCond .ne 24, 3) := by decide +kernel
theorem dX5_doLine_228 : decode cX5_doLine 228 = .ok (.aload_n 1, 1) := by decide +kernel
theorem dX5_doLine_229 : decode cX5_doLine 229 = .ok (.iload_n 3, 1) := by decide +kernel
theorem dX5_doLine_230 : decode cX5_doLine 230 = .ok (.iload 4, 2) := by decide +kernel
theorem dX5_doLine_232 : decode cX5_doLine 232 = .ok (.ifCond .le 13, 3) := by decide +kernel
theorem dX5_doLine_235 : decode cX5_doLine 235 = .ok (.aload_n 0, 1) := by decide +kernel
theorem dX5_doLine_236 : decode cX5_doLine 236 = .ok (.getfield 70, 3) := by decide +kernel
theorem dX5_doLine_239 : decode cX5_doLine 239 = .ok (.iload 4, 2) := by decide +kernel
theorem dX5_doLine_241 : decode cX5_doLine 241 = .ok (.iadd, 1) := by decide +kernel
theorem dX5_doLine_242 : decode cX5_doLine 242 = .ok (.goto 4, 3) := by decide +kernel
theorem dX5_doLine_245 : decode cX5_doLine 245 = .ok (.iconst (-1), 1) := by decide +kernel
theorem dX5_doLine_246 : decode cX5_doLine 246 = .ok (.invokevirtual 323, 3) := by decide +kernel
theorem dX5_doLine_249 : decode cX5_doLine 249 = .ok (.iload 5, 2) := by decide +kernel
theorem dX5_doLine_251 : decode cX5_doLine 251 = .ok (.ireturn, 1) := by decide +kernel
theorem dX5_doLine_252 : decode cX5_doLine 252 = .ok (.aload_n 1, 1) := by decide +kernel
theorem dX5_doLine_253 : decode cX5_doLine 253 = .ok (.iconst 5, 1) := by decide +kernel
theorem dX5_doLine_254 : decode cX5_doLine 254 = .ok (.aload_n 0, 1) := by decide +kernel
theorem dX5_doLine_255 : decode cX5_doLine 255 = .ok (.getfield 70, 3) := by decide +kernel
theorem dX5_doLine_258 : decode cX5_doLine 258 = .ok (.iload_n 3, 1) := by decide +kernel
theorem dX5_doLine_259 : decode cX5_doLine 259 = .ok (.iadd, 1) := by decide +kernel
theorem dX5_doLine_260 : decode cX5_doLine 260 = .ok (.invokevirtual 323, 3) := by decide +kernel
theorem dX5_doLine_263 : decode cX5_doLine 263 = .ok (.iload 5, 2) := by decide +kernel
theorem dX5_doLine_265 : decode cX5_doLine 265 = .ok (.ireturn, 1) := by decide +kernel
theorem dX5_doLine_266 : decode cX5_doLine 266 = .ok (.aload_n 1, 1) := by decide +kernel
theorem dX5_doLine_267 : decode cX5_doLine 267 = .ok (.aload_n 0, 1) := by decide +kernel
theorem dX5_doLine_268 : decode cX5_doLine 268 = .ok (.aload_n 1, 1) := by decide +kernel
theorem dX5_doLine_269 : decode cX5_doLine 269 = .ok (.getfield 110, 3) := by decide +kernel
theorem dX5_doLine_272 : decode cX5_doLine 272 = .ok (.invokevirtual 326, 3) := by decide +kernel
theorem dX5_doLine_275 : decode cX5_doLine 275 = .ok (.putfield 113, 3) := by decide +kernel
theorem dX5_doLine_278 : decode cX5_doLine 278 = .ok (.iconst 0, 1) := by decide +kernel
theorem dX5_doLine_279 : decode cX5_doLine 279 = .ok (.ireturn, 1) := by decide +kernel
theorem dX5_doLineOut_0 : decode cX5_doLineOut 0 = .ok (.aload_n 0, 1) := by decide +kernel
theorem dX5_doLineOut_1 : decode cX5_doLineOut 1 = .ok (.getfield 33, 3) := by decide +kernel
theorem dX5_doLineOut_4 : decode cX5_doLineOut 4 = .ok (.getfield 301, 3) := by decide +kernel
theorem dX5_doLineOut_7 : decode cX5_doLineOut 7 = .ok (.iload_n 2, 1) := by decide +kernel
theorem dX5_doLineOut_8 : decode cX5_doLineOut 8 = .ok (.iaload, 1) := by decide +kernel
theorem dX5_doLineOut_9 : decode cX5_doLineOut 9 = .ok (.istore_n 3, 1) := by decide +kernel
theorem dX5_doLineOut_10 : decode cX5_doLineOut 10 = .ok (.aload_n 0, 1) := by decide +kernel
theorem dX5_doLineOut_11 : decode cX5_doLineOut 11 = .ok (.getfield 33, 3) := by decide +kernel
theorem dX5_doLineOut_14 : decode cX5_doLineOut 14 = .ok (.getfield 304, 3) := by decide +kernel
theorem dX5_doLineOut_17 : decode cX5_doLineOut 17 = .ok (.iload_n 2, 1) := by decide +kernel
theorem dX5_doLineOut_18 : decode cX5_doLineOut 18 = .ok (.iaload, 1) := by decide +kernel
theorem dX5_doLineOut_19 : decode cX5_doLineOut 19 = .ok (.istore 4, 2) := by decide +kernel
theorem dX5_doLineOut_21 : decode cX5_doLineOut 21 = .ok (.aload_n 0, 1) := by decide +kernel
theorem dX5_doLineOut_22 : decode cX5_doLineOut 22 = .ok (.aload_n 1, 1) := by decide +kernel
theorem dX5_doLineOut_23 : decode cX5_doLineOut 23 = .ok (.getfield 307, 3) := by decide +kernel
theorem dX5_doLineOut_26 : decode cX5_doLineOut 26 = .ok (.invokevirtual 170, 3) := by decide +kernel
theorem dX5_doLineOut_29 : decode cX5_doLineOut 29 = .ok (.astore 5, 2) := by decide +kernel
theorem dX5_doLineOut_31 : decode cX5_doLineOut 31 = .ok (.aload_n 0, 1) := by decide +kernel
theorem dX5_doLineOut_32 : decode cX5_doLineOut 32 = .ok (.getfield 33, 3) := by decide +kernel
theorem dX5_doLineOut_35 : decode cX5_doLineOut 35 = .ok (.getfield 289, 3) := by decide +kernel
theorem dX5_doLineOut_38 : decode cX5_doLineOut 38 = .ok (.iload_n 2, 1) := by decide +kernel
theorem dX5_doLineOut_39 : decode cX5_doLineOut 39 = .ok (.iaload, 1) := by decide +kernel
theorem dX5_doLineOut_40 : decode cX5_doLineOut 40 = .ok (.tableswitch 196 6 13 #[48, 68, 100, 115, 196, 158, 167, 185], 48) := by decide +kernel
theorem dX5_doLineOut_88 : decode cX5_doLineOut 88 = .ok (.aload_n 0, 1) := by decide +kernel
theorem dX5_doLineOut_89 : decode cX5_doLineOut 89 = .ok (.aload_n 1, 1) := by decide +kernel
theorem dX5_doLineOut_90 : decode cX5_doLineOut 90 = .ok (.iload_n 3, 1) := by decide +kernel
theorem dX5_doLineOut_91 : decode cX5_doLineOut 91 = .ok (.iload 4, 2) := by decide +kernel
theorem dX5_doLineOut_93 : decode cX5_doLineOut 93 = .ok (.iconst 1, 1) := by decide +kernel
theorem dX5_doLineOut_94 : decode cX5_doLineOut 94 = .ok (.if_icmp .ne 7, 3) := by decide +kernel
theorem dX5_doLineOut_97 : decode cX5_doLineOut 97 = .ok (.iconst 1, 1) := by decide +kernel
theorem dX5_doLineOut_98 : decode cX5_doLineOut 98 = .ok (.goto 4, 3) := by decide +kernel
theorem dX5_doLineOut_101 : decode cX5_doLineOut 101 = .ok (.iconst 0, 1) := by decide +kernel
theorem dX5_doLineOut_102 : decode cX5_doLineOut 102 = .ok (.invokevirtual 329, 3) := by decide +kernel
theorem dX5_doLineOut_105 : decode cX5_doLineOut 105 = .ok (.goto 144, 3) := by decide +kernel
theorem dX5_doLineOut_108 : decode cX5_doLineOut 108 = .ok (.aload 5, 2) := by decide +kernel
theorem dX5_doLineOut_110 : decode cX5_doLineOut 110 = .ok (.ifnonnull 20, 3) := by decide +kernel
theorem dX5_doLineOut_113 : decode cX5_doLineOut 113 = .ok (.aload_n 0, 1) := by decide +kernel
theorem dX5_doLineOut_114 : decode cX5_doLineOut 114 = .ok (.aload_n 1, 1) := by decide +kernel
theorem dX5_doLineOut_115 : decode cX5_doLineOut 115 = .ok (.getfield 146, 3) := by decide +kernel
theorem dX5_doLineOut_118 : decode cX5_doLineOut 118 = .ok (.aload_n 1, 1) := by decide +kernel
theorem dX5_doLineOut_119 : decode cX5_doLineOut 119 = .ok (.getfield 307, 3) := by decide +kernel
theorem dX5_doLineOut_122 : decode cX5_doLineOut 122 = .ok (.bipush 7, 2) := by decide +kernel
theorem dX5_doLineOut_124 : decode cX5_doLineOut 124 = .ok (.invokevirtual 222, 3) := by decide +kernel
theorem dX5_doLineOut_127 : decode cX5_doLineOut 127 = .ok (.goto 122, 3) := by decide +kernel
theorem dX5_doLineOut_130 : decode cX5_doLineOut 130 = .ok (.aload_n 0, 1) := by decide +kernel
theorem dX5_doLineOut_131 : decode cX5_doLineOut 131 = .ok (.aload_n 1, 1) := by decide +kernel
theorem dX5_doLineOut_132 : decode cX5_doLineOut 132 = .ok (.aload 5, 2) := by decide +kernel
theorem dX5_doLineOut_134 : decode cX5_doLineOut 134 = .ok (.invokevirtual 333, 3) := by decide +kernel
theorem dX5_doLineOut_137 : decode cX5_doLineOut 137 = .ok (.goto 112, 3) := by decide +kernel
theorem dX5_doLineOut_140 : decode cX5_doLineOut 140 = .ok (.aload 5, 2) := by decide +kernel
theorem dX5_doLineOut_142 : decode cX5_doLineOut 142 = .ok (.ifnull 107, 3) := by decide +kernel
theorem dX5_doLineOut_145 : decode cX5_doLineOut 145 = .ok (.aload_n 0, 1) := by decide +kernel
theorem dX5_doLineOut_146 : decode cX5_doLineOut 146 = .ok (.aload_n 1, 1) := by decide +kernel
theorem dX5_doLineOut_147 : decode cX5_doLineOut 147 = .ok (.aload 5, 2) := by decide +kernel
theorem dX5_doLineOut_149 : decode cX5_doLineOut 149 = .ok (.invokevirtual 218, 3) := by decide +kernel
theorem dX5_doLineOut_152 : decode cX5_doLineOut 152 = .ok (.goto 97, 3) := by decide +kernel
theorem dX5_doLineOut_155 : decode cX5_doLineOut 155 = .ok (.aload 5, 2) := by decide +kernel
theorem dX5_doLineOut_157 : decode cX5_doLineOut 157 = .ok (.ifnonnull 26, 3) := by decide +kernel
theorem dX5_doLineOut_160 : decode cX5_doLineOut 160 = .ok (.aload_n 0, 1) := by decide +kernel
theorem dX5_doLineOut_161 : decode cX5_doLineOut 161 = .ok (.aload_n 1, 1) := by decide +kernel
theorem dX5_doLineOut_162 : decode cX5_doLineOut 162 = .ok (.getfield 146, 3) := by decide +kernel
theorem dX5_doLineOut_165 : decode cX5_doLineOut 165 = .ok (.iconst 2, 1) := by decide +kernel
theorem dX5_doLineOut_166 : decode cX5_doLineOut 166 = .ok (.bipush 10, 2) := by decide +kernel
theorem dX5_doLineOut_168 : decode cX5_doLineOut 168 = .ok (.aload_n 1, 1) := by decide +kernel
theorem dX5_doLineOut_169 : decode cX5_doLineOut 169 = .ok (.getfield 307, 3) := by decide +kernel
theorem dX5_doLineOut_172 : decode cX5_doLineOut 172 = .ok (.imul, 1) := by decide +kernel
theorem dX5_doLineOut_173 : decode cX5_doLineOut 173 = .ok (.bipush 7, 2) := by decide +kernel
theorem dX5_doLineOut_175 : decode cX5_doLineOut 175 = .ok (.iadd, 1) := by decide +kernel
theorem dX5_doLineOut_176 : decode cX5_doLineOut 176 = .ok (.invokevirtual 198, 3) := by decide +kernel
theorem dX5_doLineOut_179 : decode cX5_doLineOut 179 = .ok (.pop, 1) := by decide +kernel
theorem dX5_doLineOut_180 : decode cX5_doLineOut 180 = .ok (.goto 69, 3) := by decide +kernel
theorem dX5_doLineOut_183 : decode cX5_doLineOut 183 = .ok (.aload 5, 2) := by decide +kernel
theorem dX5_doLineOut_185 : decode cX5_doLineOut 185 = .ok (.getfield 229, 3) := by decide +kernel
theorem dX5_doLineOut_188 : decode cX5_doLineOut 188 = .ok (.aload_n 1, 1) := by decide +kernel
theorem dX5_doLineOut_189 : decode cX5_doLineOut 189 = .ok (.getfield 146, 3) := by decide +kernel
theorem dX5_doLineOut_192 : decode cX5_doLineOut 192 = .ok (.invokevirtual 336, 3) := by decide +kernel
theorem dX5_doLineOut_195 : decode cX5_doLineOut 195 = .ok (.goto 54, 3) := by decide +kernel
theorem dX5_doLineOut_198 : decode cX5_doLineOut 198 = .ok (.aload_n 0, 1) := by decide +kernel
theorem dX5_doLineOut_199 : decode cX5_doLineOut 199 = .ok (.aload_n 1, 1) := by decide +kernel
theorem dX5_doLineOut_200 : decode cX5_doLineOut 200 = .ok (.iload_n 3, 1) := by decide +kernel
theorem dX5_doLineOut_201 : decode cX5_doLineOut 201 = .ok (.invokevirtual 339, 3) := by decide +kernel
theorem dX5_doLineOut_204 : decode cX5_doLineOut 204 = .ok (.goto 45, 3) := by decide +kernel
theorem dX5_doLineOut_207 : decode cX5_doLineOut 207 = .ok (.aload_n 0, 1) := by decide +kernel
theorem dX5_doLineOut_208 : decode cX5_doLineOut 208 = .ok (.aload_n 1, 1) := by decide +kernel
theorem dX5_doLineOut_209 : decode cX5_doLineOut 209 = .ok (.getfield 307, 3) := by decide +kernel
theorem dX5_doLineOut_212 : decode cX5_doLineOut 212 = .ok (.iload_n 3, 1) := by decide +kernel
theorem dX5_doLineOut_213 : decode cX5_doLineOut 213 = .ok (.aload_n 1, 1) := by decide +kernel
theorem dX5_doLineOut_214 : decode cX5_doLineOut 214 = .ok (.iconst 3, 1) := by decide +kernel
theorem dX5_doLineOut_215 : decode cX5_doLineOut 215 = .ok (.invokevirtual 313, 3) := by decide +kernel
theorem dX5_doLineOut_218 : decode cX5_doLineOut 218 = .ok (.invokevirtual 198, 3) := by decide +kernel
theorem dX5_doLineOut_221 : decode cX5_doLineOut 221 = .ok (.pop, 1) := by decide +kernel
end
section
theorem dX5_doLineOut_222 : decode cX5_doLineOut 222 = .ok (.goto 27, 3) := by decide +kernel
theorem dX5_doLineOut_225 : decode cX5_doLineOut 225 = .ok (.aload_n 0, 1) := by decide +kernel
theorem dX5_doLineOut_226 : decode cX5_doLineOut 226 = .ok (.aload_n 1, 1) := by decide +kernel
theorem dX5_doLineOut_227 : decode cX5_doLineOut 227 = .ok (.iload_n 3, 1) := by decide +kernel
theorem dX5_doLineOut_228 : decode cX5_doLineOut 228 = .ok (.iload 4, 2) := by decide +kernel
theorem dX5_doLineOut_230 : decode cX5_doLineOut 230 = .ok (.invokevirtual 342, 3) := by decide +kernel
theorem dX5_doLineOut_233 : decode cX5_doLineOut 233 = .ok (.goto 16, 3) := by decide +kernel
theorem dX5_doLineOut_236 : decode cX5_doLineOut 236 = .ok (.aload_n 0, 1) := by decide +kernel
theorem dX5_doLineOut_237 : decode cX5_doLineOut 237 = .ok (.aload_n 1, 1) := by decide +kernel
theorem dX5_doLineOut_238 : decode cX5_doLineOut 238 = .ok (.getfield 307, 3) := by decide +kernel
theorem dX5_doLineOut_241 : decode cX5_doLineOut 241 = .ok (.aload_n 1, 1) := by decide +kernel
theorem dX5_doLineOut_242 : decode cX5_doLineOut 242 = .ok (.getfield 146, 3) := by decide +kernel
theorem dX5_doLineOut_245 : decode cX5_doLineOut 245 = .ok (.iload_n 3, 1) := by decide +kernel
theorem dX5_doLineOut_246 : decode cX5_doLineOut 246 = .ok (.invokevirtual 222, 3) := by decide +kernel
theorem dX5_doLineOut_249 : decode cX5_doLineOut 249 = .ok (.aload_n 1, 1) := by decide +kernel
theorem dX5_doLineOut_250 : decode cX5_doLineOut 250 = .ok (.getfield 125, 3) := by decide +kernel
theorem dX5_doLineOut_253 : decode cX5_doLineOut 253 = .ok (.iconst 1, 1) := by decide +kernel
theorem dX5_doLineOut_254 : decode cX5_doLineOut 254 = .ok (.iadd, 1) := by decide +kernel
theorem dX5_doLineOut_255 : decode cX5_doLineOut 255 = .ok (.ireturn, 1) := by decide +kernel
theorem dX5_doTurn_0 : decode cX5_doTurn 0 = .ok (.aload_n 0, 1) := by decide +kernel
theorem dX5_doTurn_1 : decode cX5_doTurn 1 = .ok (.invokevirtual 278, 3) := by decide +kernel
theorem dX5_doTurn_4 : decode cX5_doTurn 4 = .ok (.astore_n 1, 1) := by decide +kernel
theorem dX5_doTurn_5 : decode cX5_doTurn 5 = .ok (.aload_n 1, 1) := by decide +kernel
theorem dX5_doTurn_6 : decode cX5_doTurn 6 = .ok (.ifnonnull 5, 3) := by decide +kernel
theorem dX5_doTurn_9 : decode cX5_doTurn 9 = .ok (.iconst 0, 1) := by decide +kernel
theorem dX5_doTurn_10 : decode cX5_doTurn 10 = .ok (.ireturn, 1) := by decide +kernel
theorem dX5_doTurn_11 : decode cX5_doTurn 11 = .ok (.aload_n 0, 1) := by decide +kernel
theorem dX5_doTurn_12 : decode cX5_doTurn 12 = .ok (.dup, 1) := by decide +kernel
theorem dX5_doTurn_13 : decode cX5_doTurn 13 = .ok (.getfield 76, 3) := by decide +kernel
theorem dX5_doTurn_16 : decode cX5_doTurn 16 = .ok (.iconst 1, 1) := by decide +kernel
theorem dX5_doTurn_17 : decode cX5_doTurn 17 = .ok (.iadd, 1) := by decide +kernel
theorem dX5_doTurn_18 : decode cX5_doTurn 18 = .ok (.putfield 76, 3) := by decide +kernel
theorem dX5_doTurn_21 : decode cX5_doTurn 21 = .ok (.aload_n 1, 1) := by decide +kernel
theorem dX5_doTurn_22 : decode cX5_doTurn 22 = .ok (.invokevirtual 282, 3) := by decide +kernel
theorem dX5_doTurn_25 : decode cX5_doTurn 25 = .ok (.iconst 0, 1) := by decide +kernel
theorem dX5_doTurn_26 : decode cX5_doTurn 26 = .ok (.istore_n 2, 1) := by decide +kernel
theorem dX5_doTurn_27 : decode cX5_doTurn 27 = .ok (.iload_n 2, 1) := by decide +kernel
theorem dX5_doTurn_28 : decode cX5_doTurn 28 = .ok (.bipush 20, 2) := by decide +kernel
theorem dX5_doTurn_30 : decode cX5_doTurn 30 = .ok (.if_icmp .ge 115, 3) := by decide +kernel
theorem dX5_doTurn_33 : decode cX5_doTurn 33 = .ok (.aload_n 1, 1) := by decide +kernel
theorem dX5_doTurn_34 : decode cX5_doTurn 34 = .ok (.getfield 94, 3) := by decide +kernel
theorem dX5_doTurn_37 : decode cX5_doTurn 37 = .ok (.ifCond .ne 108, 3) := by decide +kernel
theorem dX5_doTurn_40 : decode cX5_doTurn 40 = .ok (.aload_n 0, 1) := by decide +kernel
theorem dX5_doTurn_41 : decode cX5_doTurn 41 = .ok (.getfield 33, 3) := by decide +kernel
theorem dX5_doTurn_44 : decode cX5_doTurn 44 = .ok (.aload_n 1, 1) := by decide +kernel
theorem dX5_doTurn_45 : decode cX5_doTurn 45 = .ok (.getfield 110, 3) := by decide +kernel
theorem dX5_doTurn_48 : decode cX5_doTurn 48 = .ok (.aload_n 1, 1) := by decide +kernel
theorem dX5_doTurn_49 : decode cX5_doTurn 49 = .ok (.getfield 113, 3) := by decide +kernel
theorem dX5_doTurn_52 : decode cX5_doTurn 52 = .ok (.aload_n 1, 1) := by decide +kernel
theorem dX5_doTurn_53 : decode cX5_doTurn 53 = .ok (.getfield 125, 3) := by decide +kernel
theorem dX5_doTurn_56 : decode cX5_doTurn 56 = .ok (.invokevirtual 285, 3) := by decide +kernel
theorem dX5_doTurn_59 : decode cX5_doTurn 59 = .ok (.istore_n 3, 1) := by decide +kernel
theorem dX5_doTurn_60 : decode cX5_doTurn 60 = .ok (.aload_n 1, 1) := by decide +kernel
theorem dX5_doTurn_61 : decode cX5_doTurn 61 = .ok (.getfield 125, 3) := by decide +kernel
theorem dX5_doTurn_64 : decode cX5_doTurn 64 = .ok (.istore 4, 2) := by decide +kernel
theorem dX5_doTurn_66 : decode cX5_doTurn 66 = .ok (.iload_n 3, 1) := by decide +kernel
theorem dX5_doTurn_67 : decode cX5_doTurn 67 = .ok (.iconst (-1), 1) := by decide +kernel
theorem dX5_doTurn_68 : decode cX5_doTurn 68 = .ok (.if_icmp .ne 12, 3) := by decide +kernel
theorem dX5_doTurn_71 : decode cX5_doTurn 71 = .ok (.aload_n 0, 1) := by decide +kernel
theorem dX5_doTurn_72 : decode cX5_doTurn 72 = .ok (.aload_n 1, 1) := by decide +kernel
theorem dX5_doTurn_73 : decode cX5_doTurn 73 = .ok (.iconst 0, 1) := by decide +kernel
theorem dX5_doTurn_74 : decode cX5_doTurn 74 = .ok (.invokevirtual 156, 3) := by decide +kernel
theorem dX5_doTurn_77 : decode cX5_doTurn 77 = .ok (.goto 45, 3) := by decide +kernel
theorem dX5_doTurn_80 : decode cX5_doTurn 80 = .ok (.aload_n 0, 1) := by decide +kernel
theorem dX5_doTurn_81 : decode cX5_doTurn 81 = .ok (.dup, 1) := by decide +kernel
theorem dX5_doTurn_82 : decode cX5_doTurn 82 = .ok (.getfield 79, 3) := by decide +kernel
theorem dX5_doTurn_85 : decode cX5_doTurn 85 = .ok (.iconst 1, 1) := by decide +kernel
theorem dX5_doTurn_86 : decode cX5_doTurn 86 = .ok (.iadd, 1) := by decide +kernel
theorem dX5_doTurn_87 : decode cX5_doTurn 87 = .ok (.putfield 79, 3) := by decide +kernel
theorem dX5_doTurn_90 : decode cX5_doTurn 90 = .ok (.aload_n 0, 1) := by decide +kernel
theorem dX5_doTurn_91 : decode cX5_doTurn 91 = .ok (.getfield 33, 3) := by decide +kernel
theorem dX5_doTurn_94 : decode cX5_doTurn 94 = .ok (.getfield 289, 3) := by decide +kernel
theorem dX5_doTurn_97 : decode cX5_doTurn 97 = .ok (.iload_n 3, 1) := by decide +kernel
theorem dX5_doTurn_98 : decode cX5_doTurn 98 = .ok (.iaload, 1) := by decide +kernel
theorem dX5_doTurn_99 : decode cX5_doTurn 99 = .ok (.invokestatic 292, 3) := by decide +kernel
theorem dX5_doTurn_102 : decode cX5_doTurn 102 = .ok (.ifCond .eq 12, 3) := by decide +kernel
theorem dX5_doTurn_105 : decode cX5_doTurn 105 = .ok (.aload_n 0, 1) := by decide +kernel
theorem dX5_doTurn_106 : decode cX5_doTurn 106 = .ok (.aload_n 1, 1) := by decide +kernel
theorem dX5_doTurn_107 : decode cX5_doTurn 107 = .ok (.iload_n 3, 1) := by decide +kernel
theorem dX5_doTurn_108 : decode cX5_doTurn 108 = .ok (.invokevirtual 295, 3) := by decide +kernel
theorem dX5_doTurn_111 : decode cX5_doTurn 111 = .ok (.goto 9, 3) := by decide +kernel
theorem dX5_doTurn_114 : decode cX5_doTurn 114 = .ok (.aload_n 0, 1) := by decide +kernel
theorem dX5_doTurn_115 : decode cX5_doTurn 115 = .ok (.aload_n 1, 1) := by decide +kernel
theorem dX5_doTurn_116 : decode cX5_doTurn 116 = .ok (.iload_n 3, 1) := by decide +kernel
theorem dX5_doTurn_117 : decode cX5_doTurn 117 = .ok (.invokevirtual 298, 3) := by decide +kernel
theorem dX5_doTurn_120 : decode cX5_doTurn 120 = .ok (.istore 4, 2) := by decide +kernel
theorem dX5_doTurn_122 : decode cX5_doTurn 122 = .ok (.aload_n 0, 1) := by decide +kernel
theorem dX5_doTurn_123 : decode cX5_doTurn 123 = .ok (.invokevirtual 167, 3) := by decide +kernel
theorem dX5_doTurn_126 : decode cX5_doTurn 126 = .ok (.aload_n 1, 1) := by decide +kernel
theorem dX5_doTurn_127 : decode cX5_doTurn 127 = .ok (.getfield 94, 3) := by decide +kernel
theorem dX5_doTurn_130 : decode cX5_doTurn 130 = .ok (.ifCond .ne 9, 3) := by decide +kernel
theorem dX5_doTurn_133 : decode cX5_doTurn 133 = .ok (.aload_n 1, 1) := by decide +kernel
theorem dX5_doTurn_134 : decode cX5_doTurn 134 = .ok (.iload 4, 2) := by decide +kernel
theorem dX5_doTurn_136 : decode cX5_doTurn 136 = .ok (.putfield 125, 3) := by decide +kernel
theorem dX5_doTurn_139 : decode cX5_doTurn 139 = .ok (.iinc 2 1, 3) := by decide +kernel
theorem dX5_doTurn_142 : decode cX5_doTurn 142 = .ok (.goto (-115), 3) := by decide +kernel
theorem dX5_doTurn_145 : decode cX5_doTurn 145 = .ok (.aload_n 1, 1) := by decide +kernel
theorem dX5_doTurn_146 : decode cX5_doTurn 146 = .ok (.getfield 94, 3) := by decide +kernel
theorem dX5_doTurn_149 : decode cX5_doTurn 149 = .ok (.ifCond .ne 8, 3) := by decide +kernel
theorem dX5_doTurn_152 : decode cX5_doTurn 152 = .ok (.aload_n 0, 1) := by decide +kernel
theorem dX5_doTurn_153 : decode cX5_doTurn 153 = .ok (.aload_n 1, 1) := by decide +kernel
theorem dX5_doTurn_154 : decode cX5_doTurn 154 = .ok (.invokevirtual 191, 3) := by decide +kernel
theorem dX5_doTurn_157 : decode cX5_doTurn 157 = .ok (.iconst 1, 1) := by decide +kernel
theorem dX5_doTurn_158 : decode cX5_doTurn 158 = .ok (.ireturn, 1) := by decide +kernel
theorem dX5_end_0 : decode cX5_end 0 = .ok (.aload_n 1, 1) := by decide +kernel
theorem dX5_end_1 : decode cX5_end 1 = .ok (.getfield 94, 3) := by decide +kernel
theorem dX5_end_4 : decode cX5_end 4 = .ok (.iconst 2, 1) := by decide +kernel
theorem dX5_end_5 : decode cX5_end 5 = .ok (.if_icmp .eq 12, 3) := by decide +kernel
theorem dX5_end_8 : decode cX5_end 8 = .ok (.aload_n 0, 1) := by decide +kernel
theorem dX5_end_9 : decode cX5_end 9 = .ok (.getfield 85, 3) := by decide +kernel
theorem dX5_end_12 : decode cX5_end 12 = .ok (.bipush 24, 2) := by decide +kernel
theorem dX5_end_14 : decode cX5_end 14 = .ok (.if_icmp .lt 4, 3) := by decide +kernel
theorem dX5_end_17 : decode cX5_end 17 = .ok (.return_, 1) := by decide +kernel
theorem dX5_end_18 : decode cX5_end 18 = .ok (.aload_n 1, 1) := by decide +kernel
theorem dX5_end_19 : decode cX5_end 19 = .ok (.iconst 2, 1) := by decide +kernel
theorem dX5_end_20 : decode cX5_end 20 = .ok (.putfield 94, 3) := by decide +kernel
theorem dX5_end_23 : decode cX5_end 23 = .ok (.aload_n 1, 1) := by decide +kernel
theorem dX5_end_24 : decode cX5_end 24 = .ok (.iload_n 2, 1) := by decide +kernel
theorem dX5_end_25 : decode cX5_end 25 = .ok (.putfield 201, 3) := by decide +kernel
theorem dX5_end_28 : decode cX5_end 28 = .ok (.aload_n 1, 1) := by decide +kernel
theorem dX5_end_29 : decode cX5_end 29 = .ok (.iconst (-1), 1) := by decide +kernel
theorem dX5_end_30 : decode cX5_end 30 = .ok (.putfield 128, 3) := by decide +kernel
theorem dX5_end_33 : decode cX5_end 33 = .ok (.aload_n 1, 1) := by decide +kernel
theorem dX5_end_34 : decode cX5_end 34 = .ok (.getfield 178, 3) := by decide +kernel
theorem dX5_end_37 : decode cX5_end 37 = .ok (.iconst 0, 1) := by decide +kernel
theorem dX5_end_38 : decode cX5_end 38 = .ok (.putfield 204, 3) := by decide +kernel
theorem dX5_end_41 : decode cX5_end 41 = .ok (.iconst 0, 1) := by decide +kernel
theorem dX5_end_42 : decode cX5_end 42 = .ok (.istore_n 3, 1) := by decide +kernel
theorem dX5_end_43 : decode cX5_end 43 = .ok (.iload_n 3, 1) := by decide +kernel
theorem dX5_end_44 : decode cX5_end 44 = .ok (.iconst 4, 1) := by decide +kernel
theorem dX5_end_45 : decode cX5_end 45 = .ok (.if_icmp .ge 29, 3) := by decide +kernel
theorem dX5_end_48 : decode cX5_end 48 = .ok (.aload_n 0, 1) := by decide +kernel
theorem dX5_end_49 : decode cX5_end 49 = .ok (.getfield 15, 3) := by decide +kernel
theorem dX5_end_52 : decode cX5_end 52 = .ok (.iload_n 3, 1) := by decide +kernel
theorem dX5_end_53 : decode cX5_end 53 = .ok (.iaload, 1) := by decide +kernel
theorem dX5_end_54 : decode cX5_end 54 = .ok (.aload_n 1, 1) := by decide +kernel
theorem dX5_end_55 : decode cX5_end 55 = .ok (.getfield 146, 3) := by decide +kernel
theorem dX5_end_58 : decode cX5_end 58 = .ok (.if_icmp .ne 10, 3) := by decide +kernel
theorem dX5_end_61 : decode cX5_end 61 = .ok (.aload_n 0, 1) := by decide +kernel
theorem dX5_end_62 : decode cX5_end 62 = .ok (.getfield 15, 3) := by decide +kernel
theorem dX5_end_65 : decode cX5_end 65 = .ok (.iload_n 3, 1) := by decide +kernel
theorem dX5_end_66 : decode cX5_end 66 = .ok (.iconst (-1), 1) := by decide +kernel
theorem dX5_end_67 : decode cX5_end 67 = .ok (.iastore, 1) := by decide +kernel
theorem dX5_end_68 : decode cX5_end 68 = .ok (.iinc 3 1, 3) := by decide +kernel
theorem dX5_end_71 : decode cX5_end 71 = .ok (.goto (-28), 3) := by decide +kernel
theorem dX5_end_74 : decode cX5_end 74 = .ok (.aload_n 0, 1) := by decide +kernel
theorem dX5_end_75 : decode cX5_end 75 = .ok (.getfield 24, 3) := by decide +kernel
theorem dX5_end_78 : decode cX5_end 78 = .ok (.aload_n 0, 1) := by decide +kernel
theorem dX5_end_79 : decode cX5_end 79 = .ok (.getfield 85, 3) := by decide +kernel
theorem dX5_end_82 : decode cX5_end 82 = .ok (.aload_n 1, 1) := by decide +kernel
theorem dX5_end_83 : decode cX5_end 83 = .ok (.getfield 146, 3) := by decide +kernel
theorem dX5_end_86 : decode cX5_end 86 = .ok (.iastore, 1) := by decide +kernel
theorem dX5_end_87 : decode cX5_end 87 = .ok (.aload_n 0, 1) := by decide +kernel
theorem dX5_end_88 : decode cX5_end 88 = .ok (.dup, 1) := by decide +kernel
theorem dX5_end_89 : decode cX5_end 89 = .ok (.getfield 85, 3) := by decide +kernel
theorem dX5_end_92 : decode cX5_end 92 = .ok (.iconst 1, 1) := by decide +kernel
theorem dX5_end_93 : decode cX5_end 93 = .ok (.iadd, 1) := by decide +kernel
theorem dX5_end_94 : decode cX5_end 94 = .ok (.putfield 85, 3) := by decide +kernel
theorem dX5_end_97 : decode cX5_end 97 = .ok (.return_, 1) := by decide +kernel
theorem dX5_endChildren_0 : decode cX5_endChildren 0 = .ok (.iconst 3, 1) := by decide +kernel
theorem dX5_endChildren_1 : decode cX5_endChildren 1 = .ok (.istore 4, 2) := by decide +kernel
theorem dX5_endChildren_3 : decode cX5_endChildren 3 = .ok (.iload 4, 2) := by decide +kernel
theorem dX5_endChildren_5 : decode cX5_endChildren 5 = .ok (.ifCond .lt 63, 3) := by decide +kernel
theorem dX5_endChildren_8 : decode cX5_endChildren 8 = .ok (.iload 4, 2) := by decide +kernel
theorem dX5_endChildren_10 : decode cX5_endChildren 10 = .ok (.iload_n 2, 1) := by decide +kernel
theorem dX5_endChildren_11 : decode cX5_endChildren 11 = .ok (.if_icmp .lt 57, 3) := by decide +kernel
theorem dX5_endChildren_14 : decode cX5_endChildren 14 = .ok (.aload_n 0, 1) := by decide +kernel
theorem dX5_endChildren_15 : decode cX5_endChildren 15 = .ok (.aload_n 1, 1) := by decide +kernel
theorem dX5_endChildren_16 : decode cX5_endChildren 16 = .ok (.getfield 160, 3) := by decide +kernel
theorem dX5_endChildren_19 : decode cX5_endChildren 19 = .ok (.iload 4, 2) := by decide +kernel
theorem dX5_endChildren_21 : decode cX5_endChildren 21 = .ok (.iaload, 1) := by decide +kernel
theorem dX5_endChildren_22 : decode cX5_endChildren 22 = .ok (.invokevirtual 205, 3) := by decide +kernel
theorem dX5_endChildren_25 : decode cX5_endChildren 25 = .ok (.astore 5, 2) := by decide +kernel
theorem dX5_endChildren_27 : decode cX5_endChildren 27 = .ok (.aload 5, 2) := by decide +kernel
theorem dX5_endChildren_29 : decode cX5_endChildren 29 = .ok (.ifnull 33, 3) := by decide +kernel
theorem dX5_endChildren_32 : decode cX5_endChildren 32 = .ok (.iload 4, 2) := by decide +kernel
theorem dX5_endChildren_34 : decode cX5_endChildren 34 = .ok (.iload_n 3, 1) := by decide +kernel
theorem dX5_endChildren_35 : decode cX5_endChildren 35 = .ok (.if_icmp .ne 6, 3) := by decide +kernel
theorem dX5_endChildren_38 : decode cX5_endChildren 38 = .ok (.goto 24, 3) := by decide +kernel
theorem dX5_endChildren_41 : decode cX5_endChildren 41 = .ok (.aload_n 0, 1) := by decide +kernel
theorem dX5_endChildren_42 : decode cX5_endChildren 42 = .ok (.aload 5, 2) := by decide +kernel
theorem dX5_endChildren_44 : decode cX5_endChildren 44 = .ok (.iconst 5, 1) := by decide +kernel
theorem dX5_endChildren_45 : decode cX5_endChildren 45 = .ok (.invokevirtual 156, 3) := by decide +kernel
theorem dX5_endChildren_48 : decode cX5_endChildren 48 = .ok (.aload 5, 2) := by decide +kernel
theorem dX5_endChildren_50 : decode cX5_endChildren 50 = .ok (.iconst (-1), 1) := by decide +kernel
theorem dX5_endChildren_51 : decode cX5_endChildren 51 = .ok (.putfield 116, 3) := by decide +kernel
theorem dX5_endChildren_54 : decode cX5_endChildren 54 = .ok (.aload_n 1, 1) := by decide +kernel
theorem dX5_endChildren_55 : decode cX5_endChildren 55 = .ok (.getfield 160, 3) := by decide +kernel
theorem dX5_endChildren_58 : decode cX5_endChildren 58 = .ok (.iload 4, 2) := by decide +kernel
theorem dX5_endChildren_60 : decode cX5_endChildren 60 = .ok (.iconst (-1), 1) := by decide +kernel
theorem dX5_endChildren_61 : decode cX5_endChildren 61 = .ok (.iastore, 1) := by decide +kernel
theorem dX5_endChildren_62 : decode cX5_endChildren 62 = .ok (.iinc 4 (-1), 3) := by decide +kernel
theorem dX5_endChildren_65 : decode cX5_endChildren 65 = .ok (.goto (-62), 3) := by decide +kernel
theorem dX5_endChildren_68 : decode cX5_endChildren 68 = .ok (.return_, 1) := by decide +kernel
theorem dX5_endedBehind_0 : decode cX5_endedBehind 0 = .ok (.iconst 0, 1) := by decide +kernel
theorem dX5_endedBehind_1 : decode cX5_endedBehind 1 = .ok (.istore_n 2, 1) := by decide +kernel
theorem dX5_endedBehind_2 : decode cX5_endedBehind 2 = .ok (.iconst 0, 1) := by decide +kernel
theorem dX5_endedBehind_3 : decode cX5_endedBehind 3 = .ok (.iload_n 1, 1) := by decide +kernel
theorem dX5_endedBehind_4 : decode cX5_endedBehind 4 = .ok (.invokestatic 60, 3) := by decide +kernel
theorem dX5_endedBehind_7 : decode cX5_endedBehind 7 = .ok (.istore_n 3, 1) := by decide +kernel
theorem dX5_endedBehind_8 : decode cX5_endedBehind 8 = .ok (.iload_n 3, 1) := by decide +kernel
theorem dX5_endedBehind_9 : decode cX5_endedBehind 9 = .ok (.aload_n 0, 1) := by decide +kernel
theorem dX5_endedBehind_10 : decode cX5_endedBehind 10 = .ok (.getfield 85, 3) := by decide +kernel
theorem dX5_endedBehind_13 : decode cX5_endedBehind 13 = .ok (.if_icmp .ge 26, 3) := by decide +kernel
theorem dX5_endedBehind_16 : decode cX5_endedBehind 16 = .ok (.iload_n 3, 1) := by decide +kernel
theorem dX5_endedBehind_17 : decode cX5_endedBehind 17 = .ok (.bipush 24, 2) := by decide +kernel
theorem dX5_endedBehind_19 : decode cX5_endedBehind 19 = .ok (.if_icmp .ge 20, 3) := by decide +kernel
theorem dX5_endedBehind_22 : decode cX5_endedBehind 22 = .ok (.iload_n 2, 1) := by decide +kernel
theorem dX5_endedBehind_23 : decode cX5_endedBehind 23 = .ok (.iconst 1, 1) := by decide +kernel
theorem dX5_endedBehind_24 : decode cX5_endedBehind 24 = .ok (.aload_n 0, 1) := by decide +kernel
theorem dX5_endedBehind_25 : decode cX5_endedBehind 25 = .ok (.getfield 24, 3) := by decide +kernel
theorem dX5_endedBehind_28 : decode cX5_endedBehind 28 = .ok (.iload_n 3, 1) := by decide +kernel
theorem dX5_endedBehind_29 : decode cX5_endedBehind 29 = .ok (.iaload, 1) := by decide +kernel
theorem dX5_endedBehind_30 : decode cX5_endedBehind 30 = .ok (.ishl, 1) := by decide +kernel
theorem dX5_endedBehind_31 : decode cX5_endedBehind 31 = .ok (.ior, 1) := by decide +kernel
theorem dX5_endedBehind_32 : decode cX5_endedBehind 32 = .ok (.istore_n 2, 1) := by decide +kernel
theorem dX5_endedBehind_33 : decode cX5_endedBehind 33 = .ok (.iinc 3 1, 3) := by decide +kernel
theorem dX5_endedBehind_36 : decode cX5_endedBehind 36 = .ok (.goto (-28), 3) := by decide +kernel
theorem dX5_endedBehind_39 : decode cX5_endedBehind 39 = .ok (.iload_n 2, 1) := by decide +kernel
theorem dX5_endedBehind_40 : decode cX5_endedBehind 40 = .ok (.ireturn, 1) := by decide +kernel
theorem dX5_firstReady_0 : decode cX5_firstReady 0 = .ok (.aconst_null, 1) := by decide +kernel
theorem dX5_firstReady_1 : decode cX5_firstReady 1 = .ok (.astore_n 1, 1) := by decide +kernel
theorem dX5_firstReady_2 : decode cX5_firstReady 2 = .ok (.iconst 0, 1) := by decide +kernel
theorem dX5_firstReady_3 : decode cX5_firstReady 3 = .ok (.istore_n 2, 1) := by decide +kernel
theorem dX5_firstReady_4 : decode cX5_firstReady 4 = .ok (.iload_n 2, 1) := by decide +kernel
theorem dX5_firstReady_5 : decode cX5_firstReady 5 = .ok (.aload_n 0, 1) := by decide +kernel
theorem dX5_firstReady_6 : decode cX5_firstReady 6 = .ok (.getfield 56, 3) := by decide +kernel
theorem dX5_firstReady_9 : decode cX5_firstReady 9 = .ok (.if_icmp .ge 46, 3) := by decide +kernel
theorem dX5_firstReady_12 : decode cX5_firstReady 12 = .ok (.iload_n 2, 1) := by decide +kernel
theorem dX5_firstReady_13 : decode cX5_firstReady 13 = .ok (.bipush 24, 2) := by decide +kernel
theorem dX5_firstReady_15 : decode cX5_firstReady 15 = .ok (.if_icmp .ge 40, 3) := by decide +kernel
theorem dX5_firstReady_18 : decode cX5_firstReady 18 = .ok (.aload_n 0, 1) := by decide +kernel
theorem dX5_firstReady_19 : decode cX5_firstReady 19 = .ok (.getfield 20, 3) := by decide +kernel
theorem dX5_firstReady_22 : decode cX5_firstReady 22 = .ok (.iload_n 2, 1) := by decide +kernel
theorem dX5_firstReady_23 : decode cX5_firstReady 23 = .ok (.aaload, 1) := by decide +kernel
theorem dX5_firstReady_24 : decode cX5_firstReady 24 = .ok (.astore_n 3, 1) := by decide +kernel
theorem dX5_firstReady_25 : decode cX5_firstReady 25 = .ok (.aload_n 3, 1) := by decide +kernel
theorem dX5_firstReady_26 : decode cX5_firstReady 26 = .ok (.getfield 94, 3) := by decide +kernel
theorem dX5_firstReady_29 : decode cX5_firstReady 29 = .ok (.ifCond .ne 20, 3) := by decide +kernel
theorem dX5_firstReady_32 : decode cX5_firstReady 32 = .ok (.aload_n 1, 1) := by decide +kernel
theorem dX5_firstReady_33 : decode cX5_firstReady 33 = .ok (.ifnull 14, 3) := by decide +kernel
theorem dX5_firstReady_36 : decode cX5_firstReady 36 = .ok (.aload_n 3, 1) := by decide +kernel
theorem dX5_firstReady_37 : decode cX5_firstReady 37 = .ok (.getfield 119, 3) := by decide +kernel
theorem dX5_firstReady_40 : decode cX5_firstReady 40 = .ok (.aload_n 1, 1) := by decide +kernel
theorem dX5_firstReady_41 : decode cX5_firstReady 41 = .ok (.getfield 119, 3) := by decide +kernel
theorem dX5_firstReady_44 : decode cX5_firstReady 44 = .ok (.if_icmp .ge 5, 3) := by decide +kernel
theorem dX5_firstReady_47 : decode cX5_firstReady 47 = .ok (.aload_n 3, 1) := by decide +kernel
theorem dX5_firstReady_48 : decode cX5_firstReady 48 = .ok (.astore_n 1, 1) := by decide +kernel
theorem dX5_firstReady_49 : decode cX5_firstReady 49 = .ok (.iinc 2 1, 3) := by decide +kernel
theorem dX5_firstReady_52 : decode cX5_firstReady 52 = .ok (.goto (-48), 3) := by decide +kernel
theorem dX5_firstReady_55 : decode cX5_firstReady 55 = .ok (.aload_n 1, 1) := by decide +kernel
theorem dX5_firstReady_56 : decode cX5_firstReady 56 = .ok (.areturn, 1) := by decide +kernel
theorem dX5_goesOut_0 : decode cX5_goesOut 0 = .ok (.iload_n 0, 1) := by decide +kernel
theorem dX5_goesOut_1 : decode cX5_goesOut 1 = .ok (.tableswitch 65 6 17 #[63, 63, 63, 63, 65, 63, 63, 63, 65, 65, 65, 63], 63) := by decide +kernel
theorem dX5_goesOut_64 : decode cX5_goesOut 64 = .ok (.iconst 1, 1) := by decide +kernel
theorem dX5_goesOut_65 : decode cX5_goesOut 65 = .ok (.ireturn, 1) := by decide +kernel
theorem dX5_goesOut_66 : decode cX5_goesOut 66 = .ok (.iconst 0, 1) := by decide +kernel
theorem dX5_goesOut_67 : decode cX5_goesOut 67 = .ok (.ireturn, 1) := by decide +kernel
theorem dX5_hadSupervisor_0 : decode cX5_hadSupervisor 0 = .ok (.iconst 0, 1) := by decide +kernel
theorem dX5_hadSupervisor_1 : decode cX5_hadSupervisor 1 = .ok (.istore_n 2, 1) := by decide +kernel
theorem dX5_hadSupervisor_2 : decode cX5_hadSupervisor 2 = .ok (.iload_n 2, 1) := by decide +kernel
theorem dX5_hadSupervisor_3 : decode cX5_hadSupervisor 3 = .ok (.aload_n 0, 1) := by decide +kernel
theorem dX5_hadSupervisor_4 : decode cX5_hadSupervisor 4 = .ok (.getfield 56, 3) := by decide +kernel
theorem dX5_hadSupervisor_7 : decode cX5_hadSupervisor 7 = .ok (.if_icmp .ge 30, 3) := by decide +kernel
theorem dX5_hadSupervisor_10 : decode cX5_hadSupervisor 10 = .ok (.iload_n 2, 1) := by decide +kernel
theorem dX5_hadSupervisor_11 : decode cX5_hadSupervisor 11 = .ok (.bipush 24, 2) := by decide +kernel
theorem dX5_hadSupervisor_13 : decode cX5_hadSupervisor 13 = .ok (.if_icmp .ge 24, 3) := by decide +kernel
theorem dX5_hadSupervisor_16 : decode cX5_hadSupervisor 16 = .ok (.aload_n 0, 1) := by decide +kernel
theorem dX5_hadSupervisor_17 : decode cX5_hadSupervisor 17 = .ok (.getfield 20, 3) := by decide +kernel
theorem dX5_hadSupervisor_20 : decode cX5_hadSupervisor 20 = .ok (.iload_n 2, 1) := by decide +kernel
theorem dX5_hadSupervisor_21 : decode cX5_hadSupervisor 21 = .ok (.aaload, 1) := by decide +kernel
theorem dX5_hadSupervisor_22 : decode cX5_hadSupervisor 22 = .ok (.getfield 122, 3) := by decide +kernel
theorem dX5_hadSupervisor_25 : decode cX5_hadSupervisor 25 = .ok (.iload_n 1, 1) := by decide +kernel
theorem dX5_hadSupervisor_26 : decode cX5_hadSupervisor 26 = .ok (.if_icmp .ne 5, 3) := by decide +kernel
theorem dX5_hadSupervisor_29 : decode cX5_hadSupervisor 29 = .ok (.iconst 1, 1) := by decide +kernel
theorem dX5_hadSupervisor_30 : decode cX5_hadSupervisor 30 = .ok (.ireturn, 1) := by decide +kernel
theorem dX5_hadSupervisor_31 : decode cX5_hadSupervisor 31 = .ok (.iinc 2 1, 3) := by decide +kernel
theorem dX5_hadSupervisor_34 : decode cX5_hadSupervisor 34 = .ok (.goto (-32), 3) := by decide +kernel
theorem dX5_hadSupervisor_37 : decode cX5_hadSupervisor 37 = .ok (.iconst 0, 1) := by decide +kernel
theorem dX5_hadSupervisor_38 : decode cX5_hadSupervisor 38 = .ok (.ireturn, 1) := by decide +kernel
theorem dX5_holderOf_0 : decode cX5_holderOf 0 = .ok (.iload_n 1, 1) := by decide +kernel
theorem dX5_holderOf_1 : decode cX5_holderOf 1 = .ok (.iconst 0, 1) := by decide +kernel
theorem dX5_holderOf_2 : decode cX5_holderOf 2 = .ok (.iconst 3, 1) := by decide +kernel
theorem dX5_holderOf_3 : decode cX5_holderOf 3 = .ok (.invokestatic 103, 3) := by decide +kernel
theorem dX5_holderOf_6 : decode cX5_holderOf 6 = .ok (.ifCond .eq 12, 3) := by decide +kernel
theorem dX5_holderOf_9 : decode cX5_holderOf 9 = .ok (.aload_n 0, 1) := by decide +kernel
theorem dX5_holderOf_10 : decode cX5_holderOf 10 = .ok (.getfield 15, 3) := by decide +kernel
theorem dX5_holderOf_13 : decode cX5_holderOf 13 = .ok (.iload_n 1, 1) := by decide +kernel
theorem dX5_holderOf_14 : decode cX5_holderOf 14 = .ok (.iaload, 1) := by decide +kernel
theorem dX5_holderOf_15 : decode cX5_holderOf 15 = .ok (.goto 4, 3) := by decide +kernel
theorem dX5_holderOf_18 : decode cX5_holderOf 18 = .ok (.iconst (-1), 1) := by decide +kernel
theorem dX5_holderOf_19 : decode cX5_holderOf 19 = .ok (.ireturn, 1) := by decide +kernel
theorem dX5_init_0 : decode cX5_init 0 = .ok (.aload_n 0, 1) := by decide +kernel
theorem dX5_init_1 : decode cX5_init 1 = .ok (.invokespecial 3, 3) := by decide +kernel
theorem dX5_init_4 : decode cX5_init 4 = .ok (.aload_n 0, 1) := by decide +kernel
theorem dX5_init_5 : decode cX5_init 5 = .ok (.iconst 4, 1) := by decide +kernel
theorem dX5_init_6 : decode cX5_init 6 = .ok (.newarray .int, 2) := by decide +kernel
theorem dX5_init_8 : decode cX5_init 8 = .ok (.putfield 9, 3) := by decide +kernel
theorem dX5_init_11 : decode cX5_init 11 = .ok (.aload_n 0, 1) := by decide +kernel
theorem dX5_init_12 : decode cX5_init 12 = .ok (.iconst 4, 1) := by decide +kernel
theorem dX5_init_13 : decode cX5_init 13 = .ok (.newarray .int, 2) := by decide +kernel
theorem dX5_init_15 : decode cX5_init 15 = .ok (.putfield 15, 3) := by decide +kernel
theorem dX5_init_18 : decode cX5_init 18 = .ok (.aload_n 0, 1) := by decide +kernel
theorem dX5_init_19 : decode cX5_init 19 = .ok (.bipush 24, 2) := by decide +kernel
theorem dX5_init_21 : decode cX5_init 21 = .ok (.anewarray 18, 3) := by decide +kernel
theorem dX5_init_24 : decode cX5_init 24 = .ok (.putfield 20, 3) := by decide +kernel
theorem dX5_init_27 : decode cX5_init 27 = .ok (.aload_n 0, 1) := by decide +kernel
theorem dX5_init_28 : decode cX5_init 28 = .ok (.bipush 24, 2) := by decide +kernel
theorem dX5_init_30 : decode cX5_init 30 = .ok (.newarray .int, 2) := by decide +kernel
theorem dX5_init_32 : decode cX5_init 32 = .ok (.putfield 24, 3) := by decide +kernel
theorem dX5_init_35 : decode cX5_init 35 = .ok (.aload_n 0, 1) := by decide +kernel
theorem dX5_init_36 : decode cX5_init 36 = .ok (.bipush 48, 2) := by decide +kernel
theorem dX5_init_38 : decode cX5_init 38 = .ok (.newarray .int, 2) := by decide +kernel
theorem dX5_init_40 : decode cX5_init 40 = .ok (.putfield 27, 3) := by decide +kernel
theorem dX5_init_43 : decode cX5_init 43 = .ok (.aload_n 0, 1) := by decide +kernel
theorem dX5_init_44 : decode cX5_init 44 = .ok (.bipush 48, 2) := by decide +kernel
theorem dX5_init_46 : decode cX5_init 46 = .ok (.newarray .int, 2) := by decide +kernel
theorem dX5_init_48 : decode cX5_init 48 = .ok (.putfield 30, 3) := by decide +kernel
theorem dX5_init_51 : decode cX5_init 51 = .ok (.aload_n 0, 1) := by decide +kernel
theorem dX5_init_52 : decode cX5_init 52 = .ok (.aload_n 1, 1) := by decide +kernel
theorem dX5_init_53 : decode cX5_init 53 = .ok (.putfield 33, 3) := by decide +kernel
theorem dX5_init_56 : decode cX5_init 56 = .ok (.aload_n 0, 1) := by decide +kernel
theorem dX5_init_57 : decode cX5_init 57 = .ok (.aload_n 2, 1) := by decide +kernel
theorem dX5_init_58 : decode cX5_init 58 = .ok (.putfield 37, 3) := by decide +kernel
theorem dX5_init_61 : decode cX5_init 61 = .ok (.aload_n 0, 1) := by decide +kernel
theorem dX5_init_62 : decode cX5_init 62 = .ok (.getfield 15, 3) := by decide +kernel
theorem dX5_init_65 : decode cX5_init 65 = .ok (.iconst (-1), 1) := by decide +kernel
theorem dX5_init_66 : decode cX5_init 66 = .ok (.invokestatic 41, 3) := by decide +kernel
theorem dX5_init_69 : decode cX5_init 69 = .ok (.iconst 0, 1) := by decide +kernel
theorem dX5_init_70 : decode cX5_init 70 = .ok (.istore_n 3, 1) := by decide +kernel
theorem dX5_init_71 : decode cX5_init 71 = .ok (.iload_n 3, 1) := by decide +kernel
theorem dX5_init_72 : decode cX5_init 72 = .ok (.bipush 24, 2) := by decide +kernel
theorem dX5_init_74 : decode cX5_init 74 = .ok (.if_icmp .ge 23, 3) := by decide +kernel
theorem dX5_init_77 : decode cX5_init 77 = .ok (.aload_n 0, 1) := by decide +kernel
theorem dX5_init_78 : decode cX5_init 78 = .ok (.getfield 20, 3) := by decide +kernel
theorem dX5_init_81 : decode cX5_init 81 = .ok (.iload_n 3, 1) := by decide +kernel
theorem dX5_init_82 : decode cX5_init 82 = .ok (.new 18, 3) := by decide +kernel
theorem dX5_init_85 : decode cX5_init 85 = .ok (.dup, 1) := by decide +kernel
theorem dX5_init_86 : decode cX5_init 86 = .ok (.iload_n 3, 1) := by decide +kernel
theorem dX5_init_87 : decode cX5_init 87 = .ok (.invokespecial 47, 3) := by decide +kernel
theorem dX5_init_90 : decode cX5_init 90 = .ok (.aastore, 1) := by decide +kernel
theorem dX5_init_91 : decode cX5_init 91 = .ok (.iinc 3 1, 3) := by decide +kernel
theorem dX5_init_94 : decode cX5_init 94 = .ok (.goto (-23), 3) := by decide +kernel
theorem dX5_init_97 : decode cX5_init 97 = .ok (.return_, 1) := by decide +kernel
theorem dX5_isCurrentUsed_0 : decode cX5_isCurrentUsed 0 = .ok (.iconst 0, 1) := by decide +kernel
theorem dX5_isCurrentUsed_1 : decode cX5_isCurrentUsed 1 = .ok (.istore_n 2, 1) := by decide +kernel
theorem dX5_isCurrentUsed_2 : decode cX5_isCurrentUsed 2 = .ok (.iload_n 2, 1) := by decide +kernel
theorem dX5_isCurrentUsed_3 : decode cX5_isCurrentUsed 3 = .ok (.aload_n 0, 1) := by decide +kernel
theorem dX5_isCurrentUsed_4 : decode cX5_isCurrentUsed 4 = .ok (.getfield 56, 3) := by decide +kernel
theorem dX5_isCurrentUsed_7 : decode cX5_isCurrentUsed 7 = .ok (.if_icmp .ge 47, 3) := by decide +kernel
theorem dX5_isCurrentUsed_10 : decode cX5_isCurrentUsed 10 = .ok (.iload_n 2, 1) := by decide +kernel
theorem dX5_isCurrentUsed_11 : decode cX5_isCurrentUsed 11 = .ok (.bipush 24, 2) := by decide +kernel
theorem dX5_isCurrentUsed_13 : decode cX5_isCurrentUsed 13 = .ok (.if_icmp .ge 41, 3) := by decide +kernel
theorem dX5_isCurrentUsed_16 : decode cX5_isCurrentUsed 16 = .ok (.aload_n 0, 1) := by decide +kernel
theorem dX5_isCurrentUsed_17 : decode cX5_isCurrentUsed 17 = .ok (.getfield 20, 3) := by decide +kernel
theorem dX5_isCurrentUsed_20 : decode cX5_isCurrentUsed 20 = .ok (.iload_n 2, 1) := by decide +kernel
theorem dX5_isCurrentUsed_21 : decode cX5_isCurrentUsed 21 = .ok (.aaload, 1) := by decide +kernel
theorem dX5_isCurrentUsed_22 : decode cX5_isCurrentUsed 22 = .ok (.getfield 110, 3) := by decide +kernel
theorem dX5_isCurrentUsed_25 : decode cX5_isCurrentUsed 25 = .ok (.iload_n 1, 1) := by decide +kernel
theorem dX5_isCurrentUsed_26 : decode cX5_isCurrentUsed 26 = .ok (.if_icmp .ne 22, 3) := by decide +kernel
theorem dX5_isCurrentUsed_29 : decode cX5_isCurrentUsed 29 = .ok (.aload_n 0, 1) := by decide +kernel
theorem dX5_isCurrentUsed_30 : decode cX5_isCurrentUsed 30 = .ok (.getfield 20, 3) := by decide +kernel
theorem dX5_isCurrentUsed_33 : decode cX5_isCurrentUsed 33 = .ok (.iload_n 2, 1) := by decide +kernel
theorem dX5_isCurrentUsed_34 : decode cX5_isCurrentUsed 34 = .ok (.aaload, 1) := by decide +kernel
theorem dX5_isCurrentUsed_35 : decode cX5_isCurrentUsed 35 = .ok (.getfield 113, 3) := by decide +kernel
theorem dX5_isCurrentUsed_38 : decode cX5_isCurrentUsed 38 = .ok (.aload_n 0, 1) := by decide +kernel
theorem dX5_isCurrentUsed_39 : decode cX5_isCurrentUsed 39 = .ok (.iload_n 1, 1) := by decide +kernel
theorem dX5_isCurrentUsed_40 : decode cX5_isCurrentUsed 40 = .ok (.invokevirtual 326, 3) := by decide +kernel
theorem dX5_isCurrentUsed_43 : decode cX5_isCurrentUsed 43 = .ok (.if_icmp .ne 5, 3) := by decide +kernel
theorem dX5_isCurrentUsed_46 : decode cX5_isCurrentUsed 46 = .ok (.iconst 1, 1) := by decide +kernel
theorem dX5_isCurrentUsed_47 : decode cX5_isCurrentUsed 47 = .ok (.ireturn, 1) := by decide +kernel
theorem dX5_isCurrentUsed_48 : decode cX5_isCurrentUsed 48 = .ok (.iinc 2 1, 3) := by decide +kernel
theorem dX5_isCurrentUsed_51 : decode cX5_isCurrentUsed 51 = .ok (.goto (-49), 3) := by decide +kernel
theorem dX5_isCurrentUsed_54 : decode cX5_isCurrentUsed 54 = .ok (.iconst 0, 1) := by decide +kernel
theorem dX5_isCurrentUsed_55 : decode cX5_isCurrentUsed 55 = .ok (.ireturn, 1) := by decide +kernel
theorem dX5_link_0 : decode cX5_link 0 = .ok (.aload_n 1, 1) := by decide +kernel
theorem dX5_link_1 : decode cX5_link 1 = .ok (.aload_n 2, 1) := by decide +kernel
theorem dX5_link_2 : decode cX5_link 2 = .ok (.if_acmp .eq 33, 3) := by decide +kernel
theorem dX5_link_5 : decode cX5_link 5 = .ok (.aload_n 1, 1) := by decide +kernel
theorem dX5_link_6 : decode cX5_link 6 = .ok (.dup, 1) := by decide +kernel
theorem dX5_link_7 : decode cX5_link 7 = .ok (.getfield 242, 3) := by decide +kernel
theorem dX5_link_10 : decode cX5_link 10 = .ok (.iconst 1, 1) := by decide +kernel
theorem dX5_link_11 : decode cX5_link 11 = .ok (.aload_n 2, 1) := by decide +kernel
theorem dX5_link_12 : decode cX5_link 12 = .ok (.getfield 146, 3) := by decide +kernel
theorem dX5_link_15 : decode cX5_link 15 = .ok (.ishl, 1) := by decide +kernel
theorem dX5_link_16 : decode cX5_link 16 = .ok (.ior, 1) := by decide +kernel
theorem dX5_link_17 : decode cX5_link 17 = .ok (.putfield 242, 3) := by decide +kernel
theorem dX5_link_20 : decode cX5_link 20 = .ok (.aload_n 2, 1) := by decide +kernel
theorem dX5_link_21 : decode cX5_link 21 = .ok (.dup, 1) := by decide +kernel
theorem dX5_link_22 : decode cX5_link 22 = .ok (.getfield 242, 3) := by decide +kernel
theorem dX5_link_25 : decode cX5_link 25 = .ok (.iconst 1, 1) := by decide +kernel
theorem dX5_link_26 : decode cX5_link 26 = .ok (.aload_n 1, 1) := by decide +kernel
theorem dX5_link_27 : decode cX5_link 27 = .ok (.getfield 146, 3) := by decide +kernel
theorem dX5_link_30 : decode cX5_link 30 = .ok (.ishl, 1) := by decide +kernel
theorem dX5_link_31 : decode cX5_link 31 = .ok (.ior, 1) := by decide +kernel
theorem dX5_link_32 : decode cX5_link 32 = .ok (.putfield 242, 3) := by decide +kernel
theorem dX5_link_35 : decode cX5_link 35 = .ok (.return_, 1) := by decide +kernel
theorem dX5_linkCount_0 : decode cX5_linkCount 0 = .ok (.iconst 0, 1) := by decide +kernel
theorem dX5_linkCount_1 : decode cX5_linkCount 1 = .ok (.istore_n 1, 1) := by decide +kernel
theorem dX5_linkCount_2 : decode cX5_linkCount 2 = .ok (.iconst 0, 1) := by decide +kernel
theorem dX5_linkCount_3 : decode cX5_linkCount 3 = .ok (.istore_n 2, 1) := by decide +kernel
theorem dX5_linkCount_4 : decode cX5_linkCount 4 = .ok (.iload_n 2, 1) := by decide +kernel
theorem dX5_linkCount_5 : decode cX5_linkCount 5 = .ok (.aload_n 0, 1) := by decide +kernel
theorem dX5_linkCount_6 : decode cX5_linkCount 6 = .ok (.getfield 56, 3) := by decide +kernel
theorem dX5_linkCount_9 : decode cX5_linkCount 9 = .ok (.if_icmp .ge 30, 3) := by decide +kernel
theorem dX5_linkCount_12 : decode cX5_linkCount 12 = .ok (.iload_n 2, 1) := by decide +kernel
theorem dX5_linkCount_13 : decode cX5_linkCount 13 = .ok (.bipush 24, 2) := by decide +kernel
theorem dX5_linkCount_15 : decode cX5_linkCount 15 = .ok (.if_icmp .ge 24, 3) := by decide +kernel
theorem dX5_linkCount_18 : decode cX5_linkCount 18 = .ok (.iload_n 1, 1) := by decide +kernel
theorem dX5_linkCount_19 : decode cX5_linkCount 19 = .ok (.aload_n 0, 1) := by decide +kernel
theorem dX5_linkCount_20 : decode cX5_linkCount 20 = .ok (.getfield 20, 3) := by decide +kernel
theorem dX5_linkCount_23 : decode cX5_linkCount 23 = .ok (.iload_n 2, 1) := by decide +kernel
theorem dX5_linkCount_24 : decode cX5_linkCount 24 = .ok (.aaload, 1) := by decide +kernel
theorem dX5_linkCount_25 : decode cX5_linkCount 25 = .ok (.getfield 242, 3) := by decide +kernel
theorem dX5_linkCount_28 : decode cX5_linkCount 28 = .ok (.invokestatic 348, 3) := by decide +kernel
theorem dX5_linkCount_31 : decode cX5_linkCount 31 = .ok (.iadd, 1) := by decide +kernel
theorem dX5_linkCount_32 : decode cX5_linkCount 32 = .ok (.istore_n 1, 1) := by decide +kernel
theorem dX5_linkCount_33 : decode cX5_linkCount 33 = .ok (.iinc 2 1, 3) := by decide +kernel
theorem dX5_linkCount_36 : decode cX5_linkCount 36 = .ok (.goto (-32), 3) := by decide +kernel
theorem dX5_linkCount_39 : decode cX5_linkCount 39 = .ok (.iload_n 1, 1) := by decide +kernel
theorem dX5_linkCount_40 : decode cX5_linkCount 40 = .ok (.iconst 2, 1) := by decide +kernel
theorem dX5_linkCount_41 : decode cX5_linkCount 41 = .ok (.idiv, 1) := by decide +kernel
theorem dX5_linkCount_42 : decode cX5_linkCount 42 = .ok (.ireturn, 1) := by decide +kernel
theorem dX5_living_0 : decode cX5_living 0 = .ok (.iload_n 1, 1) := by decide +kernel
theorem dX5_living_1 : decode cX5_living 1 = .ok (.ifCond .lt 17, 3) := by decide +kernel
theorem dX5_living_4 : decode cX5_living 4 = .ok (.iload_n 1, 1) := by decide +kernel
theorem dX5_living_5 : decode cX5_living 5 = .ok (.aload_n 0, 1) := by decide +kernel
theorem dX5_living_6 : decode cX5_living 6 = .ok (.getfield 56, 3) := by decide +kernel
theorem dX5_living_9 : decode cX5_living 9 = .ok (.if_icmp .ge 9, 3) := by decide +kernel
theorem dX5_living_12 : decode cX5_living 12 = .ok (.iload_n 1, 1) := by decide +kernel
theorem dX5_living_13 : decode cX5_living 13 = .ok (.bipush 24, 2) := by decide +kernel
theorem dX5_living_15 : decode cX5_living 15 = .ok (.if_icmp .lt 5, 3) := by decide +kernel
theorem dX5_living_18 : decode cX5_living 18 = .ok (.aconst_null, 1) := by decide +kernel
theorem dX5_living_19 : decode cX5_living 19 = .ok (.areturn, 1) := by decide +kernel
theorem dX5_living_20 : decode cX5_living 20 = .ok (.aload_n 0, 1) := by decide +kernel
theorem dX5_living_21 : decode cX5_living 21 = .ok (.getfield 20, 3) := by decide +kernel
theorem dX5_living_24 : decode cX5_living 24 = .ok (.iload_n 1, 1) := by decide +kernel
theorem dX5_living_25 : decode cX5_living 25 = .ok (.aaload, 1) := by decide +kernel
theorem dX5_living_26 : decode cX5_living 26 = .ok (.getfield 94, 3) := by decide +kernel
theorem dX5_living_29 : decode cX5_living 29 = .ok (.iconst 2, 1) := by decide +kernel
theorem dX5_living_30 : decode cX5_living 30 = .ok (.if_icmp .ne 7, 3) := by decide +kernel
theorem dX5_living_33 : decode cX5_living 33 = .ok (.aconst_null, 1) := by decide +kernel
theorem dX5_living_34 : decode cX5_living 34 = .ok (.goto 9, 3) := by decide +kernel
theorem dX5_living_37 : decode cX5_living 37 = .ok (.aload_n 0, 1) := by decide +kernel
theorem dX5_living_38 : decode cX5_living 38 = .ok (.getfield 20, 3) := by decide +kernel
theorem dX5_living_41 : decode cX5_living 41 = .ok (.iload_n 1, 1) := by decide +kernel
theorem dX5_living_42 : decode cX5_living 42 = .ok (.aaload, 1) := by decide +kernel
theorem dX5_living_43 : decode cX5_living 43 = .ok (.areturn, 1) := by decide +kernel
theorem dX5_loadModule_0 : decode cX5_loadModule 0 = .ok (.aload_n 0, 1) := by decide +kernel
theorem dX5_loadModule_1 : decode cX5_loadModule 1 = .ok (.getfield 33, 3) := by decide +kernel
theorem dX5_loadModule_4 : decode cX5_loadModule 4 = .ok (.iload_n 1, 1) := by decide +kernel
theorem dX5_loadModule_5 : decode cX5_loadModule 5 = .ok (.invokevirtual 97, 3) := by decide +kernel
theorem dX5_loadModule_8 : decode cX5_loadModule 8 = .ok (.ifCond .ne 4, 3) := by decide +kernel
theorem dX5_loadModule_11 : decode cX5_loadModule 11 = .ok (.return_, 1) := by decide +kernel
theorem dX5_loadModule_12 : decode cX5_loadModule 12 = .ok (.aload_n 0, 1) := by decide +kernel
theorem dX5_loadModule_13 : decode cX5_loadModule 13 = .ok (.getfield 9, 3) := by decide +kernel
theorem dX5_loadModule_16 : decode cX5_loadModule 16 = .ok (.iload_n 1, 1) := by decide +kernel
theorem dX5_loadModule_17 : decode cX5_loadModule 17 = .ok (.iaload, 1) := by decide +kernel
theorem dX5_loadModule_18 : decode cX5_loadModule 18 = .ok (.istore_n 2, 1) := by decide +kernel
theorem dX5_loadModule_19 : decode cX5_loadModule 19 = .ok (.aload_n 0, 1) := by decide +kernel
theorem dX5_loadModule_20 : decode cX5_loadModule 20 = .ok (.getfield 9, 3) := by decide +kernel
theorem dX5_loadModule_23 : decode cX5_loadModule 23 = .ok (.iload_n 1, 1) := by decide +kernel
theorem dX5_loadModule_24 : decode cX5_loadModule 24 = .ok (.iload_n 2, 1) := by decide +kernel
theorem dX5_loadModule_25 : decode cX5_loadModule 25 = .ok (.iconst 1, 1) := by decide +kernel
theorem dX5_loadModule_26 : decode cX5_loadModule 26 = .ok (.iadd, 1) := by decide +kernel
theorem dX5_loadModule_27 : decode cX5_loadModule 27 = .ok (.iastore, 1) := by decide +kernel
theorem dX5_loadModule_28 : decode cX5_loadModule 28 = .ok (.iconst 0, 1) := by decide +kernel
theorem dX5_loadModule_29 : decode cX5_loadModule 29 = .ok (.istore_n 3, 1) := by decide +kernel
theorem dX5_loadModule_30 : decode cX5_loadModule 30 = .ok (.iload_n 3, 1) := by decide +kernel
theorem dX5_loadModule_31 : decode cX5_loadModule 31 = .ok (.aload_n 0, 1) := by decide +kernel
theorem dX5_loadModule_32 : decode cX5_loadModule 32 = .ok (.getfield 56, 3) := by decide +kernel
theorem dX5_loadModule_35 : decode cX5_loadModule 35 = .ok (.if_icmp .ge 62, 3) := by decide +kernel
theorem dX5_loadModule_38 : decode cX5_loadModule 38 = .ok (.iload_n 3, 1) := by decide +kernel
theorem dX5_loadModule_39 : decode cX5_loadModule 39 = .ok (.bipush 24, 2) := by decide +kernel
theorem dX5_loadModule_41 : decode cX5_loadModule 41 = .ok (.if_icmp .ge 56, 3) := by decide +kernel
theorem dX5_loadModule_44 : decode cX5_loadModule 44 = .ok (.aload_n 0, 1) := by decide +kernel
theorem dX5_loadModule_45 : decode cX5_loadModule 45 = .ok (.getfield 20, 3) := by decide +kernel
theorem dX5_loadModule_48 : decode cX5_loadModule 48 = .ok (.iload_n 3, 1) := by decide +kernel
theorem dX5_loadModule_49 : decode cX5_loadModule 49 = .ok (.aaload, 1) := by decide +kernel
theorem dX5_loadModule_50 : decode cX5_loadModule 50 = .ok (.astore 4, 2) := by decide +kernel
theorem dX5_loadModule_52 : decode cX5_loadModule 52 = .ok (.aload 4, 2) := by decide +kernel
theorem dX5_loadModule_54 : decode cX5_loadModule 54 = .ok (.getfield 94, 3) := by decide +kernel
theorem dX5_loadModule_57 : decode cX5_loadModule 57 = .ok (.iconst 2, 1) := by decide +kernel
theorem dX5_loadModule_58 : decode cX5_loadModule 58 = .ok (.if_icmp .eq 33, 3) := by decide +kernel
theorem dX5_loadModule_61 : decode cX5_loadModule 61 = .ok (.aload 4, 2) := by decide +kernel
theorem dX5_loadModule_63 : decode cX5_loadModule 63 = .ok (.getfield 110, 3) := by decide +kernel
theorem dX5_loadModule_66 : decode cX5_loadModule 66 = .ok (.iload_n 1, 1) := by decide +kernel
theorem dX5_loadModule_67 : decode cX5_loadModule 67 = .ok (.if_icmp .ne 24, 3) := by decide +kernel
theorem dX5_loadModule_70 : decode cX5_loadModule 70 = .ok (.aload 4, 2) := by decide +kernel
theorem dX5_loadModule_72 : decode cX5_loadModule 72 = .ok (.getfield 113, 3) := by decide +kernel
theorem dX5_loadModule_75 : decode cX5_loadModule 75 = .ok (.iload_n 2, 1) := by decide +kernel
theorem dX5_loadModule_76 : decode cX5_loadModule 76 = .ok (.if_icmp .ge 15, 3) := by decide +kernel
theorem dX5_loadModule_79 : decode cX5_loadModule 79 = .ok (.aload_n 0, 1) := by decide +kernel
theorem dX5_loadModule_80 : decode cX5_loadModule 80 = .ok (.aload 4, 2) := by decide +kernel
theorem dX5_loadModule_82 : decode cX5_loadModule 82 = .ok (.bipush 8, 2) := by decide +kernel
theorem dX5_loadModule_84 : decode cX5_loadModule 84 = .ok (.invokevirtual 156, 3) := by decide +kernel
theorem dX5_loadModule_87 : decode cX5_loadModule 87 = .ok (.aload_n 0, 1) := by decide +kernel
theorem dX5_loadModule_88 : decode cX5_loadModule 88 = .ok (.invokevirtual 167, 3) := by decide +kernel
theorem dX5_loadModule_91 : decode cX5_loadModule 91 = .ok (.iinc 3 1, 3) := by decide +kernel
theorem dX5_loadModule_94 : decode cX5_loadModule 94 = .ok (.goto (-64), 3) := by decide +kernel
theorem dX5_loadModule_97 : decode cX5_loadModule 97 = .ok (.return_, 1) := by decide +kernel
theorem dX5_madeOf_0 : decode cX5_madeOf 0 = .ok (.iconst 0, 1) := by decide +kernel
theorem dX5_madeOf_1 : decode cX5_madeOf 1 = .ok (.istore_n 2, 1) := by decide +kernel
theorem dX5_madeOf_2 : decode cX5_madeOf 2 = .ok (.iconst 0, 1) := by decide +kernel
theorem dX5_madeOf_3 : decode cX5_madeOf 3 = .ok (.istore_n 3, 1) := by decide +kernel
theorem dX5_madeOf_4 : decode cX5_madeOf 4 = .ok (.iload_n 3, 1) := by decide +kernel
theorem dX5_madeOf_5 : decode cX5_madeOf 5 = .ok (.aload_n 0, 1) := by decide +kernel
theorem dX5_madeOf_6 : decode cX5_madeOf 6 = .ok (.getfield 56, 3) := by decide +kernel
theorem dX5_madeOf_9 : decode cX5_madeOf 9 = .ok (.if_icmp .ge 31, 3) := by decide +kernel
theorem dX5_madeOf_12 : decode cX5_madeOf 12 = .ok (.iload_n 3, 1) := by decide +kernel
theorem dX5_madeOf_13 : decode cX5_madeOf 13 = .ok (.bipush 24, 2) := by decide +kernel
theorem dX5_madeOf_15 : decode cX5_madeOf 15 = .ok (.if_icmp .ge 25, 3) := by decide +kernel
theorem dX5_madeOf_18 : decode cX5_madeOf 18 = .ok (.aload_n 0, 1) := by decide +kernel
theorem dX5_madeOf_19 : decode cX5_madeOf 19 = .ok (.getfield 20, 3) := by decide +kernel
theorem dX5_madeOf_22 : decode cX5_madeOf 22 = .ok (.iload_n 3, 1) := by decide +kernel
theorem dX5_madeOf_23 : decode cX5_madeOf 23 = .ok (.aaload, 1) := by decide +kernel
theorem dX5_madeOf_24 : decode cX5_madeOf 24 = .ok (.getfield 110, 3) := by decide +kernel
theorem dX5_madeOf_27 : decode cX5_madeOf 27 = .ok (.iload_n 1, 1) := by decide +kernel
theorem dX5_madeOf_28 : decode cX5_madeOf 28 = .ok (.if_icmp .ne 6, 3) := by decide +kernel
theorem dX5_madeOf_31 : decode cX5_madeOf 31 = .ok (.iinc 2 1, 3) := by decide +kernel
theorem dX5_madeOf_34 : decode cX5_madeOf 34 = .ok (.iinc 3 1, 3) := by decide +kernel
theorem dX5_madeOf_37 : decode cX5_madeOf 37 = .ok (.goto (-33), 3) := by decide +kernel
theorem dX5_madeOf_40 : decode cX5_madeOf 40 = .ok (.iload_n 2, 1) := by decide +kernel
theorem dX5_madeOf_41 : decode cX5_madeOf 41 = .ok (.ireturn, 1) := by decide +kernel
theorem dX5_mailCount_0 : decode cX5_mailCount 0 = .ok (.iconst 0, 1) := by decide +kernel
theorem dX5_mailCount_1 : decode cX5_mailCount 1 = .ok (.istore_n 1, 1) := by decide +kernel
theorem dX5_mailCount_2 : decode cX5_mailCount 2 = .ok (.iconst 0, 1) := by decide +kernel
theorem dX5_mailCount_3 : decode cX5_mailCount 3 = .ok (.istore_n 2, 1) := by decide +kernel
theorem dX5_mailCount_4 : decode cX5_mailCount 4 = .ok (.iload_n 2, 1) := by decide +kernel
theorem dX5_mailCount_5 : decode cX5_mailCount 5 = .ok (.aload_n 0, 1) := by decide +kernel
theorem dX5_mailCount_6 : decode cX5_mailCount 6 = .ok (.getfield 56, 3) := by decide +kernel
theorem dX5_mailCount_9 : decode cX5_mailCount 9 = .ok (.if_icmp .ge 30, 3) := by decide +kernel
theorem dX5_mailCount_12 : decode cX5_mailCount 12 = .ok (.iload_n 2, 1) := by decide +kernel
theorem dX5_mailCount_13 : decode cX5_mailCount 13 = .ok (.bipush 24, 2) := by decide +kernel
theorem dX5_mailCount_15 : decode cX5_mailCount 15 = .ok (.if_icmp .ge 24, 3) := by decide +kernel
theorem dX5_mailCount_18 : decode cX5_mailCount 18 = .ok (.iload_n 1, 1) := by decide +kernel
theorem dX5_mailCount_19 : decode cX5_mailCount 19 = .ok (.aload_n 0, 1) := by decide +kernel
theorem dX5_mailCount_20 : decode cX5_mailCount 20 = .ok (.getfield 20, 3) := by decide +kernel
theorem dX5_mailCount_23 : decode cX5_mailCount 23 = .ok (.iload_n 2, 1) := by decide +kernel
theorem dX5_mailCount_24 : decode cX5_mailCount 24 = .ok (.aaload, 1) := by decide +kernel
theorem dX5_mailCount_25 : decode cX5_mailCount 25 = .ok (.getfield 178, 3) := by decide +kernel
theorem dX5_mailCount_28 : decode cX5_mailCount 28 = .ok (.getfield 204, 3) := by decide +kernel
theorem dX5_mailCount_31 : decode cX5_mailCount 31 = .ok (.iadd, 1) := by decide +kernel
theorem dX5_mailCount_32 : decode cX5_mailCount 32 = .ok (.istore_n 1, 1) := by decide +kernel
theorem dX5_mailCount_33 : decode cX5_mailCount 33 = .ok (.iinc 2 1, 3) := by decide +kernel
theorem dX5_mailCount_36 : decode cX5_mailCount 36 = .ok (.goto (-32), 3) := by decide +kernel
theorem dX5_mailCount_39 : decode cX5_mailCount 39 = .ok (.iload_n 1, 1) := by decide +kernel
theorem dX5_mailCount_40 : decode cX5_mailCount 40 = .ok (.ireturn, 1) := by decide +kernel
theorem dX5_noteRestart_0 : decode cX5_noteRestart 0 = .ok (.aload_n 0, 1) := by decide +kernel
theorem dX5_noteRestart_1 : decode cX5_noteRestart 1 = .ok (.getfield 91, 3) := by decide +kernel
theorem dX5_noteRestart_4 : decode cX5_noteRestart 4 = .ok (.bipush 48, 2) := by decide +kernel
theorem dX5_noteRestart_6 : decode cX5_noteRestart 6 = .ok (.if_icmp .ge 36, 3) := by decide +kernel
theorem dX5_noteRestart_9 : decode cX5_noteRestart 9 = .ok (.aload_n 0, 1) := by decide +kernel
theorem dX5_noteRestart_10 : decode cX5_noteRestart 10 = .ok (.getfield 27, 3) := by decide +kernel
theorem dX5_noteRestart_13 : decode cX5_noteRestart 13 = .ok (.aload_n 0, 1) := by decide +kernel
theorem dX5_noteRestart_14 : decode cX5_noteRestart 14 = .ok (.getfield 91, 3) := by decide +kernel
theorem dX5_noteRestart_17 : decode cX5_noteRestart 17 = .ok (.iload_n 1, 1) := by decide +kernel
theorem dX5_noteRestart_18 : decode cX5_noteRestart 18 = .ok (.iastore, 1) := by decide +kernel
theorem dX5_noteRestart_19 : decode cX5_noteRestart 19 = .ok (.aload_n 0, 1) := by decide +kernel
theorem dX5_noteRestart_20 : decode cX5_noteRestart 20 = .ok (.getfield 30, 3) := by decide +kernel
theorem dX5_noteRestart_23 : decode cX5_noteRestart 23 = .ok (.aload_n 0, 1) := by decide +kernel
theorem dX5_noteRestart_24 : decode cX5_noteRestart 24 = .ok (.getfield 91, 3) := by decide +kernel
theorem dX5_noteRestart_27 : decode cX5_noteRestart 27 = .ok (.aload_n 0, 1) := by decide +kernel
theorem dX5_noteRestart_28 : decode cX5_noteRestart 28 = .ok (.getfield 70, 3) := by decide +kernel
theorem dX5_noteRestart_31 : decode cX5_noteRestart 31 = .ok (.iastore, 1) := by decide +kernel
theorem dX5_noteRestart_32 : decode cX5_noteRestart 32 = .ok (.aload_n 0, 1) := by decide +kernel
theorem dX5_noteRestart_33 : decode cX5_noteRestart 33 = .ok (.dup, 1) := by decide +kernel
theorem dX5_noteRestart_34 : decode cX5_noteRestart 34 = .ok (.getfield 91, 3) := by decide +kernel
theorem dX5_noteRestart_37 : decode cX5_noteRestart 37 = .ok (.iconst 1, 1) := by decide +kernel
theorem dX5_noteRestart_38 : decode cX5_noteRestart 38 = .ok (.iadd, 1) := by decide +kernel
theorem dX5_noteRestart_39 : decode cX5_noteRestart 39 = .ok (.putfield 91, 3) := by decide +kernel
theorem dX5_noteRestart_42 : decode cX5_noteRestart 42 = .ok (.return_, 1) := by decide +kernel
theorem dX5_passTime_0 : decode cX5_passTime 0 = .ok (.aload_n 0, 1) := by decide +kernel
theorem dX5_passTime_1 : decode cX5_passTime 1 = .ok (.dup, 1) := by decide +kernel
theorem dX5_passTime_2 : decode cX5_passTime 2 = .ok (.getfield 70, 3) := by decide +kernel
theorem dX5_passTime_5 : decode cX5_passTime 5 = .ok (.iconst 1, 1) := by decide +kernel
theorem dX5_passTime_6 : decode cX5_passTime 6 = .ok (.iadd, 1) := by decide +kernel
theorem dX5_passTime_7 : decode cX5_passTime 7 = .ok (.putfield 70, 3) := by decide +kernel
theorem dX5_passTime_10 : decode cX5_passTime 10 = .ok (.iconst 0, 1) := by decide +kernel
theorem dX5_passTime_11 : decode cX5_passTime 11 = .ok (.istore_n 1, 1) := by decide +kernel
theorem dX5_passTime_12 : decode cX5_passTime 12 = .ok (.iconst 0, 1) := by decide +kernel
theorem dX5_passTime_13 : decode cX5_passTime 13 = .ok (.istore_n 2, 1) := by decide +kernel
theorem dX5_passTime_14 : decode cX5_passTime 14 = .ok (.iload_n 2, 1) := by decide +kernel
theorem dX5_passTime_15 : decode cX5_passTime 15 = .ok (.aload_n 0, 1) := by decide +kernel
theorem dX5_passTime_16 : decode cX5_passTime 16 = .ok (.getfield 56, 3) := by decide +kernel
theorem dX5_passTime_19 : decode cX5_passTime 19 = .ok (.if_icmp .ge 57, 3) := by decide +kernel
theorem dX5_passTime_22 : decode cX5_passTime 22 = .ok (.iload_n 2, 1) := by decide +kernel
theorem dX5_passTime_23 : decode cX5_passTime 23 = .ok (.bipush 24, 2) := by decide +kernel
theorem dX5_passTime_25 : decode cX5_passTime 25 = .ok (.if_icmp .ge 51, 3) := by decide +kernel
theorem dX5_passTime_28 : decode cX5_passTime 28 = .ok (.aload_n 0, 1) := by decide +kernel
theorem dX5_passTime_29 : decode cX5_passTime 29 = .ok (.getfield 20, 3) := by decide +kernel
theorem dX5_passTime_32 : decode cX5_passTime 32 = .ok (.iload_n 2, 1) := by decide +kernel
theorem dX5_passTime_33 : decode cX5_passTime 33 = .ok (.aaload, 1) := by decide +kernel
theorem dX5_passTime_34 : decode cX5_passTime 34 = .ok (.getfield 94, 3) := by decide +kernel
theorem dX5_passTime_37 : decode cX5_passTime 37 = .ok (.iconst 1, 1) := by decide +kernel
theorem dX5_passTime_38 : decode cX5_passTime 38 = .ok (.if_icmp .ne 32, 3) := by decide +kernel
theorem dX5_passTime_41 : decode cX5_passTime 41 = .ok (.aload_n 0, 1) := by decide +kernel
theorem dX5_passTime_42 : decode cX5_passTime 42 = .ok (.getfield 20, 3) := by decide +kernel
theorem dX5_passTime_45 : decode cX5_passTime 45 = .ok (.iload_n 2, 1) := by decide +kernel
theorem dX5_passTime_46 : decode cX5_passTime 46 = .ok (.aaload, 1) := by decide +kernel
theorem dX5_passTime_47 : decode cX5_passTime 47 = .ok (.getfield 128, 3) := by decide +kernel
theorem dX5_passTime_50 : decode cX5_passTime 50 = .ok (.aload_n 0, 1) := by decide +kernel
theorem dX5_passTime_51 : decode cX5_passTime 51 = .ok (.getfield 70, 3) := by decide +kernel
theorem dX5_passTime_54 : decode cX5_passTime 54 = .ok (.if_icmp .ne 16, 3) := by decide +kernel
theorem dX5_passTime_57 : decode cX5_passTime 57 = .ok (.aload_n 0, 1) := by decide +kernel
theorem dX5_passTime_58 : decode cX5_passTime 58 = .ok (.aload_n 0, 1) := by decide +kernel
theorem dX5_passTime_59 : decode cX5_passTime 59 = .ok (.getfield 20, 3) := by decide +kernel
theorem dX5_passTime_62 : decode cX5_passTime 62 = .ok (.iload_n 2, 1) := by decide +kernel
theorem dX5_passTime_63 : decode cX5_passTime 63 = .ok (.aaload, 1) := by decide +kernel
theorem dX5_passTime_64 : decode cX5_passTime 64 = .ok (.invokevirtual 191, 3) := by decide +kernel
theorem dX5_passTime_67 : decode cX5_passTime 67 = .ok (.iinc 1 1, 3) := by decide +kernel
theorem dX5_passTime_70 : decode cX5_passTime 70 = .ok (.iinc 2 1, 3) := by decide +kernel
theorem dX5_passTime_73 : decode cX5_passTime 73 = .ok (.goto (-59), 3) := by decide +kernel
theorem dX5_passTime_76 : decode cX5_passTime 76 = .ok (.iload_n 1, 1) := by decide +kernel
theorem dX5_passTime_77 : decode cX5_passTime 77 = .ok (.ireturn, 1) := by decide +kernel
theorem dX5_placeInRow_0 : decode cX5_placeInRow 0 = .ok (.aload_n 1, 1) := by decide +kernel
theorem dX5_placeInRow_1 : decode cX5_placeInRow 1 = .ok (.getfield 94, 3) := by decide +kernel
theorem dX5_placeInRow_4 : decode cX5_placeInRow 4 = .ok (.ifCond .eq 5, 3) := by decide +kernel
theorem dX5_placeInRow_7 : decode cX5_placeInRow 7 = .ok (.iconst (-1), 1) := by decide +kernel
theorem dX5_placeInRow_8 : decode cX5_placeInRow 8 = .ok (.ireturn, 1) := by decide +kernel
theorem dX5_placeInRow_9 : decode cX5_placeInRow 9 = .ok (.iconst 0, 1) := by decide +kernel
theorem dX5_placeInRow_10 : decode cX5_placeInRow 10 = .ok (.istore_n 2, 1) := by decide +kernel
theorem dX5_placeInRow_11 : decode cX5_placeInRow 11 = .ok (.iconst 0, 1) := by decide +kernel
theorem dX5_placeInRow_12 : decode cX5_placeInRow 12 = .ok (.istore_n 3, 1) := by decide +kernel
theorem dX5_placeInRow_13 : decode cX5_placeInRow 13 = .ok (.iload_n 3, 1) := by decide +kernel
theorem dX5_placeInRow_14 : decode cX5_placeInRow 14 = .ok (.aload_n 0, 1) := by decide +kernel
theorem dX5_placeInRow_15 : decode cX5_placeInRow 15 = .ok (.getfield 56, 3) := by decide +kernel
theorem dX5_placeInRow_18 : decode cX5_placeInRow 18 = .ok (.if_icmp .ge 46, 3) := by decide +kernel
theorem dX5_placeInRow_21 : decode cX5_placeInRow 21 = .ok (.iload_n 3, 1) := by decide +kernel
theorem dX5_placeInRow_22 : decode cX5_placeInRow 22 = .ok (.bipush 24, 2) := by decide +kernel
theorem dX5_placeInRow_24 : decode cX5_placeInRow 24 = .ok (.if_icmp .ge 40, 3) := by decide +kernel
theorem dX5_placeInRow_27 : decode cX5_placeInRow 27 = .ok (.aload_n 0, 1) := by decide +kernel
theorem dX5_placeInRow_28 : decode cX5_placeInRow 28 = .ok (.getfield 20, 3) := by decide +kernel
theorem dX5_placeInRow_31 : decode cX5_placeInRow 31 = .ok (.iload_n 3, 1) := by decide +kernel
theorem dX5_placeInRow_32 : decode cX5_placeInRow 32 = .ok (.aaload, 1) := by decide +kernel
theorem dX5_placeInRow_33 : decode cX5_placeInRow 33 = .ok (.getfield 94, 3) := by decide +kernel
theorem dX5_placeInRow_36 : decode cX5_placeInRow 36 = .ok (.ifCond .ne 22, 3) := by decide +kernel
theorem dX5_placeInRow_39 : decode cX5_placeInRow 39 = .ok (.aload_n 0, 1) := by decide +kernel
theorem dX5_placeInRow_40 : decode cX5_placeInRow 40 = .ok (.getfield 20, 3) := by decide +kernel
theorem dX5_placeInRow_43 : decode cX5_placeInRow 43 = .ok (.iload_n 3, 1) := by decide +kernel
theorem dX5_placeInRow_44 : decode cX5_placeInRow 44 = .ok (.aaload, 1) := by decide +kernel
theorem dX5_placeInRow_45 : decode cX5_placeInRow 45 = .ok (.getfield 119, 3) := by decide +kernel
theorem dX5_placeInRow_48 : decode cX5_placeInRow 48 = .ok (.aload_n 1, 1) := by decide +kernel
theorem dX5_placeInRow_49 : decode cX5_placeInRow 49 = .ok (.getfield 119, 3) := by decide +kernel
theorem dX5_placeInRow_52 : decode cX5_placeInRow 52 = .ok (.if_icmp .ge 6, 3) := by decide +kernel
theorem dX5_placeInRow_55 : decode cX5_placeInRow 55 = .ok (.iinc 2 1, 3) := by decide +kernel
theorem dX5_placeInRow_58 : decode cX5_placeInRow 58 = .ok (.iinc 3 1, 3) := by decide +kernel
theorem dX5_placeInRow_61 : decode cX5_placeInRow 61 = .ok (.goto (-48), 3) := by decide +kernel
theorem dX5_placeInRow_64 : decode cX5_placeInRow 64 = .ok (.iload_n 2, 1) := by decide +kernel
theorem dX5_placeInRow_65 : decode cX5_placeInRow 65 = .ok (.ireturn, 1) := by decide +kernel
theorem dX5_procAt_0 : decode cX5_procAt 0 = .ok (.iload_n 1, 1) := by decide +kernel
theorem dX5_procAt_1 : decode cX5_procAt 1 = .ok (.ifCond .lt 26, 3) := by decide +kernel
theorem dX5_procAt_4 : decode cX5_procAt 4 = .ok (.iload_n 1, 1) := by decide +kernel
theorem dX5_procAt_5 : decode cX5_procAt 5 = .ok (.aload_n 0, 1) := by decide +kernel
theorem dX5_procAt_6 : decode cX5_procAt 6 = .ok (.getfield 56, 3) := by decide +kernel
theorem dX5_procAt_9 : decode cX5_procAt 9 = .ok (.if_icmp .ge 18, 3) := by decide +kernel
theorem dX5_procAt_12 : decode cX5_procAt 12 = .ok (.iload_n 1, 1) := by decide +kernel
theorem dX5_procAt_13 : decode cX5_procAt 13 = .ok (.bipush 24, 2) := by decide +kernel
theorem dX5_procAt_15 : decode cX5_procAt 15 = .ok (.if_icmp .ge 12, 3) := by decide +kernel
theorem dX5_procAt_18 : decode cX5_procAt 18 = .ok (.aload_n 0, 1) := by decide +kernel
theorem dX5_procAt_19 : decode cX5_procAt 19 = .ok (.getfield 20, 3) := by decide +kernel
theorem dX5_procAt_22 : decode cX5_procAt 22 = .ok (.iload_n 1, 1) := by decide +kernel
theorem dX5_procAt_23 : decode cX5_procAt 23 = .ok (.aaload, 1) := by decide +kernel
theorem dX5_procAt_24 : decode cX5_procAt 24 = .ok (.goto 4, 3) := by decide +kernel
theorem dX5_procAt_27 : decode cX5_procAt 27 = .ok (.aconst_null, 1) := by decide +kernel
theorem dX5_procAt_28 : decode cX5_procAt 28 = .ok (.areturn, 1) := by decide +kernel
theorem dX5_putMail_0 : decode cX5_putMail 0 = .ok (.aload_n 0, 1) := by decide +kernel
theorem dX5_putMail_1 : decode cX5_putMail 1 = .ok (.iload_n 1, 1) := by decide +kernel
theorem dX5_putMail_2 : decode cX5_putMail 2 = .ok (.invokevirtual 170, 3) := by decide +kernel
theorem dX5_putMail_5 : decode cX5_putMail 5 = .ok (.astore 4, 2) := by decide +kernel
theorem dX5_putMail_7 : decode cX5_putMail 7 = .ok (.aload 4, 2) := by decide +kernel
theorem dX5_putMail_9 : decode cX5_putMail 9 = .ok (.ifnull 24, 3) := by decide +kernel
theorem dX5_putMail_12 : decode cX5_putMail 12 = .ok (.aload 4, 2) := by decide +kernel
theorem dX5_putMail_14 : decode cX5_putMail 14 = .ok (.invokevirtual 174, 3) := by decide +kernel
theorem dX5_putMail_17 : decode cX5_putMail 17 = .ok (.ifCond .ne 16, 3) := by decide +kernel
theorem dX5_putMail_20 : decode cX5_putMail 20 = .ok (.aload 4, 2) := by decide +kernel
theorem dX5_putMail_22 : decode cX5_putMail 22 = .ok (.getfield 178, 3) := by decide +kernel
theorem dX5_putMail_25 : decode cX5_putMail 25 = .ok (.iload_n 2, 1) := by decide +kernel
theorem dX5_putMail_26 : decode cX5_putMail 26 = .ok (.iload_n 3, 1) := by decide +kernel
theorem dX5_putMail_27 : decode cX5_putMail 27 = .ok (.invokevirtual 182, 3) := by decide +kernel
theorem dX5_putMail_30 : decode cX5_putMail 30 = .ok (.ifCond .ne 15, 3) := by decide +kernel
theorem dX5_putMail_33 : decode cX5_putMail 33 = .ok (.aload_n 0, 1) := by decide +kernel
theorem dX5_putMail_34 : decode cX5_putMail 34 = .ok (.dup, 1) := by decide +kernel
theorem dX5_putMail_35 : decode cX5_putMail 35 = .ok (.getfield 73, 3) := by decide +kernel
theorem dX5_putMail_38 : decode cX5_putMail 38 = .ok (.iconst 1, 1) := by decide +kernel
theorem dX5_putMail_39 : decode cX5_putMail 39 = .ok (.iadd, 1) := by decide +kernel
theorem dX5_putMail_40 : decode cX5_putMail 40 = .ok (.putfield 73, 3) := by decide +kernel
theorem dX5_putMail_43 : decode cX5_putMail 43 = .ok (.iconst 0, 1) := by decide +kernel
theorem dX5_putMail_44 : decode cX5_putMail 44 = .ok (.ireturn, 1) := by decide +kernel
theorem dX5_putMail_45 : decode cX5_putMail 45 = .ok (.aload 4, 2) := by decide +kernel
theorem dX5_putMail_47 : decode cX5_putMail 47 = .ok (.iload_n 2, 1) := by decide +kernel
theorem dX5_putMail_48 : decode cX5_putMail 48 = .ok (.invokevirtual 188, 3) := by decide +kernel
theorem dX5_putMail_51 : decode cX5_putMail 51 = .ok (.ifCond .eq 9, 3) := by decide +kernel
theorem dX5_putMail_54 : decode cX5_putMail 54 = .ok (.aload_n 0, 1) := by decide +kernel
theorem dX5_putMail_55 : decode cX5_putMail 55 = .ok (.aload 4, 2) := by decide +kernel
theorem dX5_putMail_57 : decode cX5_putMail 57 = .ok (.invokevirtual 191, 3) := by decide +kernel
theorem dX5_putMail_60 : decode cX5_putMail 60 = .ok (.iconst 1, 1) := by decide +kernel
theorem dX5_putMail_61 : decode cX5_putMail 61 = .ok (.ireturn, 1) := by decide +kernel
theorem dX5_ready_0 : decode cX5_ready 0 = .ok (.aload_n 1, 1) := by decide +kernel
theorem dX5_ready_1 : decode cX5_ready 1 = .ok (.iconst 0, 1) := by decide +kernel
theorem dX5_ready_2 : decode cX5_ready 2 = .ok (.putfield 94, 3) := by decide +kernel
theorem dX5_ready_5 : decode cX5_ready 5 = .ok (.aload_n 1, 1) := by decide +kernel
theorem dX5_ready_6 : decode cX5_ready 6 = .ok (.iconst (-1), 1) := by decide +kernel
theorem dX5_ready_7 : decode cX5_ready 7 = .ok (.putfield 128, 3) := by decide +kernel
theorem dX5_ready_10 : decode cX5_ready 10 = .ok (.aload_n 1, 1) := by decide +kernel
theorem dX5_ready_11 : decode cX5_ready 11 = .ok (.aload_n 0, 1) := by decide +kernel
theorem dX5_ready_12 : decode cX5_ready 12 = .ok (.getfield 82, 3) := by decide +kernel
theorem dX5_ready_15 : decode cX5_ready 15 = .ok (.putfield 119, 3) := by decide +kernel
theorem dX5_ready_18 : decode cX5_ready 18 = .ok (.aload_n 0, 1) := by decide +kernel
theorem dX5_ready_19 : decode cX5_ready 19 = .ok (.dup, 1) := by decide +kernel
theorem dX5_ready_20 : decode cX5_ready 20 = .ok (.getfield 82, 3) := by decide +kernel
theorem dX5_ready_23 : decode cX5_ready 23 = .ok (.iconst 1, 1) := by decide +kernel
theorem dX5_ready_24 : decode cX5_ready 24 = .ok (.iadd, 1) := by decide +kernel
theorem dX5_ready_25 : decode cX5_ready 25 = .ok (.putfield 82, 3) := by decide +kernel
theorem dX5_ready_28 : decode cX5_ready 28 = .ok (.return_, 1) := by decide +kernel
theorem dX5_restartsAbove_0 : decode cX5_restartsAbove 0 = .ok (.iconst 0, 1) := by decide +kernel
theorem dX5_restartsAbove_1 : decode cX5_restartsAbove 1 = .ok (.istore_n 3, 1) := by decide +kernel
theorem dX5_restartsAbove_2 : decode cX5_restartsAbove 2 = .ok (.iconst 0, 1) := by decide +kernel
theorem dX5_restartsAbove_3 : decode cX5_restartsAbove 3 = .ok (.istore 4, 2) := by decide +kernel
theorem dX5_restartsAbove_5 : decode cX5_restartsAbove 5 = .ok (.iload 4, 2) := by decide +kernel
theorem dX5_restartsAbove_7 : decode cX5_restartsAbove 7 = .ok (.aload_n 0, 1) := by decide +kernel
theorem dX5_restartsAbove_8 : decode cX5_restartsAbove 8 = .ok (.getfield 91, 3) := by decide +kernel
theorem dX5_restartsAbove_11 : decode cX5_restartsAbove 11 = .ok (.if_icmp .ge 44, 3) := by decide +kernel
theorem dX5_restartsAbove_14 : decode cX5_restartsAbove 14 = .ok (.iload 4, 2) := by decide +kernel
theorem dX5_restartsAbove_16 : decode cX5_restartsAbove 16 = .ok (.bipush 48, 2) := by decide +kernel
theorem dX5_restartsAbove_18 : decode cX5_restartsAbove 18 = .ok (.if_icmp .ge 37, 3) := by decide +kernel
theorem dX5_restartsAbove_21 : decode cX5_restartsAbove 21 = .ok (.aload_n 0, 1) := by decide +kernel
theorem dX5_restartsAbove_22 : decode cX5_restartsAbove 22 = .ok (.getfield 27, 3) := by decide +kernel
theorem dX5_restartsAbove_25 : decode cX5_restartsAbove 25 = .ok (.iload 4, 2) := by decide +kernel
theorem dX5_restartsAbove_27 : decode cX5_restartsAbove 27 = .ok (.iaload, 1) := by decide +kernel
theorem dX5_restartsAbove_28 : decode cX5_restartsAbove 28 = .ok (.aload_n 1, 1) := by decide +kernel
theorem dX5_restartsAbove_29 : decode cX5_restartsAbove 29 = .ok (.getfield 146, 3) := by decide +kernel
theorem dX5_restartsAbove_32 : decode cX5_restartsAbove 32 = .ok (.if_icmp .ne 17, 3) := by decide +kernel
theorem dX5_restartsAbove_35 : decode cX5_restartsAbove 35 = .ok (.aload_n 0, 1) := by decide +kernel
theorem dX5_restartsAbove_36 : decode cX5_restartsAbove 36 = .ok (.getfield 30, 3) := by decide +kernel
theorem dX5_restartsAbove_39 : decode cX5_restartsAbove 39 = .ok (.iload 4, 2) := by decide +kernel
theorem dX5_restartsAbove_41 : decode cX5_restartsAbove 41 = .ok (.iaload, 1) := by decide +kernel
theorem dX5_restartsAbove_42 : decode cX5_restartsAbove 42 = .ok (.iload_n 2, 1) := by decide +kernel
theorem dX5_restartsAbove_43 : decode cX5_restartsAbove 43 = .ok (.if_icmp .le 6, 3) := by decide +kernel
theorem dX5_restartsAbove_46 : decode cX5_restartsAbove 46 = .ok (.iinc 3 1, 3) := by decide +kernel
theorem dX5_restartsAbove_49 : decode cX5_restartsAbove 49 = .ok (.iinc 4 1, 3) := by decide +kernel
theorem dX5_restartsAbove_52 : decode cX5_restartsAbove 52 = .ok (.goto (-47), 3) := by decide +kernel
theorem dX5_restartsAbove_55 : decode cX5_restartsAbove 55 = .ok (.iload_n 3, 1) := by decide +kernel
theorem dX5_restartsAbove_56 : decode cX5_restartsAbove 56 = .ok (.ireturn, 1) := by decide +kernel
theorem dX5_restartsEver_0 : decode cX5_restartsEver 0 = .ok (.aload_n 0, 1) := by decide +kernel
theorem dX5_restartsEver_1 : decode cX5_restartsEver 1 = .ok (.aload_n 1, 1) := by decide +kernel
theorem dX5_restartsEver_2 : decode cX5_restartsEver 2 = .ok (.iconst (-1), 1) := by decide +kernel
theorem dX5_restartsEver_3 : decode cX5_restartsEver 3 = .ok (.invokevirtual 271, 3) := by decide +kernel
theorem dX5_restartsEver_6 : decode cX5_restartsEver 6 = .ok (.ireturn, 1) := by decide +kernel
theorem dX5_restartsLately_0 : decode cX5_restartsLately 0 = .ok (.aload_n 0, 1) := by decide +kernel
theorem dX5_restartsLately_1 : decode cX5_restartsLately 1 = .ok (.getfield 37, 3) := by decide +kernel
theorem dX5_restartsLately_4 : decode cX5_restartsLately 4 = .ok (.aload_n 1, 1) := by decide +kernel
theorem dX5_restartsLately_5 : decode cX5_restartsLately 5 = .ok (.getfield 122, 3) := by decide +kernel
theorem dX5_restartsLately_8 : decode cX5_restartsLately 8 = .ok (.invokevirtual 249, 3) := by decide +kernel
theorem dX5_restartsLately_11 : decode cX5_restartsLately 11 = .ok (.ifCond .eq 28, 3) := by decide +kernel
theorem dX5_restartsLately_14 : decode cX5_restartsLately 14 = .ok (.aload_n 0, 1) := by decide +kernel
theorem dX5_restartsLately_15 : decode cX5_restartsLately 15 = .ok (.aload_n 1, 1) := by decide +kernel
theorem dX5_restartsLately_16 : decode cX5_restartsLately 16 = .ok (.aload_n 0, 1) := by decide +kernel
theorem dX5_restartsLately_17 : decode cX5_restartsLately 17 = .ok (.getfield 70, 3) := by decide +kernel
theorem dX5_restartsLately_20 : decode cX5_restartsLately 20 = .ok (.aload_n 0, 1) := by decide +kernel
theorem dX5_restartsLately_21 : decode cX5_restartsLately 21 = .ok (.getfield 37, 3) := by decide +kernel
theorem dX5_restartsLately_24 : decode cX5_restartsLately 24 = .ok (.getfield 275, 3) := by decide +kernel
theorem dX5_restartsLately_27 : decode cX5_restartsLately 27 = .ok (.aload_n 1, 1) := by decide +kernel
theorem dX5_restartsLately_28 : decode cX5_restartsLately 28 = .ok (.getfield 122, 3) := by decide +kernel
theorem dX5_restartsLately_31 : decode cX5_restartsLately 31 = .ok (.iaload, 1) := by decide +kernel
theorem dX5_restartsLately_32 : decode cX5_restartsLately 32 = .ok (.isub, 1) := by decide +kernel
theorem dX5_restartsLately_33 : decode cX5_restartsLately 33 = .ok (.invokevirtual 271, 3) := by decide +kernel
theorem dX5_restartsLately_36 : decode cX5_restartsLately 36 = .ok (.goto 4, 3) := by decide +kernel
theorem dX5_restartsLately_39 : decode cX5_restartsLately 39 = .ok (.iconst 0, 1) := by decide +kernel
theorem dX5_restartsLately_40 : decode cX5_restartsLately 40 = .ok (.ireturn, 1) := by decide +kernel
theorem dX5_runners_0 : decode cX5_runners 0 = .ok (.iconst 0, 1) := by decide +kernel
theorem dX5_runners_1 : decode cX5_runners 1 = .ok (.istore 4, 2) := by decide +kernel
theorem dX5_runners_3 : decode cX5_runners 3 = .ok (.iconst 0, 1) := by decide +kernel
theorem dX5_runners_4 : decode cX5_runners 4 = .ok (.istore 5, 2) := by decide +kernel
theorem dX5_runners_6 : decode cX5_runners 6 = .ok (.iload 5, 2) := by decide +kernel
theorem dX5_runners_8 : decode cX5_runners 8 = .ok (.aload_n 0, 1) := by decide +kernel
theorem dX5_runners_9 : decode cX5_runners 9 = .ok (.getfield 56, 3) := by decide +kernel
theorem dX5_runners_12 : decode cX5_runners 12 = .ok (.if_icmp .ge 65, 3) := by decide +kernel
theorem dX5_runners_15 : decode cX5_runners 15 = .ok (.iload 5, 2) := by decide +kernel
theorem dX5_runners_17 : decode cX5_runners 17 = .ok (.bipush 24, 2) := by decide +kernel
theorem dX5_runners_19 : decode cX5_runners 19 = .ok (.if_icmp .ge 58, 3) := by decide +kernel
theorem dX5_runners_22 : decode cX5_runners 22 = .ok (.aload_n 0, 1) := by decide +kernel
theorem dX5_runners_23 : decode cX5_runners 23 = .ok (.getfield 20, 3) := by decide +kernel
theorem dX5_runners_26 : decode cX5_runners 26 = .ok (.iload 5, 2) := by decide +kernel
theorem dX5_runners_28 : decode cX5_runners 28 = .ok (.aaload, 1) := by decide +kernel
theorem dX5_runners_29 : decode cX5_runners 29 = .ok (.astore 6, 2) := by decide +kernel
theorem dX5_runners_31 : decode cX5_runners 31 = .ok (.aload 6, 2) := by decide +kernel
theorem dX5_runners_33 : decode cX5_runners 33 = .ok (.getfield 94, 3) := by decide +kernel
theorem dX5_runners_36 : decode cX5_runners 36 = .ok (.iconst 2, 1) := by decide +kernel
theorem dX5_runners_37 : decode cX5_runners 37 = .ok (.if_icmp .eq 34, 3) := by decide +kernel
theorem dX5_runners_40 : decode cX5_runners 40 = .ok (.aload 6, 2) := by decide +kernel
theorem dX5_runners_42 : decode cX5_runners 42 = .ok (.getfield 110, 3) := by decide +kernel
theorem dX5_runners_45 : decode cX5_runners 45 = .ok (.iload_n 1, 1) := by decide +kernel
theorem dX5_runners_46 : decode cX5_runners 46 = .ok (.if_icmp .ne 25, 3) := by decide +kernel
theorem dX5_runners_49 : decode cX5_runners 49 = .ok (.aload 6, 2) := by decide +kernel
theorem dX5_runners_51 : decode cX5_runners 51 = .ok (.getfield 113, 3) := by decide +kernel
theorem dX5_runners_54 : decode cX5_runners 54 = .ok (.iload_n 2, 1) := by decide +kernel
theorem dX5_runners_55 : decode cX5_runners 55 = .ok (.iload_n 3, 1) := by decide +kernel
theorem dX5_runners_56 : decode cX5_runners 56 = .ok (.invokestatic 103, 3) := by decide +kernel
theorem dX5_runners_59 : decode cX5_runners 59 = .ok (.ifCond .eq 12, 3) := by decide +kernel
theorem dX5_runners_62 : decode cX5_runners 62 = .ok (.iload 4, 2) := by decide +kernel
theorem dX5_runners_64 : decode cX5_runners 64 = .ok (.iconst 1, 1) := by decide +kernel
theorem dX5_runners_65 : decode cX5_runners 65 = .ok (.iload 5, 2) := by decide +kernel
theorem dX5_runners_67 : decode cX5_runners 67 = .ok (.ishl, 1) := by decide +kernel
theorem dX5_runners_68 : decode cX5_runners 68 = .ok (.ior, 1) := by decide +kernel
theorem dX5_runners_69 : decode cX5_runners 69 = .ok (.istore 4, 2) := by decide +kernel
theorem dX5_runners_71 : decode cX5_runners 71 = .ok (.iinc 5 1, 3) := by decide +kernel
theorem dX5_runners_74 : decode cX5_runners 74 = .ok (.goto (-68), 3) := by decide +kernel
theorem dX5_runners_77 : decode cX5_runners 77 = .ok (.iload 4, 2) := by decide +kernel
theorem dX5_runners_79 : decode cX5_runners 79 = .ok (.ireturn, 1) := by decide +kernel
theorem dX5_settle_0 : decode cX5_settle 0 = .ok (.aload_n 0, 1) := by decide +kernel
theorem dX5_settle_1 : decode cX5_settle 1 = .ok (.getfield 88, 3) := by decide +kernel
theorem dX5_settle_4 : decode cX5_settle 4 = .ok (.aload_n 0, 1) := by decide +kernel
theorem dX5_settle_5 : decode cX5_settle 5 = .ok (.getfield 85, 3) := by decide +kernel
theorem dX5_settle_8 : decode cX5_settle 8 = .ok (.if_icmp .ge 124, 3) := by decide +kernel
theorem dX5_settle_11 : decode cX5_settle 11 = .ok (.aload_n 0, 1) := by decide +kernel
theorem dX5_settle_12 : decode cX5_settle 12 = .ok (.getfield 88, 3) := by decide +kernel
theorem dX5_settle_15 : decode cX5_settle 15 = .ok (.bipush 24, 2) := by decide +kernel
theorem dX5_settle_17 : decode cX5_settle 17 = .ok (.if_icmp .ge 115, 3) := by decide +kernel
theorem dX5_settle_20 : decode cX5_settle 20 = .ok (.aload_n 0, 1) := by decide +kernel
theorem dX5_settle_21 : decode cX5_settle 21 = .ok (.aload_n 0, 1) := by decide +kernel
theorem dX5_settle_22 : decode cX5_settle 22 = .ok (.getfield 24, 3) := by decide +kernel
theorem dX5_settle_25 : decode cX5_settle 25 = .ok (.aload_n 0, 1) := by decide +kernel
theorem dX5_settle_26 : decode cX5_settle 26 = .ok (.getfield 88, 3) := by decide +kernel
theorem dX5_settle_29 : decode cX5_settle 29 = .ok (.iaload, 1) := by decide +kernel
theorem dX5_settle_30 : decode cX5_settle 30 = .ok (.invokevirtual 205, 3) := by decide +kernel
theorem dX5_settle_33 : decode cX5_settle 33 = .ok (.astore_n 1, 1) := by decide +kernel
theorem dX5_settle_34 : decode cX5_settle 34 = .ok (.aload_n 1, 1) := by decide +kernel
theorem dX5_settle_35 : decode cX5_settle 35 = .ok (.ifnonnull 6, 3) := by decide +kernel
theorem dX5_settle_38 : decode cX5_settle 38 = .ok (.goto 81, 3) := by decide +kernel
theorem dX5_settle_41 : decode cX5_settle 41 = .ok (.aload_n 1, 1) := by decide +kernel
theorem dX5_settle_42 : decode cX5_settle 42 = .ok (.invokevirtual 174, 3) := by decide +kernel
theorem dX5_settle_45 : decode cX5_settle 45 = .ok (.ifCond .eq 10, 3) := by decide +kernel
theorem dX5_settle_48 : decode cX5_settle 48 = .ok (.aload_n 0, 1) := by decide +kernel
theorem dX5_settle_49 : decode cX5_settle 49 = .ok (.aload_n 1, 1) := by decide +kernel
theorem dX5_settle_50 : decode cX5_settle 50 = .ok (.iconst 0, 1) := by decide +kernel
theorem dX5_settle_51 : decode cX5_settle 51 = .ok (.iconst (-1), 1) := by decide +kernel
theorem dX5_settle_52 : decode cX5_settle 52 = .ok (.invokevirtual 208, 3) := by decide +kernel
theorem dX5_settle_55 : decode cX5_settle 55 = .ok (.aload_n 0, 1) := by decide +kernel
theorem dX5_settle_56 : decode cX5_settle 56 = .ok (.aload_n 1, 1) := by decide +kernel
theorem dX5_settle_57 : decode cX5_settle 57 = .ok (.invokevirtual 212, 3) := by decide +kernel
theorem dX5_settle_60 : decode cX5_settle 60 = .ok (.iconst 0, 1) := by decide +kernel
theorem dX5_settle_61 : decode cX5_settle 61 = .ok (.istore_n 2, 1) := by decide +kernel
theorem dX5_settle_62 : decode cX5_settle 62 = .ok (.iload_n 2, 1) := by decide +kernel
theorem dX5_settle_63 : decode cX5_settle 63 = .ok (.aload_n 0, 1) := by decide +kernel
theorem dX5_settle_64 : decode cX5_settle 64 = .ok (.getfield 56, 3) := by decide +kernel
theorem dX5_settle_67 : decode cX5_settle 67 = .ok (.if_icmp .ge 47, 3) := by decide +kernel
theorem dX5_settle_70 : decode cX5_settle 70 = .ok (.iload_n 2, 1) := by decide +kernel
theorem dX5_settle_71 : decode cX5_settle 71 = .ok (.bipush 24, 2) := by decide +kernel
theorem dX5_settle_73 : decode cX5_settle 73 = .ok (.if_icmp .ge 41, 3) := by decide +kernel
theorem dX5_settle_76 : decode cX5_settle 76 = .ok (.aload_n 1, 1) := by decide +kernel
theorem dX5_settle_77 : decode cX5_settle 77 = .ok (.iload_n 2, 1) := by decide +kernel
theorem dX5_settle_78 : decode cX5_settle 78 = .ok (.invokevirtual 215, 3) := by decide +kernel
theorem dX5_settle_81 : decode cX5_settle 81 = .ok (.ifCond .eq 27, 3) := by decide +kernel
theorem dX5_settle_84 : decode cX5_settle 84 = .ok (.aload_n 0, 1) := by decide +kernel
theorem dX5_settle_85 : decode cX5_settle 85 = .ok (.aload_n 1, 1) := by decide +kernel
theorem dX5_settle_86 : decode cX5_settle 86 = .ok (.aload_n 0, 1) := by decide +kernel
theorem dX5_settle_87 : decode cX5_settle 87 = .ok (.getfield 20, 3) := by decide +kernel
theorem dX5_settle_90 : decode cX5_settle 90 = .ok (.iload_n 2, 1) := by decide +kernel
theorem dX5_settle_91 : decode cX5_settle 91 = .ok (.aaload, 1) := by decide +kernel
theorem dX5_settle_92 : decode cX5_settle 92 = .ok (.invokevirtual 218, 3) := by decide +kernel
theorem dX5_settle_95 : decode cX5_settle 95 = .ok (.aload_n 0, 1) := by decide +kernel
theorem dX5_settle_96 : decode cX5_settle 96 = .ok (.iload_n 2, 1) := by decide +kernel
theorem dX5_settle_97 : decode cX5_settle 97 = .ok (.aload_n 1, 1) := by decide +kernel
theorem dX5_settle_98 : decode cX5_settle 98 = .ok (.getfield 146, 3) := by decide +kernel
theorem dX5_settle_101 : decode cX5_settle 101 = .ok (.aload_n 1, 1) := by decide +kernel
theorem dX5_settle_102 : decode cX5_settle 102 = .ok (.getfield 201, 3) := by decide +kernel
theorem dX5_settle_105 : decode cX5_settle 105 = .ok (.invokevirtual 222, 3) := by decide +kernel
theorem dX5_settle_108 : decode cX5_settle 108 = .ok (.iinc 2 1, 3) := by decide +kernel
theorem dX5_settle_111 : decode cX5_settle 111 = .ok (.goto (-49), 3) := by decide +kernel
theorem dX5_settle_114 : decode cX5_settle 114 = .ok (.aload_n 0, 1) := by decide +kernel
theorem dX5_settle_115 : decode cX5_settle 115 = .ok (.aload_n 1, 1) := by decide +kernel
theorem dX5_settle_116 : decode cX5_settle 116 = .ok (.invokevirtual 226, 3) := by decide +kernel
theorem dX5_settle_119 : decode cX5_settle 119 = .ok (.aload_n 0, 1) := by decide +kernel
theorem dX5_settle_120 : decode cX5_settle 120 = .ok (.dup, 1) := by decide +kernel
theorem dX5_settle_121 : decode cX5_settle 121 = .ok (.getfield 88, 3) := by decide +kernel
theorem dX5_settle_124 : decode cX5_settle 124 = .ok (.iconst 1, 1) := by decide +kernel
theorem dX5_settle_125 : decode cX5_settle 125 = .ok (.iadd, 1) := by decide +kernel
theorem dX5_settle_126 : decode cX5_settle 126 = .ok (.putfield 88, 3) := by decide +kernel
theorem dX5_settle_129 : decode cX5_settle 129 = .ok (.goto (-129), 3) := by decide +kernel
theorem dX5_settle_132 : decode cX5_settle 132 = .ok (.return_, 1) := by decide +kernel
theorem dX5_signalTo_0 : decode cX5_signalTo 0 = .ok (.aload_n 0, 1) := by decide +kernel
theorem dX5_signalTo_1 : decode cX5_signalTo 1 = .ok (.iload_n 1, 1) := by decide +kernel
theorem dX5_signalTo_2 : decode cX5_signalTo 2 = .ok (.invokevirtual 170, 3) := by decide +kernel
theorem dX5_signalTo_5 : decode cX5_signalTo 5 = .ok (.astore 4, 2) := by decide +kernel
theorem dX5_signalTo_7 : decode cX5_signalTo 7 = .ok (.aload 4, 2) := by decide +kernel
theorem dX5_signalTo_9 : decode cX5_signalTo 9 = .ok (.ifnonnull 4, 3) := by decide +kernel
theorem dX5_signalTo_12 : decode cX5_signalTo 12 = .ok (.return_, 1) := by decide +kernel
theorem dX5_signalTo_13 : decode cX5_signalTo 13 = .ok (.iload_n 3, 1) := by decide +kernel
theorem dX5_signalTo_14 : decode cX5_signalTo 14 = .ok (.bipush 9, 2) := by decide +kernel
theorem dX5_signalTo_16 : decode cX5_signalTo 16 = .ok (.if_icmp .ne 14, 3) := by decide +kernel
theorem dX5_signalTo_19 : decode cX5_signalTo 19 = .ok (.aload_n 0, 1) := by decide +kernel
theorem dX5_signalTo_20 : decode cX5_signalTo 20 = .ok (.aload 4, 2) := by decide +kernel
theorem dX5_signalTo_22 : decode cX5_signalTo 22 = .ok (.bipush 8, 2) := by decide +kernel
theorem dX5_signalTo_24 : decode cX5_signalTo 24 = .ok (.invokevirtual 156, 3) := by decide +kernel
theorem dX5_signalTo_27 : decode cX5_signalTo 27 = .ok (.goto 47, 3) := by decide +kernel
theorem dX5_signalTo_30 : decode cX5_signalTo 30 = .ok (.aload 4, 2) := by decide +kernel
theorem dX5_signalTo_32 : decode cX5_signalTo 32 = .ok (.invokevirtual 174, 3) := by decide +kernel
theorem dX5_signalTo_35 : decode cX5_signalTo 35 = .ok (.ifCond .eq 4, 3) := by decide +kernel
theorem dX5_signalTo_38 : decode cX5_signalTo 38 = .ok (.return_, 1) := by decide +kernel
theorem dX5_signalTo_39 : decode cX5_signalTo 39 = .ok (.aload 4, 2) := by decide +kernel
theorem dX5_signalTo_41 : decode cX5_signalTo 41 = .ok (.getfield 194, 3) := by decide +kernel
theorem dX5_signalTo_44 : decode cX5_signalTo 44 = .ok (.ifCond .eq 19, 3) := by decide +kernel
theorem dX5_signalTo_47 : decode cX5_signalTo 47 = .ok (.aload_n 0, 1) := by decide +kernel
theorem dX5_signalTo_48 : decode cX5_signalTo 48 = .ok (.iload_n 1, 1) := by decide +kernel
theorem dX5_signalTo_49 : decode cX5_signalTo 49 = .ok (.iconst 3, 1) := by decide +kernel
theorem dX5_signalTo_50 : decode cX5_signalTo 50 = .ok (.bipush 10, 2) := by decide +kernel
theorem dX5_signalTo_52 : decode cX5_signalTo 52 = .ok (.iload_n 2, 1) := by decide +kernel
theorem dX5_signalTo_53 : decode cX5_signalTo 53 = .ok (.imul, 1) := by decide +kernel
theorem dX5_signalTo_54 : decode cX5_signalTo 54 = .ok (.iload_n 3, 1) := by decide +kernel
theorem dX5_signalTo_55 : decode cX5_signalTo 55 = .ok (.iadd, 1) := by decide +kernel
theorem dX5_signalTo_56 : decode cX5_signalTo 56 = .ok (.invokevirtual 198, 3) := by decide +kernel
theorem dX5_signalTo_59 : decode cX5_signalTo 59 = .ok (.pop, 1) := by decide +kernel
theorem dX5_signalTo_60 : decode cX5_signalTo 60 = .ok (.goto 14, 3) := by decide +kernel
theorem dX5_signalTo_63 : decode cX5_signalTo 63 = .ok (.iload_n 3, 1) := by decide +kernel
theorem dX5_signalTo_64 : decode cX5_signalTo 64 = .ok (.ifCond .eq 10, 3) := by decide +kernel
theorem dX5_signalTo_67 : decode cX5_signalTo 67 = .ok (.aload_n 0, 1) := by decide +kernel
theorem dX5_signalTo_68 : decode cX5_signalTo 68 = .ok (.aload 4, 2) := by decide +kernel
theorem dX5_signalTo_70 : decode cX5_signalTo 70 = .ok (.iload_n 3, 1) := by decide +kernel
theorem dX5_signalTo_71 : decode cX5_signalTo 71 = .ok (.invokevirtual 156, 3) := by decide +kernel
theorem dX5_signalTo_74 : decode cX5_signalTo 74 = .ok (.return_, 1) := by decide +kernel
theorem dX5_spawn_0 : decode cX5_spawn 0 = .ok (.aload_n 0, 1) := by decide +kernel
theorem dX5_spawn_1 : decode cX5_spawn 1 = .ok (.iload_n 2, 1) := by decide +kernel
theorem dX5_spawn_2 : decode cX5_spawn 2 = .ok (.iconst (-1), 1) := by decide +kernel
theorem dX5_spawn_3 : decode cX5_spawn 3 = .ok (.invokevirtual 153, 3) := by decide +kernel
theorem dX5_spawn_6 : decode cX5_spawn 6 = .ok (.astore 4, 2) := by decide +kernel
theorem dX5_spawn_8 : decode cX5_spawn 8 = .ok (.aload 4, 2) := by decide +kernel
theorem dX5_spawn_10 : decode cX5_spawn 10 = .ok (.ifnonnull 10, 3) := by decide +kernel
theorem dX5_spawn_13 : decode cX5_spawn 13 = .ok (.aload_n 0, 1) := by decide +kernel
theorem dX5_spawn_14 : decode cX5_spawn 14 = .ok (.aload_n 1, 1) := by decide +kernel
theorem dX5_spawn_15 : decode cX5_spawn 15 = .ok (.iconst 5, 1) := by decide +kernel
theorem dX5_spawn_16 : decode cX5_spawn 16 = .ok (.invokevirtual 156, 3) := by decide +kernel
theorem dX5_spawn_19 : decode cX5_spawn 19 = .ok (.return_, 1) := by decide +kernel
theorem dX5_spawn_20 : decode cX5_spawn 20 = .ok (.iload_n 3, 1) := by decide +kernel
theorem dX5_spawn_21 : decode cX5_spawn 21 = .ok (.ifCond .eq 10, 3) := by decide +kernel
theorem dX5_spawn_24 : decode cX5_spawn 24 = .ok (.aload_n 0, 1) := by decide +kernel
theorem dX5_spawn_25 : decode cX5_spawn 25 = .ok (.aload_n 1, 1) := by decide +kernel
theorem dX5_spawn_26 : decode cX5_spawn 26 = .ok (.aload 4, 2) := by decide +kernel
theorem dX5_spawn_28 : decode cX5_spawn 28 = .ok (.invokevirtual 333, 3) := by decide +kernel
theorem dX5_spawn_31 : decode cX5_spawn 31 = .ok (.aload_n 1, 1) := by decide +kernel
theorem dX5_spawn_32 : decode cX5_spawn 32 = .ok (.aload 4, 2) := by decide +kernel
theorem dX5_spawn_34 : decode cX5_spawn 34 = .ok (.getfield 146, 3) := by decide +kernel
theorem dX5_spawn_37 : decode cX5_spawn 37 = .ok (.putfield 307, 3) := by decide +kernel
theorem dX5_spawn_40 : decode cX5_spawn 40 = .ok (.return_, 1) := by decide +kernel
theorem dX5_startPlaces_0 : decode cX5_startPlaces 0 = .ok (.iload_n 2, 1) := by decide +kernel
theorem dX5_startPlaces_1 : decode cX5_startPlaces 1 = .ok (.istore 5, 2) := by decide +kernel
theorem dX5_startPlaces_3 : decode cX5_startPlaces 3 = .ok (.iload 5, 2) := by decide +kernel
theorem dX5_startPlaces_5 : decode cX5_startPlaces 5 = .ok (.iload_n 3, 1) := by decide +kernel
theorem dX5_startPlaces_6 : decode cX5_startPlaces 6 = .ok (.if_icmp .ge 149, 3) := by decide +kernel
theorem dX5_startPlaces_9 : decode cX5_startPlaces 9 = .ok (.iload 5, 2) := by decide +kernel
theorem dX5_startPlaces_11 : decode cX5_startPlaces 11 = .ok (.iconst 4, 1) := by decide +kernel
theorem dX5_startPlaces_12 : decode cX5_startPlaces 12 = .ok (.if_icmp .ge 143, 3) := by decide +kernel
theorem dX5_startPlaces_15 : decode cX5_startPlaces 15 = .ok (.iload 4, 2) := by decide +kernel
theorem dX5_startPlaces_17 : decode cX5_startPlaces 17 = .ok (.iconst 5, 1) := by decide +kernel
theorem dX5_startPlaces_18 : decode cX5_startPlaces 18 = .ok (.if_icmp .ge 137, 3) := by decide +kernel
theorem dX5_startPlaces_21 : decode cX5_startPlaces 21 = .ok (.aload_n 0, 1) := by decide +kernel
theorem dX5_startPlaces_22 : decode cX5_startPlaces 22 = .ok (.getfield 37, 3) := by decide +kernel
theorem dX5_startPlaces_25 : decode cX5_startPlaces 25 = .ok (.aload_n 1, 1) := by decide +kernel
theorem dX5_startPlaces_26 : decode cX5_startPlaces 26 = .ok (.getfield 122, 3) := by decide +kernel
theorem dX5_startPlaces_29 : decode cX5_startPlaces 29 = .ok (.iload 5, 2) := by decide +kernel
theorem dX5_startPlaces_31 : decode cX5_startPlaces 31 = .ok (.invokevirtual 131, 3) := by decide +kernel
theorem dX5_startPlaces_34 : decode cX5_startPlaces 34 = .ok (.istore 6, 2) := by decide +kernel
theorem dX5_startPlaces_36 : decode cX5_startPlaces 36 = .ok (.iload 6, 2) := by decide +kernel
theorem dX5_startPlaces_38 : decode cX5_startPlaces 38 = .ok (.iconst (-1), 1) := by decide +kernel
theorem dX5_startPlaces_39 : decode cX5_startPlaces 39 = .ok (.if_icmp .eq 110, 3) := by decide +kernel
theorem dX5_startPlaces_42 : decode cX5_startPlaces 42 = .ok (.aload_n 1, 1) := by decide +kernel
theorem dX5_startPlaces_43 : decode cX5_startPlaces 43 = .ok (.iload 5, 2) := by decide +kernel
theorem dX5_startPlaces_45 : decode cX5_startPlaces 45 = .ok (.invokevirtual 136, 3) := by decide +kernel
theorem dX5_startPlaces_48 : decode cX5_startPlaces 48 = .ok (.ifCond .eq 6, 3) := by decide +kernel
theorem dX5_startPlaces_51 : decode cX5_startPlaces 51 = .ok (.goto 98, 3) := by decide +kernel
theorem dX5_startPlaces_54 : decode cX5_startPlaces 54 = .ok (.aload_n 0, 1) := by decide +kernel
theorem dX5_startPlaces_55 : decode cX5_startPlaces 55 = .ok (.getfield 37, 3) := by decide +kernel
theorem dX5_startPlaces_58 : decode cX5_startPlaces 58 = .ok (.getfield 139, 3) := by decide +kernel
theorem dX5_startPlaces_61 : decode cX5_startPlaces 61 = .ok (.iload 6, 2) := by decide +kernel
theorem dX5_startPlaces_63 : decode cX5_startPlaces 63 = .ok (.baload, 1) := by decide +kernel
theorem dX5_startPlaces_64 : decode cX5_startPlaces 64 = .ok (.istore 7, 2) := by decide +kernel
theorem dX5_startPlaces_66 : decode cX5_startPlaces 66 = .ok (.aload_n 0, 1) := by decide +kernel
theorem dX5_startPlaces_67 : decode cX5_startPlaces 67 = .ok (.getfield 37, 3) := by decide +kernel
theorem dX5_startPlaces_70 : decode cX5_startPlaces 70 = .ok (.getfield 143, 3) := by decide +kernel
theorem dX5_startPlaces_73 : decode cX5_startPlaces 73 = .ok (.iload 6, 2) := by decide +kernel
theorem dX5_startPlaces_75 : decode cX5_startPlaces 75 = .ok (.iaload, 1) := by decide +kernel
theorem dX5_startPlaces_76 : decode cX5_startPlaces 76 = .ok (.istore 8, 2) := by decide +kernel
theorem dX5_startPlaces_78 : decode cX5_startPlaces 78 = .ok (.iload 7, 2) := by decide +kernel
theorem dX5_startPlaces_80 : decode cX5_startPlaces 80 = .ok (.ifCond .eq 16, 3) := by decide +kernel
theorem dX5_startPlaces_83 : decode cX5_startPlaces 83 = .ok (.aload_n 0, 1) := by decide +kernel
theorem dX5_startPlaces_84 : decode cX5_startPlaces 84 = .ok (.iload 8, 2) := by decide +kernel
theorem dX5_startPlaces_86 : decode cX5_startPlaces 86 = .ok (.aload_n 1, 1) := by decide +kernel
theorem dX5_startPlaces_87 : decode cX5_startPlaces 87 = .ok (.getfield 146, 3) := by decide +kernel
theorem dX5_startPlaces_90 : decode cX5_startPlaces 90 = .ok (.invokevirtual 149, 3) := by decide +kernel
theorem dX5_startPlaces_93 : decode cX5_startPlaces 93 = .ok (.goto 13, 3) := by decide +kernel
theorem dX5_startPlaces_96 : decode cX5_startPlaces 96 = .ok (.aload_n 0, 1) := by decide +kernel
theorem dX5_startPlaces_97 : decode cX5_startPlaces 97 = .ok (.iload 8, 2) := by decide +kernel
theorem dX5_startPlaces_99 : decode cX5_startPlaces 99 = .ok (.aload_n 1, 1) := by decide +kernel
theorem dX5_startPlaces_100 : decode cX5_startPlaces 100 = .ok (.getfield 146, 3) := by decide +kernel
theorem dX5_startPlaces_103 : decode cX5_startPlaces 103 = .ok (.invokevirtual 153, 3) := by decide +kernel
theorem dX5_startPlaces_106 : decode cX5_startPlaces 106 = .ok (.astore 9, 2) := by decide +kernel
theorem dX5_startPlaces_108 : decode cX5_startPlaces 108 = .ok (.aload 9, 2) := by decide +kernel
theorem dX5_startPlaces_110 : decode cX5_startPlaces 110 = .ok (.ifnonnull 10, 3) := by decide +kernel
theorem dX5_startPlaces_113 : decode cX5_startPlaces 113 = .ok (.aload_n 0, 1) := by decide +kernel
theorem dX5_startPlaces_114 : decode cX5_startPlaces 114 = .ok (.aload_n 1, 1) := by decide +kernel
theorem dX5_startPlaces_115 : decode cX5_startPlaces 115 = .ok (.iconst 5, 1) := by decide +kernel
theorem dX5_startPlaces_116 : decode cX5_startPlaces 116 = .ok (.invokevirtual 156, 3) := by decide +kernel
theorem dX5_startPlaces_119 : decode cX5_startPlaces 119 = .ok (.return_, 1) := by decide +kernel
theorem dX5_startPlaces_120 : decode cX5_startPlaces 120 = .ok (.aload_n 1, 1) := by decide +kernel
theorem dX5_startPlaces_121 : decode cX5_startPlaces 121 = .ok (.getfield 160, 3) := by decide +kernel
theorem dX5_startPlaces_124 : decode cX5_startPlaces 124 = .ok (.iload 5, 2) := by decide +kernel
theorem dX5_startPlaces_126 : decode cX5_startPlaces 126 = .ok (.aload 9, 2) := by decide +kernel
theorem dX5_startPlaces_128 : decode cX5_startPlaces 128 = .ok (.getfield 146, 3) := by decide +kernel
theorem dX5_startPlaces_131 : decode cX5_startPlaces 131 = .ok (.iastore, 1) := by decide +kernel
theorem dX5_startPlaces_132 : decode cX5_startPlaces 132 = .ok (.iload 7, 2) := by decide +kernel
theorem dX5_startPlaces_134 : decode cX5_startPlaces 134 = .ok (.ifCond .eq 15, 3) := by decide +kernel
theorem dX5_startPlaces_137 : decode cX5_startPlaces 137 = .ok (.aload_n 0, 1) := by decide +kernel
theorem dX5_startPlaces_138 : decode cX5_startPlaces 138 = .ok (.aload 9, 2) := by decide +kernel
theorem dX5_startPlaces_140 : decode cX5_startPlaces 140 = .ok (.iconst 0, 1) := by decide +kernel
theorem dX5_startPlaces_141 : decode cX5_startPlaces 141 = .ok (.iconst 4, 1) := by decide +kernel
theorem dX5_startPlaces_142 : decode cX5_startPlaces 142 = .ok (.iload 4, 2) := by decide +kernel
theorem dX5_startPlaces_144 : decode cX5_startPlaces 144 = .ok (.iconst 1, 1) := by decide +kernel
theorem dX5_startPlaces_145 : decode cX5_startPlaces 145 = .ok (.iadd, 1) := by decide +kernel
theorem dX5_startPlaces_146 : decode cX5_startPlaces 146 = .ok (.invokestatic 163, 3) := by decide +kernel
theorem dX5_startPlaces_149 : decode cX5_startPlaces 149 = .ok (.iinc 5 1, 3) := by decide +kernel
theorem dX5_startPlaces_152 : decode cX5_startPlaces 152 = .ok (.goto (-149), 3) := by decide +kernel
theorem dX5_startPlaces_155 : decode cX5_startPlaces 155 = .ok (.return_, 1) := by decide +kernel
theorem dX5_superviseEnd_0 : decode cX5_superviseEnd 0 = .ok (.aload_n 0, 1) := by decide +kernel
theorem dX5_superviseEnd_1 : decode cX5_superviseEnd 1 = .ok (.aload_n 1, 1) := by decide +kernel
theorem dX5_superviseEnd_2 : decode cX5_superviseEnd 2 = .ok (.getfield 116, 3) := by decide +kernel
theorem dX5_superviseEnd_5 : decode cX5_superviseEnd 5 = .ok (.invokevirtual 170, 3) := by decide +kernel
theorem dX5_superviseEnd_8 : decode cX5_superviseEnd 8 = .ok (.astore_n 2, 1) := by decide +kernel
theorem dX5_superviseEnd_9 : decode cX5_superviseEnd 9 = .ok (.aload_n 2, 1) := by decide +kernel
theorem dX5_superviseEnd_10 : decode cX5_superviseEnd 10 = .ok (.ifnonnull 7, 3) := by decide +kernel
theorem dX5_superviseEnd_13 : decode cX5_superviseEnd 13 = .ok (.iconst (-1), 1) := by decide +kernel
theorem dX5_superviseEnd_14 : decode cX5_superviseEnd 14 = .ok (.goto 11, 3) := by decide +kernel
theorem dX5_superviseEnd_17 : decode cX5_superviseEnd 17 = .ok (.aload_n 2, 1) := by decide +kernel
theorem dX5_superviseEnd_18 : decode cX5_superviseEnd 18 = .ok (.aload_n 1, 1) := by decide +kernel
theorem dX5_superviseEnd_19 : decode cX5_superviseEnd 19 = .ok (.getfield 146, 3) := by decide +kernel
theorem dX5_superviseEnd_22 : decode cX5_superviseEnd 22 = .ok (.invokevirtual 245, 3) := by decide +kernel
theorem dX5_superviseEnd_25 : decode cX5_superviseEnd 25 = .ok (.istore_n 3, 1) := by decide +kernel
theorem dX5_superviseEnd_26 : decode cX5_superviseEnd 26 = .ok (.aload_n 2, 1) := by decide +kernel
theorem dX5_superviseEnd_27 : decode cX5_superviseEnd 27 = .ok (.ifnonnull 7, 3) := by decide +kernel
theorem dX5_superviseEnd_30 : decode cX5_superviseEnd 30 = .ok (.iconst (-1), 1) := by decide +kernel
theorem dX5_superviseEnd_31 : decode cX5_superviseEnd 31 = .ok (.goto 15, 3) := by decide +kernel
theorem dX5_superviseEnd_34 : decode cX5_superviseEnd 34 = .ok (.aload_n 0, 1) := by decide +kernel
theorem dX5_superviseEnd_35 : decode cX5_superviseEnd 35 = .ok (.getfield 37, 3) := by decide +kernel
theorem dX5_superviseEnd_38 : decode cX5_superviseEnd 38 = .ok (.aload_n 2, 1) := by decide +kernel
theorem dX5_superviseEnd_39 : decode cX5_superviseEnd 39 = .ok (.getfield 122, 3) := by decide +kernel
theorem dX5_superviseEnd_42 : decode cX5_superviseEnd 42 = .ok (.iload_n 3, 1) := by decide +kernel
theorem dX5_superviseEnd_43 : decode cX5_superviseEnd 43 = .ok (.invokevirtual 131, 3) := by decide +kernel
theorem dX5_superviseEnd_46 : decode cX5_superviseEnd 46 = .ok (.istore 4, 2) := by decide +kernel
theorem dX5_superviseEnd_48 : decode cX5_superviseEnd 48 = .ok (.aload_n 2, 1) := by decide +kernel
theorem dX5_superviseEnd_49 : decode cX5_superviseEnd 49 = .ok (.ifnull 23, 3) := by decide +kernel
theorem dX5_superviseEnd_52 : decode cX5_superviseEnd 52 = .ok (.iload 4, 2) := by decide +kernel
theorem dX5_superviseEnd_54 : decode cX5_superviseEnd 54 = .ok (.iconst (-1), 1) := by decide +kernel
theorem dX5_superviseEnd_55 : decode cX5_superviseEnd 55 = .ok (.if_icmp .eq 17, 3) := by decide +kernel
theorem dX5_superviseEnd_58 : decode cX5_superviseEnd 58 = .ok (.aload_n 0, 1) := by decide +kernel
theorem dX5_superviseEnd_59 : decode cX5_superviseEnd 59 = .ok (.getfield 37, 3) := by decide +kernel
theorem dX5_superviseEnd_62 : decode cX5_superviseEnd 62 = .ok (.aload_n 2, 1) := by decide +kernel
theorem dX5_superviseEnd_63 : decode cX5_superviseEnd 63 = .ok (.getfield 122, 3) := by decide +kernel
theorem dX5_superviseEnd_66 : decode cX5_superviseEnd 66 = .ok (.invokevirtual 249, 3) := by decide +kernel
theorem dX5_superviseEnd_69 : decode cX5_superviseEnd 69 = .ok (.ifCond .ne 4, 3) := by decide +kernel
theorem dX5_superviseEnd_72 : decode cX5_superviseEnd 72 = .ok (.return_, 1) := by decide +kernel
theorem dX5_superviseEnd_73 : decode cX5_superviseEnd 73 = .ok (.aload_n 0, 1) := by decide +kernel
theorem dX5_superviseEnd_74 : decode cX5_superviseEnd 74 = .ok (.getfield 37, 3) := by decide +kernel
theorem dX5_superviseEnd_77 : decode cX5_superviseEnd 77 = .ok (.getfield 252, 3) := by decide +kernel
theorem dX5_superviseEnd_80 : decode cX5_superviseEnd 80 = .ok (.iload 4, 2) := by decide +kernel
theorem dX5_superviseEnd_82 : decode cX5_superviseEnd 82 = .ok (.iaload, 1) := by decide +kernel
theorem dX5_superviseEnd_83 : decode cX5_superviseEnd 83 = .ok (.istore 5, 2) := by decide +kernel
theorem dX5_superviseEnd_85 : decode cX5_superviseEnd 85 = .ok (.iload 5, 2) := by decide +kernel
theorem dX5_superviseEnd_87 : decode cX5_superviseEnd 87 = .ok (.iconst 2, 1) := by decide +kernel
theorem dX5_superviseEnd_88 : decode cX5_superviseEnd 88 = .ok (.if_icmp .eq 16, 3) := by decide +kernel
theorem dX5_superviseEnd_91 : decode cX5_superviseEnd 91 = .ok (.iload 5, 2) := by decide +kernel
theorem dX5_superviseEnd_93 : decode cX5_superviseEnd 93 = .ok (.iconst 1, 1) := by decide +kernel
theorem dX5_superviseEnd_94 : decode cX5_superviseEnd 94 = .ok (.if_icmp .ne 30, 3) := by decide +kernel
theorem dX5_superviseEnd_97 : decode cX5_superviseEnd 97 = .ok (.aload_n 1, 1) := by decide +kernel
theorem dX5_superviseEnd_98 : decode cX5_superviseEnd 98 = .ok (.getfield 201, 3) := by decide +kernel
theorem dX5_superviseEnd_101 : decode cX5_superviseEnd 101 = .ok (.ifCond .ne 23, 3) := by decide +kernel
theorem dX5_superviseEnd_104 : decode cX5_superviseEnd 104 = .ok (.aload_n 2, 1) := by decide +kernel
theorem dX5_superviseEnd_105 : decode cX5_superviseEnd 105 = .ok (.getfield 160, 3) := by decide +kernel
theorem dX5_superviseEnd_108 : decode cX5_superviseEnd 108 = .ok (.iload_n 3, 1) := by decide +kernel
theorem dX5_superviseEnd_109 : decode cX5_superviseEnd 109 = .ok (.iconst (-1), 1) := by decide +kernel
theorem dX5_superviseEnd_110 : decode cX5_superviseEnd 110 = .ok (.iastore, 1) := by decide +kernel
theorem dX5_superviseEnd_111 : decode cX5_superviseEnd 111 = .ok (.aload_n 2, 1) := by decide +kernel
theorem dX5_superviseEnd_112 : decode cX5_superviseEnd 112 = .ok (.dup, 1) := by decide +kernel
theorem dX5_superviseEnd_113 : decode cX5_superviseEnd 113 = .ok (.getfield 255, 3) := by decide +kernel
theorem dX5_superviseEnd_116 : decode cX5_superviseEnd 116 = .ok (.iconst 1, 1) := by decide +kernel
theorem dX5_superviseEnd_117 : decode cX5_superviseEnd 117 = .ok (.iload_n 3, 1) := by decide +kernel
theorem dX5_superviseEnd_118 : decode cX5_superviseEnd 118 = .ok (.ishl, 1) := by decide +kernel
theorem dX5_superviseEnd_119 : decode cX5_superviseEnd 119 = .ok (.ior, 1) := by decide +kernel
theorem dX5_superviseEnd_120 : decode cX5_superviseEnd 120 = .ok (.putfield 255, 3) := by decide +kernel
theorem dX5_superviseEnd_123 : decode cX5_superviseEnd 123 = .ok (.return_, 1) := by decide +kernel
theorem dX5_superviseEnd_124 : decode cX5_superviseEnd 124 = .ok (.aload_n 0, 1) := by decide +kernel
theorem dX5_superviseEnd_125 : decode cX5_superviseEnd 125 = .ok (.aload_n 2, 1) := by decide +kernel
theorem dX5_superviseEnd_126 : decode cX5_superviseEnd 126 = .ok (.getfield 146, 3) := by decide +kernel
theorem dX5_superviseEnd_129 : decode cX5_superviseEnd 129 = .ok (.invokevirtual 258, 3) := by decide +kernel
theorem dX5_superviseEnd_132 : decode cX5_superviseEnd 132 = .ok (.aload_n 0, 1) := by decide +kernel
theorem dX5_superviseEnd_133 : decode cX5_superviseEnd 133 = .ok (.aload_n 2, 1) := by decide +kernel
theorem dX5_superviseEnd_134 : decode cX5_superviseEnd 134 = .ok (.invokevirtual 261, 3) := by decide +kernel
theorem dX5_superviseEnd_137 : decode cX5_superviseEnd 137 = .ok (.aload_n 0, 1) := by decide +kernel
theorem dX5_superviseEnd_138 : decode cX5_superviseEnd 138 = .ok (.getfield 37, 3) := by decide +kernel
theorem dX5_superviseEnd_141 : decode cX5_superviseEnd 141 = .ok (.getfield 265, 3) := by decide +kernel
theorem dX5_superviseEnd_144 : decode cX5_superviseEnd 144 = .ok (.aload_n 2, 1) := by decide +kernel
theorem dX5_superviseEnd_145 : decode cX5_superviseEnd 145 = .ok (.getfield 122, 3) := by decide +kernel
theorem dX5_superviseEnd_148 : decode cX5_superviseEnd 148 = .ok (.iaload, 1) := by decide +kernel
theorem dX5_superviseEnd_149 : decode cX5_superviseEnd 149 = .ok (.if_icmp .le 10, 3) := by decide +kernel
theorem dX5_superviseEnd_152 : decode cX5_superviseEnd 152 = .ok (.aload_n 0, 1) := by decide +kernel
theorem dX5_superviseEnd_153 : decode cX5_superviseEnd 153 = .ok (.aload_n 2, 1) := by decide +kernel
theorem dX5_superviseEnd_154 : decode cX5_superviseEnd 154 = .ok (.iconst 5, 1) := by decide +kernel
theorem dX5_superviseEnd_155 : decode cX5_superviseEnd 155 = .ok (.invokevirtual 156, 3) := by decide +kernel
theorem dX5_superviseEnd_158 : decode cX5_superviseEnd 158 = .ok (.return_, 1) := by decide +kernel
theorem dX5_superviseEnd_159 : decode cX5_superviseEnd 159 = .ok (.aload_n 0, 1) := by decide +kernel
theorem dX5_superviseEnd_160 : decode cX5_superviseEnd 160 = .ok (.getfield 37, 3) := by decide +kernel
theorem dX5_superviseEnd_163 : decode cX5_superviseEnd 163 = .ok (.getfield 268, 3) := by decide +kernel
theorem dX5_superviseEnd_166 : decode cX5_superviseEnd 166 = .ok (.aload_n 2, 1) := by decide +kernel
theorem dX5_superviseEnd_167 : decode cX5_superviseEnd 167 = .ok (.getfield 122, 3) := by decide +kernel
theorem dX5_superviseEnd_170 : decode cX5_superviseEnd 170 = .ok (.iaload, 1) := by decide +kernel
theorem dX5_superviseEnd_171 : decode cX5_superviseEnd 171 = .ok (.istore 6, 2) := by decide +kernel
theorem dX5_superviseEnd_173 : decode cX5_superviseEnd 173 = .ok (.iload 6, 2) := by decide +kernel
theorem dX5_superviseEnd_175 : decode cX5_superviseEnd 175 = .ok (.ifCond .ne 14, 3) := by decide +kernel
theorem dX5_superviseEnd_178 : decode cX5_superviseEnd 178 = .ok (.aload_n 0, 1) := by decide +kernel
theorem dX5_superviseEnd_179 : decode cX5_superviseEnd 179 = .ok (.aload_n 2, 1) := by decide +kernel
theorem dX5_superviseEnd_180 : decode cX5_superviseEnd 180 = .ok (.iload_n 3, 1) := by decide +kernel
theorem dX5_superviseEnd_181 : decode cX5_superviseEnd 181 = .ok (.iload_n 3, 1) := by decide +kernel
theorem dX5_superviseEnd_182 : decode cX5_superviseEnd 182 = .ok (.iconst 1, 1) := by decide +kernel
theorem dX5_superviseEnd_183 : decode cX5_superviseEnd 183 = .ok (.iadd, 1) := by decide +kernel
theorem dX5_superviseEnd_184 : decode cX5_superviseEnd 184 = .ok (.iconst 0, 1) := by decide +kernel
theorem dX5_superviseEnd_185 : decode cX5_superviseEnd 185 = .ok (.invokestatic 163, 3) := by decide +kernel
theorem dX5_superviseEnd_188 : decode cX5_superviseEnd 188 = .ok (.return_, 1) := by decide +kernel
theorem dX5_superviseEnd_189 : decode cX5_superviseEnd 189 = .ok (.iload 6, 2) := by decide +kernel
theorem dX5_superviseEnd_191 : decode cX5_superviseEnd 191 = .ok (.iconst 1, 1) := by decide +kernel
theorem dX5_superviseEnd_192 : decode cX5_superviseEnd 192 = .ok (.if_icmp .ne 7, 3) := by decide +kernel
theorem dX5_superviseEnd_195 : decode cX5_superviseEnd 195 = .ok (.iconst 0, 1) := by decide +kernel
theorem dX5_superviseEnd_196 : decode cX5_superviseEnd 196 = .ok (.goto 4, 3) := by decide +kernel
theorem dX5_superviseEnd_199 : decode cX5_superviseEnd 199 = .ok (.iload_n 3, 1) := by decide +kernel
theorem dX5_superviseEnd_200 : decode cX5_superviseEnd 200 = .ok (.istore 7, 2) := by decide +kernel
theorem dX5_superviseEnd_202 : decode cX5_superviseEnd 202 = .ok (.aload_n 0, 1) := by decide +kernel
theorem dX5_superviseEnd_203 : decode cX5_superviseEnd 203 = .ok (.aload_n 2, 1) := by decide +kernel
theorem dX5_superviseEnd_204 : decode cX5_superviseEnd 204 = .ok (.iload 7, 2) := by decide +kernel
theorem dX5_superviseEnd_206 : decode cX5_superviseEnd 206 = .ok (.iload_n 3, 1) := by decide +kernel
theorem dX5_superviseEnd_207 : decode cX5_superviseEnd 207 = .ok (.invokevirtual 208, 3) := by decide +kernel
theorem dX5_superviseEnd_210 : decode cX5_superviseEnd 210 = .ok (.aload_n 0, 1) := by decide +kernel
theorem dX5_superviseEnd_211 : decode cX5_superviseEnd 211 = .ok (.aload_n 2, 1) := by decide +kernel
theorem dX5_superviseEnd_212 : decode cX5_superviseEnd 212 = .ok (.iload 7, 2) := by decide +kernel
theorem dX5_superviseEnd_214 : decode cX5_superviseEnd 214 = .ok (.iconst 4, 1) := by decide +kernel
theorem dX5_superviseEnd_215 : decode cX5_superviseEnd 215 = .ok (.iconst 0, 1) := by decide +kernel
theorem dX5_superviseEnd_216 : decode cX5_superviseEnd 216 = .ok (.invokestatic 163, 3) := by decide +kernel
theorem dX5_superviseEnd_219 : decode cX5_superviseEnd 219 = .ok (.return_, 1) := by decide +kernel
theorem dX5_supervisors_0 : decode cX5_supervisors 0 = .ok (.iconst 0, 1) := by decide +kernel
theorem dX5_supervisors_1 : decode cX5_supervisors 1 = .ok (.istore_n 1, 1) := by decide +kernel
theorem dX5_supervisors_2 : decode cX5_supervisors 2 = .ok (.iconst 0, 1) := by decide +kernel
theorem dX5_supervisors_3 : decode cX5_supervisors 3 = .ok (.istore_n 2, 1) := by decide +kernel
theorem dX5_supervisors_4 : decode cX5_supervisors 4 = .ok (.iload_n 2, 1) := by decide +kernel
theorem dX5_supervisors_5 : decode cX5_supervisors 5 = .ok (.aload_n 0, 1) := by decide +kernel
theorem dX5_supervisors_6 : decode cX5_supervisors 6 = .ok (.getfield 56, 3) := by decide +kernel
theorem dX5_supervisors_9 : decode cX5_supervisors 9 = .ok (.if_icmp .ge 30, 3) := by decide +kernel
theorem dX5_supervisors_12 : decode cX5_supervisors 12 = .ok (.iload_n 2, 1) := by decide +kernel
theorem dX5_supervisors_13 : decode cX5_supervisors 13 = .ok (.bipush 24, 2) := by decide +kernel
theorem dX5_supervisors_15 : decode cX5_supervisors 15 = .ok (.if_icmp .ge 24, 3) := by decide +kernel
theorem dX5_supervisors_18 : decode cX5_supervisors 18 = .ok (.aload_n 0, 1) := by decide +kernel
theorem dX5_supervisors_19 : decode cX5_supervisors 19 = .ok (.getfield 20, 3) := by decide +kernel
theorem dX5_supervisors_22 : decode cX5_supervisors 22 = .ok (.iload_n 2, 1) := by decide +kernel
theorem dX5_supervisors_23 : decode cX5_supervisors 23 = .ok (.aaload, 1) := by decide +kernel
theorem dX5_supervisors_24 : decode cX5_supervisors 24 = .ok (.invokevirtual 174, 3) := by decide +kernel
theorem dX5_supervisors_27 : decode cX5_supervisors 27 = .ok (.ifCond .eq 6, 3) := by decide +kernel
theorem dX5_supervisors_30 : decode cX5_supervisors 30 = .ok (.iinc 1 1, 3) := by decide +kernel
theorem dX5_supervisors_33 : decode cX5_supervisors 33 = .ok (.iinc 2 1, 3) := by decide +kernel
theorem dX5_supervisors_36 : decode cX5_supervisors 36 = .ok (.goto (-32), 3) := by decide +kernel
theorem dX5_supervisors_39 : decode cX5_supervisors 39 = .ok (.iload_n 1, 1) := by decide +kernel
theorem dX5_supervisors_40 : decode cX5_supervisors 40 = .ok (.ireturn, 1) := by decide +kernel
theorem dX5_takeName_0 : decode cX5_takeName 0 = .ok (.aload_n 0, 1) := by decide +kernel
theorem dX5_takeName_1 : decode cX5_takeName 1 = .ok (.iload_n 2, 1) := by decide +kernel
theorem dX5_takeName_2 : decode cX5_takeName 2 = .ok (.invokevirtual 345, 3) := by decide +kernel
theorem dX5_takeName_5 : decode cX5_takeName 5 = .ok (.istore_n 3, 1) := by decide +kernel
theorem dX5_takeName_6 : decode cX5_takeName 6 = .ok (.iload_n 3, 1) := by decide +kernel
theorem dX5_takeName_7 : decode cX5_takeName 7 = .ok (.iconst (-1), 1) := by decide +kernel
theorem dX5_takeName_8 : decode cX5_takeName 8 = .ok (.if_icmp .eq 21, 3) := by decide +kernel
theorem dX5_takeName_11 : decode cX5_takeName 11 = .ok (.iload_n 3, 1) := by decide +kernel
theorem dX5_takeName_12 : decode cX5_takeName 12 = .ok (.aload_n 1, 1) := by decide +kernel
theorem dX5_takeName_13 : decode cX5_takeName 13 = .ok (.getfield 146, 3) := by decide +kernel
theorem dX5_takeName_16 : decode cX5_takeName 16 = .ok (.if_icmp .eq 13, 3) := by decide +kernel
theorem dX5_takeName_19 : decode cX5_takeName 19 = .ok (.aload_n 0, 1) := by decide +kernel
theorem dX5_takeName_20 : decode cX5_takeName 20 = .ok (.aload_n 1, 1) := by decide +kernel
theorem dX5_takeName_21 : decode cX5_takeName 21 = .ok (.bipush 6, 2) := by decide +kernel
theorem dX5_takeName_23 : decode cX5_takeName 23 = .ok (.invokevirtual 156, 3) := by decide +kernel
theorem dX5_takeName_26 : decode cX5_takeName 26 = .ok (.goto 22, 3) := by decide +kernel
theorem dX5_takeName_29 : decode cX5_takeName 29 = .ok (.iload_n 2, 1) := by decide +kernel
theorem dX5_takeName_30 : decode cX5_takeName 30 = .ok (.iconst 0, 1) := by decide +kernel
theorem dX5_takeName_31 : decode cX5_takeName 31 = .ok (.iconst 3, 1) := by decide +kernel
theorem dX5_takeName_32 : decode cX5_takeName 32 = .ok (.invokestatic 103, 3) := by decide +kernel
theorem dX5_takeName_35 : decode cX5_takeName 35 = .ok (.ifCond .eq 13, 3) := by decide +kernel
theorem dX5_takeName_38 : decode cX5_takeName 38 = .ok (.aload_n 0, 1) := by decide +kernel
theorem dX5_takeName_39 : decode cX5_takeName 39 = .ok (.getfield 15, 3) := by decide +kernel
theorem dX5_takeName_42 : decode cX5_takeName 42 = .ok (.iload_n 2, 1) := by decide +kernel
theorem dX5_takeName_43 : decode cX5_takeName 43 = .ok (.aload_n 1, 1) := by decide +kernel
theorem dX5_takeName_44 : decode cX5_takeName 44 = .ok (.getfield 146, 3) := by decide +kernel
theorem dX5_takeName_47 : decode cX5_takeName 47 = .ok (.iastore, 1) := by decide +kernel
theorem dX5_takeName_48 : decode cX5_takeName 48 = .ok (.return_, 1) := by decide +kernel
theorem dX5_tellWatchers_0 : decode cX5_tellWatchers 0 = .ok (.aload_n 1, 1) := by decide +kernel
theorem dX5_tellWatchers_1 : decode cX5_tellWatchers 1 = .ok (.getfield 229, 3) := by decide +kernel
theorem dX5_tellWatchers_4 : decode cX5_tellWatchers 4 = .ok (.astore_n 2, 1) := by decide +kernel
theorem dX5_tellWatchers_5 : decode cX5_tellWatchers 5 = .ok (.iconst 0, 1) := by decide +kernel
theorem dX5_tellWatchers_6 : decode cX5_tellWatchers 6 = .ok (.istore_n 3, 1) := by decide +kernel
theorem dX5_tellWatchers_7 : decode cX5_tellWatchers 7 = .ok (.iload_n 3, 1) := by decide +kernel
theorem dX5_tellWatchers_8 : decode cX5_tellWatchers 8 = .ok (.aload_n 2, 1) := by decide +kernel
theorem dX5_tellWatchers_9 : decode cX5_tellWatchers 9 = .ok (.getfield 233, 3) := by decide +kernel
theorem dX5_tellWatchers_12 : decode cX5_tellWatchers 12 = .ok (.if_icmp .ge 104, 3) := by decide +kernel
theorem dX5_tellWatchers_15 : decode cX5_tellWatchers 15 = .ok (.iload_n 3, 1) := by decide +kernel
theorem dX5_tellWatchers_16 : decode cX5_tellWatchers 16 = .ok (.bipush 24, 2) := by decide +kernel
theorem dX5_tellWatchers_18 : decode cX5_tellWatchers 18 = .ok (.if_icmp .ge 98, 3) := by decide +kernel
theorem dX5_tellWatchers_21 : decode cX5_tellWatchers 21 = .ok (.aload_n 2, 1) := by decide +kernel
theorem dX5_tellWatchers_22 : decode cX5_tellWatchers 22 = .ok (.getfield 236, 3) := by decide +kernel
theorem dX5_tellWatchers_25 : decode cX5_tellWatchers 25 = .ok (.iload_n 3, 1) := by decide +kernel
theorem dX5_tellWatchers_26 : decode cX5_tellWatchers 26 = .ok (.iaload, 1) := by decide +kernel
theorem dX5_tellWatchers_27 : decode cX5_tellWatchers 27 = .ok (.istore 4, 2) := by decide +kernel
theorem dX5_tellWatchers_29 : decode cX5_tellWatchers 29 = .ok (.aload_n 0, 1) := by decide +kernel
theorem dX5_tellWatchers_30 : decode cX5_tellWatchers 30 = .ok (.iload 4, 2) := by decide +kernel
theorem dX5_tellWatchers_32 : decode cX5_tellWatchers 32 = .ok (.invokevirtual 170, 3) := by decide +kernel
theorem dX5_tellWatchers_35 : decode cX5_tellWatchers 35 = .ok (.ifnonnull 6, 3) := by decide +kernel
theorem dX5_tellWatchers_38 : decode cX5_tellWatchers 38 = .ok (.goto 72, 3) := by decide +kernel
theorem dX5_tellWatchers_41 : decode cX5_tellWatchers 41 = .ok (.iconst 0, 1) := by decide +kernel
theorem dX5_tellWatchers_42 : decode cX5_tellWatchers 42 = .ok (.istore 5, 2) := by decide +kernel
theorem dX5_tellWatchers_44 : decode cX5_tellWatchers 44 = .ok (.iload 5, 2) := by decide +kernel
theorem dX5_tellWatchers_46 : decode cX5_tellWatchers 46 = .ok (.aload_n 2, 1) := by decide +kernel
theorem dX5_tellWatchers_47 : decode cX5_tellWatchers 47 = .ok (.getfield 239, 3) := by decide +kernel
theorem dX5_tellWatchers_50 : decode cX5_tellWatchers 50 = .ok (.iload_n 3, 1) := by decide +kernel
theorem dX5_tellWatchers_51 : decode cX5_tellWatchers 51 = .ok (.iaload, 1) := by decide +kernel
theorem dX5_tellWatchers_52 : decode cX5_tellWatchers 52 = .ok (.if_icmp .ge 36, 3) := by decide +kernel
theorem dX5_tellWatchers_55 : decode cX5_tellWatchers 55 = .ok (.iload 5, 2) := by decide +kernel
theorem dX5_tellWatchers_57 : decode cX5_tellWatchers 57 = .ok (.bipush 8, 2) := by decide +kernel
theorem dX5_tellWatchers_59 : decode cX5_tellWatchers 59 = .ok (.if_icmp .ge 29, 3) := by decide +kernel
theorem dX5_tellWatchers_62 : decode cX5_tellWatchers 62 = .ok (.aload_n 0, 1) := by decide +kernel
theorem dX5_tellWatchers_63 : decode cX5_tellWatchers 63 = .ok (.iload 4, 2) := by decide +kernel
theorem dX5_tellWatchers_65 : decode cX5_tellWatchers 65 = .ok (.iconst 2, 1) := by decide +kernel
theorem dX5_tellWatchers_66 : decode cX5_tellWatchers 66 = .ok (.bipush 10, 2) := by decide +kernel
theorem dX5_tellWatchers_68 : decode cX5_tellWatchers 68 = .ok (.aload_n 1, 1) := by decide +kernel
theorem dX5_tellWatchers_69 : decode cX5_tellWatchers 69 = .ok (.getfield 146, 3) := by decide +kernel
theorem dX5_tellWatchers_72 : decode cX5_tellWatchers 72 = .ok (.imul, 1) := by decide +kernel
theorem dX5_tellWatchers_73 : decode cX5_tellWatchers 73 = .ok (.aload_n 1, 1) := by decide +kernel
theorem dX5_tellWatchers_74 : decode cX5_tellWatchers 74 = .ok (.getfield 201, 3) := by decide +kernel
theorem dX5_tellWatchers_77 : decode cX5_tellWatchers 77 = .ok (.iadd, 1) := by decide +kernel
theorem dX5_tellWatchers_78 : decode cX5_tellWatchers 78 = .ok (.invokevirtual 198, 3) := by decide +kernel
theorem dX5_tellWatchers_81 : decode cX5_tellWatchers 81 = .ok (.pop, 1) := by decide +kernel
theorem dX5_tellWatchers_82 : decode cX5_tellWatchers 82 = .ok (.iinc 5 1, 3) := by decide +kernel
theorem dX5_tellWatchers_85 : decode cX5_tellWatchers 85 = .ok (.goto (-41), 3) := by decide +kernel
theorem dX5_tellWatchers_88 : decode cX5_tellWatchers 88 = .ok (.aload_n 0, 1) := by decide +kernel
theorem dX5_tellWatchers_89 : decode cX5_tellWatchers 89 = .ok (.dup, 1) := by decide +kernel
theorem dX5_tellWatchers_90 : decode cX5_tellWatchers 90 = .ok (.getfield 73, 3) := by decide +kernel
theorem dX5_tellWatchers_93 : decode cX5_tellWatchers 93 = .ok (.iconst 0, 1) := by decide +kernel
theorem dX5_tellWatchers_94 : decode cX5_tellWatchers 94 = .ok (.aload_n 2, 1) := by decide +kernel
theorem dX5_tellWatchers_95 : decode cX5_tellWatchers 95 = .ok (.getfield 239, 3) := by decide +kernel
theorem dX5_tellWatchers_98 : decode cX5_tellWatchers 98 = .ok (.iload_n 3, 1) := by decide +kernel
theorem dX5_tellWatchers_99 : decode cX5_tellWatchers 99 = .ok (.iaload, 1) := by decide +kernel
theorem dX5_tellWatchers_100 : decode cX5_tellWatchers 100 = .ok (.bipush 8, 2) := by decide +kernel
theorem dX5_tellWatchers_102 : decode cX5_tellWatchers 102 = .ok (.isub, 1) := by decide +kernel
theorem dX5_tellWatchers_103 : decode cX5_tellWatchers 103 = .ok (.invokestatic 60, 3) := by decide +kernel
theorem dX5_tellWatchers_106 : decode cX5_tellWatchers 106 = .ok (.iadd, 1) := by decide +kernel
theorem dX5_tellWatchers_107 : decode cX5_tellWatchers 107 = .ok (.putfield 73, 3) := by decide +kernel
theorem dX5_tellWatchers_110 : decode cX5_tellWatchers 110 = .ok (.iinc 3 1, 3) := by decide +kernel
theorem dX5_tellWatchers_113 : decode cX5_tellWatchers 113 = .ok (.goto (-106), 3) := by decide +kernel
theorem dX5_tellWatchers_116 : decode cX5_tellWatchers 116 = .ok (.return_, 1) := by decide +kernel
theorem dX5_unlink_0 : decode cX5_unlink 0 = .ok (.aload_n 1, 1) := by decide +kernel
theorem dX5_unlink_1 : decode cX5_unlink 1 = .ok (.dup, 1) := by decide +kernel
theorem dX5_unlink_2 : decode cX5_unlink 2 = .ok (.getfield 242, 3) := by decide +kernel
theorem dX5_unlink_5 : decode cX5_unlink 5 = .ok (.iconst 1, 1) := by decide +kernel
theorem dX5_unlink_6 : decode cX5_unlink 6 = .ok (.aload_n 2, 1) := by decide +kernel
theorem dX5_unlink_7 : decode cX5_unlink 7 = .ok (.getfield 146, 3) := by decide +kernel
theorem dX5_unlink_10 : decode cX5_unlink 10 = .ok (.ishl, 1) := by decide +kernel
theorem dX5_unlink_11 : decode cX5_unlink 11 = .ok (.iconst (-1), 1) := by decide +kernel
theorem dX5_unlink_12 : decode cX5_unlink 12 = .ok (.ixor, 1) := by decide +kernel
theorem dX5_unlink_13 : decode cX5_unlink 13 = .ok (.iand, 1) := by decide +kernel
theorem dX5_unlink_14 : decode cX5_unlink 14 = .ok (.putfield 242, 3) := by decide +kernel
theorem dX5_unlink_17 : decode cX5_unlink 17 = .ok (.aload_n 2, 1) := by decide +kernel
theorem dX5_unlink_18 : decode cX5_unlink 18 = .ok (.dup, 1) := by decide +kernel
theorem dX5_unlink_19 : decode cX5_unlink 19 = .ok (.getfield 242, 3) := by decide +kernel
theorem dX5_unlink_22 : decode cX5_unlink 22 = .ok (.iconst 1, 1) := by decide +kernel
theorem dX5_unlink_23 : decode cX5_unlink 23 = .ok (.aload_n 1, 1) := by decide +kernel
theorem dX5_unlink_24 : decode cX5_unlink 24 = .ok (.getfield 146, 3) := by decide +kernel
theorem dX5_unlink_27 : decode cX5_unlink 27 = .ok (.ishl, 1) := by decide +kernel
theorem dX5_unlink_28 : decode cX5_unlink 28 = .ok (.iconst (-1), 1) := by decide +kernel
theorem dX5_unlink_29 : decode cX5_unlink 29 = .ok (.ixor, 1) := by decide +kernel
theorem dX5_unlink_30 : decode cX5_unlink 30 = .ok (.iand, 1) := by decide +kernel
theorem dX5_unlink_31 : decode cX5_unlink 31 = .ok (.putfield 242, 3) := by decide +kernel
theorem dX5_unlink_34 : decode cX5_unlink 34 = .ok (.return_, 1) := by decide +kernel
theorem dX5_watchesOf_0 : decode cX5_watchesOf 0 = .ok (.aload_n 1, 1) := by decide +kernel
theorem dX5_watchesOf_1 : decode cX5_watchesOf 1 = .ok (.getfield 94, 3) := by decide +kernel
theorem dX5_watchesOf_4 : decode cX5_watchesOf 4 = .ok (.iconst 2, 1) := by decide +kernel
theorem dX5_watchesOf_5 : decode cX5_watchesOf 5 = .ok (.if_icmp .ne 5, 3) := by decide +kernel
theorem dX5_watchesOf_8 : decode cX5_watchesOf 8 = .ok (.iconst 0, 1) := by decide +kernel
theorem dX5_watchesOf_9 : decode cX5_watchesOf 9 = .ok (.ireturn, 1) := by decide +kernel
theorem dX5_watchesOf_10 : decode cX5_watchesOf 10 = .ok (.iconst 0, 1) := by decide +kernel
theorem dX5_watchesOf_11 : decode cX5_watchesOf 11 = .ok (.istore_n 2, 1) := by decide +kernel
theorem dX5_watchesOf_12 : decode cX5_watchesOf 12 = .ok (.iconst 0, 1) := by decide +kernel
theorem dX5_watchesOf_13 : decode cX5_watchesOf 13 = .ok (.istore_n 3, 1) := by decide +kernel
theorem dX5_watchesOf_14 : decode cX5_watchesOf 14 = .ok (.iload_n 3, 1) := by decide +kernel
theorem dX5_watchesOf_15 : decode cX5_watchesOf 15 = .ok (.aload_n 1, 1) := by decide +kernel
theorem dX5_watchesOf_16 : decode cX5_watchesOf 16 = .ok (.getfield 229, 3) := by decide +kernel
theorem dX5_watchesOf_19 : decode cX5_watchesOf 19 = .ok (.getfield 233, 3) := by decide +kernel
theorem dX5_watchesOf_22 : decode cX5_watchesOf 22 = .ok (.if_icmp .ge 43, 3) := by decide +kernel
theorem dX5_watchesOf_25 : decode cX5_watchesOf 25 = .ok (.iload_n 3, 1) := by decide +kernel
theorem dX5_watchesOf_26 : decode cX5_watchesOf 26 = .ok (.bipush 24, 2) := by decide +kernel
theorem dX5_watchesOf_28 : decode cX5_watchesOf 28 = .ok (.if_icmp .ge 37, 3) := by decide +kernel
theorem dX5_watchesOf_31 : decode cX5_watchesOf 31 = .ok (.aload_n 0, 1) := by decide +kernel
theorem dX5_watchesOf_32 : decode cX5_watchesOf 32 = .ok (.aload_n 1, 1) := by decide +kernel
end
section
theorem dX5_watchesOf_33 : decode cX5_watchesOf 33 = .ok (.getfield 229, 3) := by decide +kernel
theorem dX5_watchesOf_36 : decode cX5_watchesOf 36 = .ok (.getfield 236, 3) := by decide +kernel
theorem dX5_watchesOf_39 : decode cX5_watchesOf 39 = .ok (.iload_n 3, 1) := by decide +kernel
theorem dX5_watchesOf_40 : decode cX5_watchesOf 40 = .ok (.iaload, 1) := by decide +kernel
theorem dX5_watchesOf_41 : decode cX5_watchesOf 41 = .ok (.invokevirtual 170, 3) := by decide +kernel
theorem dX5_watchesOf_44 : decode cX5_watchesOf 44 = .ok (.ifnull 15, 3) := by decide +kernel
theorem dX5_watchesOf_47 : decode cX5_watchesOf 47 = .ok (.iload_n 2, 1) := by decide +kernel
theorem dX5_watchesOf_48 : decode cX5_watchesOf 48 = .ok (.aload_n 1, 1) := by decide +kernel
theorem dX5_watchesOf_49 : decode cX5_watchesOf 49 = .ok (.getfield 229, 3) := by decide +kernel
theorem dX5_watchesOf_52 : decode cX5_watchesOf 52 = .ok (.getfield 239, 3) := by decide +kernel
theorem dX5_watchesOf_55 : decode cX5_watchesOf 55 = .ok (.iload_n 3, 1) := by decide +kernel
theorem dX5_watchesOf_56 : decode cX5_watchesOf 56 = .ok (.iaload, 1) := by decide +kernel
theorem dX5_watchesOf_57 : decode cX5_watchesOf 57 = .ok (.iadd, 1) := by decide +kernel
theorem dX5_watchesOf_58 : decode cX5_watchesOf 58 = .ok (.istore_n 2, 1) := by decide +kernel
theorem dX5_watchesOf_59 : decode cX5_watchesOf 59 = .ok (.iinc 3 1, 3) := by decide +kernel
theorem dX5_watchesOf_62 : decode cX5_watchesOf 62 = .ok (.goto (-48), 3) := by decide +kernel
theorem dX5_watchesOf_65 : decode cX5_watchesOf 65 = .ok (.iload_n 2, 1) := by decide +kernel
theorem dX5_watchesOf_66 : decode cX5_watchesOf 66 = .ok (.ireturn, 1) := by decide +kernel
theorem dX5_withStatus_0 : decode cX5_withStatus 0 = .ok (.iconst 0, 1) := by decide +kernel
theorem dX5_withStatus_1 : decode cX5_withStatus 1 = .ok (.istore_n 2, 1) := by decide +kernel
theorem dX5_withStatus_2 : decode cX5_withStatus 2 = .ok (.iconst 0, 1) := by decide +kernel
theorem dX5_withStatus_3 : decode cX5_withStatus 3 = .ok (.istore_n 3, 1) := by decide +kernel
theorem dX5_withStatus_4 : decode cX5_withStatus 4 = .ok (.iload_n 3, 1) := by decide +kernel
theorem dX5_withStatus_5 : decode cX5_withStatus 5 = .ok (.aload_n 0, 1) := by decide +kernel
theorem dX5_withStatus_6 : decode cX5_withStatus 6 = .ok (.getfield 56, 3) := by decide +kernel
theorem dX5_withStatus_9 : decode cX5_withStatus 9 = .ok (.if_icmp .ge 31, 3) := by decide +kernel
theorem dX5_withStatus_12 : decode cX5_withStatus 12 = .ok (.iload_n 3, 1) := by decide +kernel
theorem dX5_withStatus_13 : decode cX5_withStatus 13 = .ok (.bipush 24, 2) := by decide +kernel
theorem dX5_withStatus_15 : decode cX5_withStatus 15 = .ok (.if_icmp .ge 25, 3) := by decide +kernel
theorem dX5_withStatus_18 : decode cX5_withStatus 18 = .ok (.aload_n 0, 1) := by decide +kernel
theorem dX5_withStatus_19 : decode cX5_withStatus 19 = .ok (.getfield 20, 3) := by decide +kernel
theorem dX5_withStatus_22 : decode cX5_withStatus 22 = .ok (.iload_n 3, 1) := by decide +kernel
theorem dX5_withStatus_23 : decode cX5_withStatus 23 = .ok (.aaload, 1) := by decide +kernel
theorem dX5_withStatus_24 : decode cX5_withStatus 24 = .ok (.getfield 94, 3) := by decide +kernel
theorem dX5_withStatus_27 : decode cX5_withStatus 27 = .ok (.iload_n 1, 1) := by decide +kernel
theorem dX5_withStatus_28 : decode cX5_withStatus 28 = .ok (.if_icmp .ne 6, 3) := by decide +kernel
theorem dX5_withStatus_31 : decode cX5_withStatus 31 = .ok (.iinc 2 1, 3) := by decide +kernel
theorem dX5_withStatus_34 : decode cX5_withStatus 34 = .ok (.iinc 3 1, 3) := by decide +kernel
theorem dX5_withStatus_37 : decode cX5_withStatus 37 = .ok (.goto (-33), 3) := by decide +kernel
theorem dX5_withStatus_40 : decode cX5_withStatus 40 = .ok (.iload_n 2, 1) := by decide +kernel
theorem dX5_withStatus_41 : decode cX5_withStatus 41 = .ok (.ireturn, 1) := by decide +kernel
theorem dX6_checkArgument_0 : decode cX6_checkArgument 0 = .ok (.iload_n 0, 1) := by decide +kernel
theorem dX6_checkArgument_1 : decode cX6_checkArgument 1 = .ok (.ifCond .ne 11, 3) := by decide +kernel
theorem dX6_checkArgument_4 : decode cX6_checkArgument 4 = .ok (.new 295, 3) := by decide +kernel
theorem dX6_checkArgument_7 : decode cX6_checkArgument 7 = .ok (.dup, 1) := by decide +kernel
theorem dX6_checkArgument_8 : decode cX6_checkArgument 8 = .ok (.invokespecial 297, 3) := by decide +kernel
theorem dX6_checkArgument_11 : decode cX6_checkArgument 11 = .ok (.athrow, 1) := by decide +kernel
theorem dX6_checkArgument_12 : decode cX6_checkArgument 12 = .ok (.return_, 1) := by decide +kernel
theorem dX6_checkIndex_0 : decode cX6_checkIndex 0 = .ok (.iload_n 0, 1) := by decide +kernel
theorem dX6_checkIndex_1 : decode cX6_checkIndex 1 = .ok (.ifCond .ne 11, 3) := by decide +kernel
theorem dX6_checkIndex_4 : decode cX6_checkIndex 4 = .ok (.new 292, 3) := by decide +kernel
theorem dX6_checkIndex_7 : decode cX6_checkIndex 7 = .ok (.dup, 1) := by decide +kernel
theorem dX6_checkIndex_8 : decode cX6_checkIndex 8 = .ok (.invokespecial 294, 3) := by decide +kernel
theorem dX6_checkIndex_11 : decode cX6_checkIndex 11 = .ok (.athrow, 1) := by decide +kernel
theorem dX6_checkIndex_12 : decode cX6_checkIndex 12 = .ok (.return_, 1) := by decide +kernel
theorem dX6_checkProcess_0 : decode cX6_checkProcess 0 = .ok (.aload_n 0, 1) := by decide +kernel
theorem dX6_checkProcess_1 : decode cX6_checkProcess 1 = .ok (.getfield 28, 3) := by decide +kernel
theorem dX6_checkProcess_4 : decode cX6_checkProcess 4 = .ok (.iload_n 1, 1) := by decide +kernel
theorem dX6_checkProcess_5 : decode cX6_checkProcess 5 = .ok (.invokevirtual 301, 3) := by decide +kernel
theorem dX6_checkProcess_8 : decode cX6_checkProcess 8 = .ok (.astore_n 2, 1) := by decide +kernel
theorem dX6_checkProcess_9 : decode cX6_checkProcess 9 = .ok (.aload_n 2, 1) := by decide +kernel
theorem dX6_checkProcess_10 : decode cX6_checkProcess 10 = .ok (.ifnonnull 11, 3) := by decide +kernel
theorem dX6_checkProcess_13 : decode cX6_checkProcess 13 = .ok (.new 292, 3) := by decide +kernel
theorem dX6_checkProcess_16 : decode cX6_checkProcess 16 = .ok (.dup, 1) := by decide +kernel
theorem dX6_checkProcess_17 : decode cX6_checkProcess 17 = .ok (.invokespecial 294, 3) := by decide +kernel
theorem dX6_checkProcess_20 : decode cX6_checkProcess 20 = .ok (.athrow, 1) := by decide +kernel
theorem dX6_checkProcess_21 : decode cX6_checkProcess 21 = .ok (.aload_n 2, 1) := by decide +kernel
theorem dX6_checkProcess_22 : decode cX6_checkProcess 22 = .ok (.areturn, 1) := by decide +kernel
theorem dX6_checkState_0 : decode cX6_checkState 0 = .ok (.iload_n 0, 1) := by decide +kernel
theorem dX6_checkState_1 : decode cX6_checkState 1 = .ok (.ifCond .ne 11, 3) := by decide +kernel
theorem dX6_checkState_4 : decode cX6_checkState 4 = .ok (.new 298, 3) := by decide +kernel
theorem dX6_checkState_7 : decode cX6_checkState 7 = .ok (.dup, 1) := by decide +kernel
theorem dX6_checkState_8 : decode cX6_checkState 8 = .ok (.invokespecial 300, 3) := by decide +kernel
theorem dX6_checkState_11 : decode cX6_checkState 11 = .ok (.athrow, 1) := by decide +kernel
theorem dX6_checkState_12 : decode cX6_checkState 12 = .ok (.return_, 1) := by decide +kernel
theorem dX6_digest_0 : decode cX6_digest 0 = .ok (.ldc2_w 251, 3) := by decide +kernel
theorem dX6_digest_3 : decode cX6_digest 3 = .ok (.lstore_n 1, 1) := by decide +kernel
theorem dX6_digest_4 : decode cX6_digest 4 = .ok (.iconst 0, 1) := by decide +kernel
theorem dX6_digest_5 : decode cX6_digest 5 = .ok (.istore_n 3, 1) := by decide +kernel
theorem dX6_digest_6 : decode cX6_digest 6 = .ok (.iload_n 3, 1) := by decide +kernel
theorem dX6_digest_7 : decode cX6_digest 7 = .ok (.bipush 12, 2) := by decide +kernel
theorem dX6_digest_9 : decode cX6_digest 9 = .ok (.if_icmp .gt 22, 3) := by decide +kernel
theorem dX6_digest_12 : decode cX6_digest 12 = .ok (.lload_n 1, 1) := by decide +kernel
theorem dX6_digest_13 : decode cX6_digest 13 = .ok (.ldc2_w 253, 3) := by decide +kernel
theorem dX6_digest_16 : decode cX6_digest 16 = .ok (.lmul, 1) := by decide +kernel
theorem dX6_digest_17 : decode cX6_digest 17 = .ok (.aload_n 0, 1) := by decide +kernel
theorem dX6_digest_18 : decode cX6_digest 18 = .ok (.iload_n 3, 1) := by decide +kernel
theorem dX6_digest_19 : decode cX6_digest 19 = .ok (.invokevirtual 255, 3) := by decide +kernel
theorem dX6_digest_22 : decode cX6_digest 22 = .ok (.i2l, 1) := by decide +kernel
theorem dX6_digest_23 : decode cX6_digest 23 = .ok (.ladd, 1) := by decide +kernel
theorem dX6_digest_24 : decode cX6_digest 24 = .ok (.lstore_n 1, 1) := by decide +kernel
theorem dX6_digest_25 : decode cX6_digest 25 = .ok (.iinc 3 1, 3) := by decide +kernel
theorem dX6_digest_28 : decode cX6_digest 28 = .ok (.goto (-22), 3) := by decide +kernel
theorem dX6_digest_31 : decode cX6_digest 31 = .ok (.iconst 0, 1) := by decide +kernel
theorem dX6_digest_32 : decode cX6_digest 32 = .ok (.istore_n 3, 1) := by decide +kernel
theorem dX6_digest_33 : decode cX6_digest 33 = .ok (.iload_n 3, 1) := by decide +kernel
theorem dX6_digest_34 : decode cX6_digest 34 = .ok (.aload_n 0, 1) := by decide +kernel
theorem dX6_digest_35 : decode cX6_digest 35 = .ok (.getfield 12, 3) := by decide +kernel
theorem dX6_digest_38 : decode cX6_digest 38 = .ok (.getfield 35, 3) := by decide +kernel
theorem dX6_digest_41 : decode cX6_digest 41 = .ok (.if_icmp .ge 52, 3) := by decide +kernel
theorem dX6_digest_44 : decode cX6_digest 44 = .ok (.iconst 0, 1) := by decide +kernel
theorem dX6_digest_45 : decode cX6_digest 45 = .ok (.istore 4, 2) := by decide +kernel
theorem dX6_digest_47 : decode cX6_digest 47 = .ok (.iload 4, 2) := by decide +kernel
theorem dX6_digest_49 : decode cX6_digest 49 = .ok (.iconst 4, 1) := by decide +kernel
theorem dX6_digest_50 : decode cX6_digest 50 = .ok (.if_icmp .gt 24, 3) := by decide +kernel
theorem dX6_digest_53 : decode cX6_digest 53 = .ok (.lload_n 1, 1) := by decide +kernel
theorem dX6_digest_54 : decode cX6_digest 54 = .ok (.ldc2_w 253, 3) := by decide +kernel
theorem dX6_digest_57 : decode cX6_digest 57 = .ok (.lmul, 1) := by decide +kernel
theorem dX6_digest_58 : decode cX6_digest 58 = .ok (.aload_n 0, 1) := by decide +kernel
theorem dX6_digest_59 : decode cX6_digest 59 = .ok (.iload_n 3, 1) := by decide +kernel
theorem dX6_digest_60 : decode cX6_digest 60 = .ok (.iload 4, 2) := by decide +kernel
theorem dX6_digest_62 : decode cX6_digest 62 = .ok (.invokevirtual 258, 3) := by decide +kernel
theorem dX6_digest_65 : decode cX6_digest 65 = .ok (.i2l, 1) := by decide +kernel
theorem dX6_digest_66 : decode cX6_digest 66 = .ok (.ladd, 1) := by decide +kernel
theorem dX6_digest_67 : decode cX6_digest 67 = .ok (.lstore_n 1, 1) := by decide +kernel
theorem dX6_digest_68 : decode cX6_digest 68 = .ok (.iinc 4 1, 3) := by decide +kernel
theorem dX6_digest_71 : decode cX6_digest 71 = .ok (.goto (-24), 3) := by decide +kernel
theorem dX6_digest_74 : decode cX6_digest 74 = .ok (.lload_n 1, 1) := by decide +kernel
theorem dX6_digest_75 : decode cX6_digest 75 = .ok (.ldc2_w 253, 3) := by decide +kernel
theorem dX6_digest_78 : decode cX6_digest 78 = .ok (.lmul, 1) := by decide +kernel
theorem dX6_digest_79 : decode cX6_digest 79 = .ok (.aload_n 0, 1) := by decide +kernel
theorem dX6_digest_80 : decode cX6_digest 80 = .ok (.iload_n 3, 1) := by decide +kernel
theorem dX6_digest_81 : decode cX6_digest 81 = .ok (.invokevirtual 261, 3) := by decide +kernel
theorem dX6_digest_84 : decode cX6_digest 84 = .ok (.i2l, 1) := by decide +kernel
theorem dX6_digest_85 : decode cX6_digest 85 = .ok (.ladd, 1) := by decide +kernel
theorem dX6_digest_86 : decode cX6_digest 86 = .ok (.lstore_n 1, 1) := by decide +kernel
theorem dX6_digest_87 : decode cX6_digest 87 = .ok (.iinc 3 1, 3) := by decide +kernel
theorem dX6_digest_90 : decode cX6_digest 90 = .ok (.goto (-57), 3) := by decide +kernel
theorem dX6_digest_93 : decode cX6_digest 93 = .ok (.iconst 0, 1) := by decide +kernel
theorem dX6_digest_94 : decode cX6_digest 94 = .ok (.istore_n 3, 1) := by decide +kernel
theorem dX6_digest_95 : decode cX6_digest 95 = .ok (.iload_n 3, 1) := by decide +kernel
theorem dX6_digest_96 : decode cX6_digest 96 = .ok (.aload_n 0, 1) := by decide +kernel
theorem dX6_digest_97 : decode cX6_digest 97 = .ok (.getfield 28, 3) := by decide +kernel
theorem dX6_digest_100 : decode cX6_digest 100 = .ok (.getfield 118, 3) := by decide +kernel
theorem dX6_digest_103 : decode cX6_digest 103 = .ok (.if_icmp .ge 16, 3) := by decide +kernel
theorem dX6_digest_106 : decode cX6_digest 106 = .ok (.aload_n 0, 1) := by decide +kernel
theorem dX6_digest_107 : decode cX6_digest 107 = .ok (.lload_n 1, 1) := by decide +kernel
theorem dX6_digest_108 : decode cX6_digest 108 = .ok (.iload_n 3, 1) := by decide +kernel
theorem dX6_digest_109 : decode cX6_digest 109 = .ok (.invokevirtual 264, 3) := by decide +kernel
theorem dX6_digest_112 : decode cX6_digest 112 = .ok (.lstore_n 1, 1) := by decide +kernel
theorem dX6_digest_113 : decode cX6_digest 113 = .ok (.iinc 3 1, 3) := by decide +kernel
theorem dX6_digest_116 : decode cX6_digest 116 = .ok (.goto (-21), 3) := by decide +kernel
theorem dX6_digest_119 : decode cX6_digest 119 = .ok (.iconst 0, 1) := by decide +kernel
theorem dX6_digest_120 : decode cX6_digest 120 = .ok (.istore_n 3, 1) := by decide +kernel
theorem dX6_digest_121 : decode cX6_digest 121 = .ok (.iload_n 3, 1) := by decide +kernel
theorem dX6_digest_122 : decode cX6_digest 122 = .ok (.iconst 4, 1) := by decide +kernel
theorem dX6_digest_123 : decode cX6_digest 123 = .ok (.if_icmp .ge 22, 3) := by decide +kernel
theorem dX6_digest_126 : decode cX6_digest 126 = .ok (.lload_n 1, 1) := by decide +kernel
theorem dX6_digest_127 : decode cX6_digest 127 = .ok (.ldc2_w 253, 3) := by decide +kernel
theorem dX6_digest_130 : decode cX6_digest 130 = .ok (.lmul, 1) := by decide +kernel
theorem dX6_digest_131 : decode cX6_digest 131 = .ok (.aload_n 0, 1) := by decide +kernel
theorem dX6_digest_132 : decode cX6_digest 132 = .ok (.iload_n 3, 1) := by decide +kernel
theorem dX6_digest_133 : decode cX6_digest 133 = .ok (.invokevirtual 268, 3) := by decide +kernel
theorem dX6_digest_136 : decode cX6_digest 136 = .ok (.i2l, 1) := by decide +kernel
theorem dX6_digest_137 : decode cX6_digest 137 = .ok (.ladd, 1) := by decide +kernel
theorem dX6_digest_138 : decode cX6_digest 138 = .ok (.lstore_n 1, 1) := by decide +kernel
theorem dX6_digest_139 : decode cX6_digest 139 = .ok (.iinc 3 1, 3) := by decide +kernel
theorem dX6_digest_142 : decode cX6_digest 142 = .ok (.goto (-21), 3) := by decide +kernel
theorem dX6_digest_145 : decode cX6_digest 145 = .ok (.lload_n 1, 1) := by decide +kernel
theorem dX6_digest_146 : decode cX6_digest 146 = .ok (.ldc2_w 253, 3) := by decide +kernel
theorem dX6_digest_149 : decode cX6_digest 149 = .ok (.lmul, 1) := by decide +kernel
theorem dX6_digest_150 : decode cX6_digest 150 = .ok (.aload_n 0, 1) := by decide +kernel
theorem dX6_digest_151 : decode cX6_digest 151 = .ok (.iconst 1, 1) := by decide +kernel
theorem dX6_digest_152 : decode cX6_digest 152 = .ok (.iconst 5, 1) := by decide +kernel
theorem dX6_digest_153 : decode cX6_digest 153 = .ok (.invokevirtual 271, 3) := by decide +kernel
theorem dX6_digest_156 : decode cX6_digest 156 = .ok (.i2l, 1) := by decide +kernel
theorem dX6_digest_157 : decode cX6_digest 157 = .ok (.ladd, 1) := by decide +kernel
theorem dX6_digest_158 : decode cX6_digest 158 = .ok (.lstore_n 1, 1) := by decide +kernel
theorem dX6_digest_159 : decode cX6_digest 159 = .ok (.lload_n 1, 1) := by decide +kernel
theorem dX6_digest_160 : decode cX6_digest 160 = .ok (.ldc2_w 253, 3) := by decide +kernel
theorem dX6_digest_163 : decode cX6_digest 163 = .ok (.lmul, 1) := by decide +kernel
theorem dX6_digest_164 : decode cX6_digest 164 = .ok (.aload_n 0, 1) := by decide +kernel
theorem dX6_digest_165 : decode cX6_digest 165 = .ok (.iconst 3, 1) := by decide +kernel
theorem dX6_digest_166 : decode cX6_digest 166 = .ok (.bipush 10, 2) := by decide +kernel
theorem dX6_digest_168 : decode cX6_digest 168 = .ok (.invokevirtual 271, 3) := by decide +kernel
theorem dX6_digest_171 : decode cX6_digest 171 = .ok (.i2l, 1) := by decide +kernel
theorem dX6_digest_172 : decode cX6_digest 172 = .ok (.ladd, 1) := by decide +kernel
theorem dX6_digest_173 : decode cX6_digest 173 = .ok (.lreturn, 1) := by decide +kernel
theorem dX6_digestOfProcess_0 : decode cX6_digestOfProcess 0 = .ok (.lload_n 1, 1) := by decide +kernel
theorem dX6_digestOfProcess_1 : decode cX6_digestOfProcess 1 = .ok (.lstore 4, 2) := by decide +kernel
theorem dX6_digestOfProcess_3 : decode cX6_digestOfProcess 3 = .ok (.iconst 0, 1) := by decide +kernel
theorem dX6_digestOfProcess_4 : decode cX6_digestOfProcess 4 = .ok (.istore 6, 2) := by decide +kernel
theorem dX6_digestOfProcess_6 : decode cX6_digestOfProcess 6 = .ok (.iload 6, 2) := by decide +kernel
theorem dX6_digestOfProcess_8 : decode cX6_digestOfProcess 8 = .ok (.bipush 12, 2) := by decide +kernel
theorem dX6_digestOfProcess_10 : decode cX6_digestOfProcess 10 = .ok (.if_icmp .gt 26, 3) := by decide +kernel
theorem dX6_digestOfProcess_13 : decode cX6_digestOfProcess 13 = .ok (.lload 4, 2) := by decide +kernel
theorem dX6_digestOfProcess_15 : decode cX6_digestOfProcess 15 = .ok (.ldc2_w 253, 3) := by decide +kernel
theorem dX6_digestOfProcess_18 : decode cX6_digestOfProcess 18 = .ok (.lmul, 1) := by decide +kernel
theorem dX6_digestOfProcess_19 : decode cX6_digestOfProcess 19 = .ok (.aload_n 0, 1) := by decide +kernel
theorem dX6_digestOfProcess_20 : decode cX6_digestOfProcess 20 = .ok (.iload_n 3, 1) := by decide +kernel
theorem dX6_digestOfProcess_21 : decode cX6_digestOfProcess 21 = .ok (.iload 6, 2) := by decide +kernel
theorem dX6_digestOfProcess_23 : decode cX6_digestOfProcess 23 = .ok (.invokevirtual 274, 3) := by decide +kernel
theorem dX6_digestOfProcess_26 : decode cX6_digestOfProcess 26 = .ok (.i2l, 1) := by decide +kernel
theorem dX6_digestOfProcess_27 : decode cX6_digestOfProcess 27 = .ok (.ladd, 1) := by decide +kernel
theorem dX6_digestOfProcess_28 : decode cX6_digestOfProcess 28 = .ok (.lstore 4, 2) := by decide +kernel
theorem dX6_digestOfProcess_30 : decode cX6_digestOfProcess 30 = .ok (.iinc 6 1, 3) := by decide +kernel
theorem dX6_digestOfProcess_33 : decode cX6_digestOfProcess 33 = .ok (.goto (-27), 3) := by decide +kernel
theorem dX6_digestOfProcess_36 : decode cX6_digestOfProcess 36 = .ok (.iconst 0, 1) := by decide +kernel
theorem dX6_digestOfProcess_37 : decode cX6_digestOfProcess 37 = .ok (.istore 6, 2) := by decide +kernel
theorem dX6_digestOfProcess_39 : decode cX6_digestOfProcess 39 = .ok (.iload 6, 2) := by decide +kernel
theorem dX6_digestOfProcess_41 : decode cX6_digestOfProcess 41 = .ok (.iconst 4, 1) := by decide +kernel
theorem dX6_digestOfProcess_42 : decode cX6_digestOfProcess 42 = .ok (.if_icmp .ge 26, 3) := by decide +kernel
theorem dX6_digestOfProcess_45 : decode cX6_digestOfProcess 45 = .ok (.lload 4, 2) := by decide +kernel
theorem dX6_digestOfProcess_47 : decode cX6_digestOfProcess 47 = .ok (.ldc2_w 253, 3) := by decide +kernel
theorem dX6_digestOfProcess_50 : decode cX6_digestOfProcess 50 = .ok (.lmul, 1) := by decide +kernel
theorem dX6_digestOfProcess_51 : decode cX6_digestOfProcess 51 = .ok (.aload_n 0, 1) := by decide +kernel
theorem dX6_digestOfProcess_52 : decode cX6_digestOfProcess 52 = .ok (.iload_n 3, 1) := by decide +kernel
theorem dX6_digestOfProcess_53 : decode cX6_digestOfProcess 53 = .ok (.iload 6, 2) := by decide +kernel
theorem dX6_digestOfProcess_55 : decode cX6_digestOfProcess 55 = .ok (.invokevirtual 277, 3) := by decide +kernel
theorem dX6_digestOfProcess_58 : decode cX6_digestOfProcess 58 = .ok (.i2l, 1) := by decide +kernel
theorem dX6_digestOfProcess_59 : decode cX6_digestOfProcess 59 = .ok (.ladd, 1) := by decide +kernel
theorem dX6_digestOfProcess_60 : decode cX6_digestOfProcess 60 = .ok (.lstore 4, 2) := by decide +kernel
theorem dX6_digestOfProcess_62 : decode cX6_digestOfProcess 62 = .ok (.iinc 6 1, 3) := by decide +kernel
theorem dX6_digestOfProcess_65 : decode cX6_digestOfProcess 65 = .ok (.goto (-26), 3) := by decide +kernel
theorem dX6_digestOfProcess_68 : decode cX6_digestOfProcess 68 = .ok (.aload_n 0, 1) := by decide +kernel
theorem dX6_digestOfProcess_69 : decode cX6_digestOfProcess 69 = .ok (.iload_n 3, 1) := by decide +kernel
theorem dX6_digestOfProcess_70 : decode cX6_digestOfProcess 70 = .ok (.bipush 8, 2) := by decide +kernel
theorem dX6_digestOfProcess_72 : decode cX6_digestOfProcess 72 = .ok (.invokevirtual 274, 3) := by decide +kernel
theorem dX6_digestOfProcess_75 : decode cX6_digestOfProcess 75 = .ok (.istore 6, 2) := by decide +kernel
theorem dX6_digestOfProcess_77 : decode cX6_digestOfProcess 77 = .ok (.iconst 0, 1) := by decide +kernel
theorem dX6_digestOfProcess_78 : decode cX6_digestOfProcess 78 = .ok (.istore 7, 2) := by decide +kernel
theorem dX6_digestOfProcess_80 : decode cX6_digestOfProcess 80 = .ok (.iload 7, 2) := by decide +kernel
theorem dX6_digestOfProcess_82 : decode cX6_digestOfProcess 82 = .ok (.iload 6, 2) := by decide +kernel
theorem dX6_digestOfProcess_84 : decode cX6_digestOfProcess 84 = .ok (.if_icmp .ge 45, 3) := by decide +kernel
theorem dX6_digestOfProcess_87 : decode cX6_digestOfProcess 87 = .ok (.lload 4, 2) := by decide +kernel
theorem dX6_digestOfProcess_89 : decode cX6_digestOfProcess 89 = .ok (.ldc2_w 253, 3) := by decide +kernel
theorem dX6_digestOfProcess_92 : decode cX6_digestOfProcess 92 = .ok (.lmul, 1) := by decide +kernel
theorem dX6_digestOfProcess_93 : decode cX6_digestOfProcess 93 = .ok (.aload_n 0, 1) := by decide +kernel
theorem dX6_digestOfProcess_94 : decode cX6_digestOfProcess 94 = .ok (.iload_n 3, 1) := by decide +kernel
theorem dX6_digestOfProcess_95 : decode cX6_digestOfProcess 95 = .ok (.iload 7, 2) := by decide +kernel
theorem dX6_digestOfProcess_97 : decode cX6_digestOfProcess 97 = .ok (.iconst 0, 1) := by decide +kernel
theorem dX6_digestOfProcess_98 : decode cX6_digestOfProcess 98 = .ok (.invokevirtual 280, 3) := by decide +kernel
theorem dX6_digestOfProcess_101 : decode cX6_digestOfProcess 101 = .ok (.i2l, 1) := by decide +kernel
theorem dX6_digestOfProcess_102 : decode cX6_digestOfProcess 102 = .ok (.ladd, 1) := by decide +kernel
theorem dX6_digestOfProcess_103 : decode cX6_digestOfProcess 103 = .ok (.lstore 4, 2) := by decide +kernel
theorem dX6_digestOfProcess_105 : decode cX6_digestOfProcess 105 = .ok (.lload 4, 2) := by decide +kernel
theorem dX6_digestOfProcess_107 : decode cX6_digestOfProcess 107 = .ok (.ldc2_w 253, 3) := by decide +kernel
theorem dX6_digestOfProcess_110 : decode cX6_digestOfProcess 110 = .ok (.lmul, 1) := by decide +kernel
theorem dX6_digestOfProcess_111 : decode cX6_digestOfProcess 111 = .ok (.aload_n 0, 1) := by decide +kernel
theorem dX6_digestOfProcess_112 : decode cX6_digestOfProcess 112 = .ok (.iload_n 3, 1) := by decide +kernel
theorem dX6_digestOfProcess_113 : decode cX6_digestOfProcess 113 = .ok (.iload 7, 2) := by decide +kernel
theorem dX6_digestOfProcess_115 : decode cX6_digestOfProcess 115 = .ok (.iconst 1, 1) := by decide +kernel
theorem dX6_digestOfProcess_116 : decode cX6_digestOfProcess 116 = .ok (.invokevirtual 280, 3) := by decide +kernel
theorem dX6_digestOfProcess_119 : decode cX6_digestOfProcess 119 = .ok (.i2l, 1) := by decide +kernel
theorem dX6_digestOfProcess_120 : decode cX6_digestOfProcess 120 = .ok (.ladd, 1) := by decide +kernel
theorem dX6_digestOfProcess_121 : decode cX6_digestOfProcess 121 = .ok (.lstore 4, 2) := by decide +kernel
theorem dX6_digestOfProcess_123 : decode cX6_digestOfProcess 123 = .ok (.iinc 7 1, 3) := by decide +kernel
theorem dX6_digestOfProcess_126 : decode cX6_digestOfProcess 126 = .ok (.goto (-46), 3) := by decide +kernel
theorem dX6_digestOfProcess_129 : decode cX6_digestOfProcess 129 = .ok (.iconst 0, 1) := by decide +kernel
theorem dX6_digestOfProcess_130 : decode cX6_digestOfProcess 130 = .ok (.istore 7, 2) := by decide +kernel
theorem dX6_digestOfProcess_132 : decode cX6_digestOfProcess 132 = .ok (.iload 7, 2) := by decide +kernel
theorem dX6_digestOfProcess_134 : decode cX6_digestOfProcess 134 = .ok (.bipush 6, 2) := by decide +kernel
theorem dX6_digestOfProcess_136 : decode cX6_digestOfProcess 136 = .ok (.if_icmp .gt 26, 3) := by decide +kernel
theorem dX6_digestOfProcess_139 : decode cX6_digestOfProcess 139 = .ok (.lload 4, 2) := by decide +kernel
theorem dX6_digestOfProcess_141 : decode cX6_digestOfProcess 141 = .ok (.ldc2_w 253, 3) := by decide +kernel
theorem dX6_digestOfProcess_144 : decode cX6_digestOfProcess 144 = .ok (.lmul, 1) := by decide +kernel
theorem dX6_digestOfProcess_145 : decode cX6_digestOfProcess 145 = .ok (.aload_n 0, 1) := by decide +kernel
theorem dX6_digestOfProcess_146 : decode cX6_digestOfProcess 146 = .ok (.iload_n 3, 1) := by decide +kernel
theorem dX6_digestOfProcess_147 : decode cX6_digestOfProcess 147 = .ok (.iload 7, 2) := by decide +kernel
theorem dX6_digestOfProcess_149 : decode cX6_digestOfProcess 149 = .ok (.invokevirtual 283, 3) := by decide +kernel
theorem dX6_digestOfProcess_152 : decode cX6_digestOfProcess 152 = .ok (.i2l, 1) := by decide +kernel
theorem dX6_digestOfProcess_153 : decode cX6_digestOfProcess 153 = .ok (.ladd, 1) := by decide +kernel
theorem dX6_digestOfProcess_154 : decode cX6_digestOfProcess 154 = .ok (.lstore 4, 2) := by decide +kernel
theorem dX6_digestOfProcess_156 : decode cX6_digestOfProcess 156 = .ok (.iinc 7 1, 3) := by decide +kernel
theorem dX6_digestOfProcess_159 : decode cX6_digestOfProcess 159 = .ok (.goto (-27), 3) := by decide +kernel
theorem dX6_digestOfProcess_162 : decode cX6_digestOfProcess 162 = .ok (.lload 4, 2) := by decide +kernel
theorem dX6_digestOfProcess_164 : decode cX6_digestOfProcess 164 = .ok (.ldc2_w 253, 3) := by decide +kernel
theorem dX6_digestOfProcess_167 : decode cX6_digestOfProcess 167 = .ok (.lmul, 1) := by decide +kernel
theorem dX6_digestOfProcess_168 : decode cX6_digestOfProcess 168 = .ok (.aload_n 0, 1) := by decide +kernel
theorem dX6_digestOfProcess_169 : decode cX6_digestOfProcess 169 = .ok (.iload_n 3, 1) := by decide +kernel
theorem dX6_digestOfProcess_170 : decode cX6_digestOfProcess 170 = .ok (.iconst 0, 1) := by decide +kernel
theorem dX6_digestOfProcess_171 : decode cX6_digestOfProcess 171 = .ok (.invokevirtual 286, 3) := by decide +kernel
theorem dX6_digestOfProcess_174 : decode cX6_digestOfProcess 174 = .ok (.i2l, 1) := by decide +kernel
theorem dX6_digestOfProcess_175 : decode cX6_digestOfProcess 175 = .ok (.ladd, 1) := by decide +kernel
theorem dX6_digestOfProcess_176 : decode cX6_digestOfProcess 176 = .ok (.lstore 4, 2) := by decide +kernel
theorem dX6_digestOfProcess_178 : decode cX6_digestOfProcess 178 = .ok (.lload 4, 2) := by decide +kernel
theorem dX6_digestOfProcess_180 : decode cX6_digestOfProcess 180 = .ok (.ldc2_w 253, 3) := by decide +kernel
theorem dX6_digestOfProcess_183 : decode cX6_digestOfProcess 183 = .ok (.lmul, 1) := by decide +kernel
theorem dX6_digestOfProcess_184 : decode cX6_digestOfProcess 184 = .ok (.aload_n 0, 1) := by decide +kernel
theorem dX6_digestOfProcess_185 : decode cX6_digestOfProcess 185 = .ok (.iload_n 3, 1) := by decide +kernel
theorem dX6_digestOfProcess_186 : decode cX6_digestOfProcess 186 = .ok (.iconst 1, 1) := by decide +kernel
theorem dX6_digestOfProcess_187 : decode cX6_digestOfProcess 187 = .ok (.invokevirtual 286, 3) := by decide +kernel
theorem dX6_digestOfProcess_190 : decode cX6_digestOfProcess 190 = .ok (.i2l, 1) := by decide +kernel
theorem dX6_digestOfProcess_191 : decode cX6_digestOfProcess 191 = .ok (.ladd, 1) := by decide +kernel
theorem dX6_digestOfProcess_192 : decode cX6_digestOfProcess 192 = .ok (.lstore 4, 2) := by decide +kernel
theorem dX6_digestOfProcess_194 : decode cX6_digestOfProcess 194 = .ok (.lload 4, 2) := by decide +kernel
theorem dX6_digestOfProcess_196 : decode cX6_digestOfProcess 196 = .ok (.ldc2_w 253, 3) := by decide +kernel
theorem dX6_digestOfProcess_199 : decode cX6_digestOfProcess 199 = .ok (.lmul, 1) := by decide +kernel
theorem dX6_digestOfProcess_200 : decode cX6_digestOfProcess 200 = .ok (.aload_n 0, 1) := by decide +kernel
theorem dX6_digestOfProcess_201 : decode cX6_digestOfProcess 201 = .ok (.iload_n 3, 1) := by decide +kernel
theorem dX6_digestOfProcess_202 : decode cX6_digestOfProcess 202 = .ok (.bipush 9, 2) := by decide +kernel
theorem dX6_digestOfProcess_204 : decode cX6_digestOfProcess 204 = .ok (.invokevirtual 286, 3) := by decide +kernel
theorem dX6_digestOfProcess_207 : decode cX6_digestOfProcess 207 = .ok (.i2l, 1) := by decide +kernel
theorem dX6_digestOfProcess_208 : decode cX6_digestOfProcess 208 = .ok (.ladd, 1) := by decide +kernel
theorem dX6_digestOfProcess_209 : decode cX6_digestOfProcess 209 = .ok (.lstore 4, 2) := by decide +kernel
theorem dX6_digestOfProcess_211 : decode cX6_digestOfProcess 211 = .ok (.lload 4, 2) := by decide +kernel
theorem dX6_digestOfProcess_213 : decode cX6_digestOfProcess 213 = .ok (.ldc2_w 253, 3) := by decide +kernel
theorem dX6_digestOfProcess_216 : decode cX6_digestOfProcess 216 = .ok (.lmul, 1) := by decide +kernel
theorem dX6_digestOfProcess_217 : decode cX6_digestOfProcess 217 = .ok (.aload_n 0, 1) := by decide +kernel
theorem dX6_digestOfProcess_218 : decode cX6_digestOfProcess 218 = .ok (.iload_n 3, 1) := by decide +kernel
theorem dX6_digestOfProcess_219 : decode cX6_digestOfProcess 219 = .ok (.iconst 1, 1) := by decide +kernel
theorem dX6_digestOfProcess_220 : decode cX6_digestOfProcess 220 = .ok (.invokevirtual 289, 3) := by decide +kernel
theorem dX6_digestOfProcess_223 : decode cX6_digestOfProcess 223 = .ok (.i2l, 1) := by decide +kernel
theorem dX6_digestOfProcess_224 : decode cX6_digestOfProcess 224 = .ok (.ladd, 1) := by decide +kernel
theorem dX6_digestOfProcess_225 : decode cX6_digestOfProcess 225 = .ok (.lreturn, 1) := by decide +kernel
theorem dX6_init_0 : decode cX6_init 0 = .ok (.aload_n 0, 1) := by decide +kernel
theorem dX6_init_1 : decode cX6_init 1 = .ok (.invokespecial 3, 3) := by decide +kernel
theorem dX6_init_4 : decode cX6_init 4 = .ok (.aload_n 0, 1) := by decide +kernel
theorem dX6_init_5 : decode cX6_init 5 = .ok (.new 9, 3) := by decide +kernel
theorem dX6_init_8 : decode cX6_init 8 = .ok (.dup, 1) := by decide +kernel
theorem dX6_init_9 : decode cX6_init 9 = .ok (.invokespecial 11, 3) := by decide +kernel
theorem dX6_init_12 : decode cX6_init 12 = .ok (.putfield 12, 3) := by decide +kernel
theorem dX6_init_15 : decode cX6_init 15 = .ok (.aload_n 0, 1) := by decide +kernel
theorem dX6_init_16 : decode cX6_init 16 = .ok (.new 16, 3) := by decide +kernel
theorem dX6_init_19 : decode cX6_init 19 = .ok (.dup, 1) := by decide +kernel
theorem dX6_init_20 : decode cX6_init 20 = .ok (.invokespecial 18, 3) := by decide +kernel
theorem dX6_init_23 : decode cX6_init 23 = .ok (.putfield 19, 3) := by decide +kernel
theorem dX6_init_26 : decode cX6_init 26 = .ok (.aload_n 0, 1) := by decide +kernel
theorem dX6_init_27 : decode cX6_init 27 = .ok (.new 23, 3) := by decide +kernel
theorem dX6_init_30 : decode cX6_init 30 = .ok (.dup, 1) := by decide +kernel
theorem dX6_init_31 : decode cX6_init 31 = .ok (.aload_n 0, 1) := by decide +kernel
theorem dX6_init_32 : decode cX6_init 32 = .ok (.getfield 12, 3) := by decide +kernel
theorem dX6_init_35 : decode cX6_init 35 = .ok (.aload_n 0, 1) := by decide +kernel
theorem dX6_init_36 : decode cX6_init 36 = .ok (.getfield 19, 3) := by decide +kernel
theorem dX6_init_39 : decode cX6_init 39 = .ok (.invokespecial 25, 3) := by decide +kernel
theorem dX6_init_42 : decode cX6_init 42 = .ok (.putfield 28, 3) := by decide +kernel
theorem dX6_init_45 : decode cX6_init 45 = .ok (.aload_n 0, 1) := by decide +kernel
theorem dX6_init_46 : decode cX6_init 46 = .ok (.new 23, 3) := by decide +kernel
theorem dX6_init_49 : decode cX6_init 49 = .ok (.dup, 1) := by decide +kernel
theorem dX6_init_50 : decode cX6_init 50 = .ok (.aload_n 0, 1) := by decide +kernel
theorem dX6_init_51 : decode cX6_init 51 = .ok (.getfield 12, 3) := by decide +kernel
theorem dX6_init_54 : decode cX6_init 54 = .ok (.aload_n 0, 1) := by decide +kernel
theorem dX6_init_55 : decode cX6_init 55 = .ok (.getfield 19, 3) := by decide +kernel
theorem dX6_init_58 : decode cX6_init 58 = .ok (.invokespecial 25, 3) := by decide +kernel
theorem dX6_init_61 : decode cX6_init 61 = .ok (.putfield 32, 3) := by decide +kernel
theorem dX6_init_64 : decode cX6_init 64 = .ok (.return_, 1) := by decide +kernel
theorem dX6_isWithin_0 : decode cX6_isWithin 0 = .ok (.iload_n 0, 1) := by decide +kernel
theorem dX6_isWithin_1 : decode cX6_isWithin 1 = .ok (.iload_n 1, 1) := by decide +kernel
theorem dX6_isWithin_2 : decode cX6_isWithin 2 = .ok (.if_icmp .lt 12, 3) := by decide +kernel
theorem dX6_isWithin_5 : decode cX6_isWithin 5 = .ok (.iload_n 0, 1) := by decide +kernel
theorem dX6_isWithin_6 : decode cX6_isWithin 6 = .ok (.iload_n 2, 1) := by decide +kernel
theorem dX6_isWithin_7 : decode cX6_isWithin 7 = .ok (.if_icmp .gt 7, 3) := by decide +kernel
theorem dX6_isWithin_10 : decode cX6_isWithin 10 = .ok (.iconst 1, 1) := by decide +kernel
theorem dX6_isWithin_11 : decode cX6_isWithin 11 = .ok (.goto 4, 3) := by decide +kernel
theorem dX6_isWithin_14 : decode cX6_isWithin 14 = .ok (.iconst 0, 1) := by decide +kernel
theorem dX6_isWithin_15 : decode cX6_isWithin 15 = .ok (.ireturn, 1) := by decide +kernel
theorem dX6_line_0 : decode cX6_line 0 = .ok (.aload_n 0, 1) := by decide +kernel
theorem dX6_line_1 : decode cX6_line 1 = .ok (.getfield 12, 3) := by decide +kernel
theorem dX6_line_4 : decode cX6_line 4 = .ok (.iload_n 1, 1) := by decide +kernel
theorem dX6_line_5 : decode cX6_line 5 = .ok (.invokevirtual 43, 3) := by decide +kernel
theorem dX6_line_8 : decode cX6_line 8 = .ok (.invokestatic 47, 3) := by decide +kernel
theorem dX6_line_11 : decode cX6_line 11 = .ok (.aload_n 0, 1) := by decide +kernel
theorem dX6_line_12 : decode cX6_line 12 = .ok (.getfield 28, 3) := by decide +kernel
theorem dX6_line_15 : decode cX6_line 15 = .ok (.iload_n 1, 1) := by decide +kernel
theorem dX6_line_16 : decode cX6_line 16 = .ok (.invokevirtual 50, 3) := by decide +kernel
theorem dX6_line_19 : decode cX6_line 19 = .ok (.istore 5, 2) := by decide +kernel
theorem dX6_line_21 : decode cX6_line 21 = .ok (.aload_n 0, 1) := by decide +kernel
theorem dX6_line_22 : decode cX6_line 22 = .ok (.getfield 12, 3) := by decide +kernel
theorem dX6_line_25 : decode cX6_line 25 = .ok (.iload_n 1, 1) := by decide +kernel
theorem dX6_line_26 : decode cX6_line 26 = .ok (.iload 5, 2) := by decide +kernel
theorem dX6_line_28 : decode cX6_line 28 = .ok (.invokevirtual 54, 3) := by decide +kernel
theorem dX6_line_31 : decode cX6_line 31 = .ok (.istore 6, 2) := by decide +kernel
theorem dX6_line_33 : decode cX6_line 33 = .ok (.aload_n 0, 1) := by decide +kernel
theorem dX6_line_34 : decode cX6_line 34 = .ok (.getfield 12, 3) := by decide +kernel
theorem dX6_line_37 : decode cX6_line 37 = .ok (.iload_n 2, 1) := by decide +kernel
theorem dX6_line_38 : decode cX6_line 38 = .ok (.iload_n 3, 1) := by decide +kernel
theorem dX6_line_39 : decode cX6_line 39 = .ok (.iload 4, 2) := by decide +kernel
theorem dX6_line_41 : decode cX6_line 41 = .ok (.iload 6, 2) := by decide +kernel
theorem dX6_line_43 : decode cX6_line 43 = .ok (.invokevirtual 58, 3) := by decide +kernel
theorem dX6_line_46 : decode cX6_line 46 = .ok (.invokestatic 62, 3) := by decide +kernel
theorem dX6_line_49 : decode cX6_line 49 = .ok (.iload 6, 2) := by decide +kernel
theorem dX6_line_51 : decode cX6_line 51 = .ok (.bipush 12, 2) := by decide +kernel
theorem dX6_line_53 : decode cX6_line 53 = .ok (.if_icmp .ge 18, 3) := by decide +kernel
theorem dX6_line_56 : decode cX6_line 56 = .ok (.aload_n 0, 1) := by decide +kernel
theorem dX6_line_57 : decode cX6_line 57 = .ok (.getfield 28, 3) := by decide +kernel
theorem dX6_line_60 : decode cX6_line 60 = .ok (.iload_n 1, 1) := by decide +kernel
theorem dX6_line_61 : decode cX6_line 61 = .ok (.invokevirtual 65, 3) := by decide +kernel
theorem dX6_line_64 : decode cX6_line 64 = .ok (.ifCond .ne 7, 3) := by decide +kernel
theorem dX6_line_67 : decode cX6_line 67 = .ok (.iconst 1, 1) := by decide +kernel
theorem dX6_line_68 : decode cX6_line 68 = .ok (.goto 4, 3) := by decide +kernel
theorem dX6_line_71 : decode cX6_line 71 = .ok (.iconst 0, 1) := by decide +kernel
theorem dX6_line_72 : decode cX6_line 72 = .ok (.invokestatic 39, 3) := by decide +kernel
theorem dX6_line_75 : decode cX6_line 75 = .ok (.aload_n 0, 1) := by decide +kernel
theorem dX6_line_76 : decode cX6_line 76 = .ok (.getfield 12, 3) := by decide +kernel
theorem dX6_line_79 : decode cX6_line 79 = .ok (.iload_n 1, 1) := by decide +kernel
theorem dX6_line_80 : decode cX6_line 80 = .ok (.iload 5, 2) := by decide +kernel
theorem dX6_line_82 : decode cX6_line 82 = .ok (.iload_n 2, 1) := by decide +kernel
theorem dX6_line_83 : decode cX6_line 83 = .ok (.iload_n 3, 1) := by decide +kernel
theorem dX6_line_84 : decode cX6_line 84 = .ok (.iload 4, 2) := by decide +kernel
theorem dX6_line_86 : decode cX6_line 86 = .ok (.invokevirtual 68, 3) := by decide +kernel
theorem dX6_line_89 : decode cX6_line 89 = .ok (.ireturn, 1) := by decide +kernel
theorem dX6_load_0 : decode cX6_load 0 = .ok (.aload_n 0, 1) := by decide +kernel
theorem dX6_load_1 : decode cX6_load 1 = .ok (.getfield 12, 3) := by decide +kernel
theorem dX6_load_4 : decode cX6_load 4 = .ok (.iload_n 1, 1) := by decide +kernel
theorem dX6_load_5 : decode cX6_load 5 = .ok (.invokevirtual 43, 3) := by decide +kernel
theorem dX6_load_8 : decode cX6_load 8 = .ok (.invokestatic 47, 3) := by decide +kernel
theorem dX6_load_11 : decode cX6_load 11 = .ok (.aload_n 0, 1) := by decide +kernel
theorem dX6_load_12 : decode cX6_load 12 = .ok (.getfield 28, 3) := by decide +kernel
theorem dX6_load_15 : decode cX6_load 15 = .ok (.iload_n 1, 1) := by decide +kernel
theorem dX6_load_16 : decode cX6_load 16 = .ok (.invokevirtual 50, 3) := by decide +kernel
theorem dX6_load_19 : decode cX6_load 19 = .ok (.iconst 1, 1) := by decide +kernel
theorem dX6_load_20 : decode cX6_load 20 = .ok (.iadd, 1) := by decide +kernel
theorem dX6_load_21 : decode cX6_load 21 = .ok (.iconst 4, 1) := by decide +kernel
theorem dX6_load_22 : decode cX6_load 22 = .ok (.if_icmp .ge 7, 3) := by decide +kernel
theorem dX6_load_25 : decode cX6_load 25 = .ok (.iconst 1, 1) := by decide +kernel
theorem dX6_load_26 : decode cX6_load 26 = .ok (.goto 4, 3) := by decide +kernel
theorem dX6_load_29 : decode cX6_load 29 = .ok (.iconst 0, 1) := by decide +kernel
theorem dX6_load_30 : decode cX6_load 30 = .ok (.invokestatic 39, 3) := by decide +kernel
theorem dX6_load_33 : decode cX6_load 33 = .ok (.aload_n 0, 1) := by decide +kernel
theorem dX6_load_34 : decode cX6_load 34 = .ok (.getfield 28, 3) := by decide +kernel
theorem dX6_load_37 : decode cX6_load 37 = .ok (.getfield 72, 3) := by decide +kernel
theorem dX6_load_40 : decode cX6_load 40 = .ok (.istore_n 2, 1) := by decide +kernel
theorem dX6_load_41 : decode cX6_load 41 = .ok (.aload_n 0, 1) := by decide +kernel
theorem dX6_load_42 : decode cX6_load 42 = .ok (.getfield 28, 3) := by decide +kernel
theorem dX6_load_45 : decode cX6_load 45 = .ok (.iload_n 1, 1) := by decide +kernel
theorem dX6_load_46 : decode cX6_load 46 = .ok (.invokevirtual 75, 3) := by decide +kernel
theorem dX6_load_49 : decode cX6_load 49 = .ok (.aload_n 0, 1) := by decide +kernel
theorem dX6_load_50 : decode cX6_load 50 = .ok (.getfield 28, 3) := by decide +kernel
theorem dX6_load_53 : decode cX6_load 53 = .ok (.getfield 72, 3) := by decide +kernel
theorem dX6_load_56 : decode cX6_load 56 = .ok (.iload_n 2, 1) := by decide +kernel
theorem dX6_load_57 : decode cX6_load 57 = .ok (.isub, 1) := by decide +kernel
theorem dX6_load_58 : decode cX6_load 58 = .ok (.ireturn, 1) := by decide +kernel
theorem dX6_local_0 : decode cX6_local 0 = .ok (.aload_n 0, 1) := by decide +kernel
theorem dX6_local_1 : decode cX6_local 1 = .ok (.iload_n 1, 1) := by decide +kernel
theorem dX6_local_2 : decode cX6_local 2 = .ok (.invokevirtual 130, 3) := by decide +kernel
theorem dX6_local_5 : decode cX6_local 5 = .ok (.astore_n 3, 1) := by decide +kernel
theorem dX6_local_6 : decode cX6_local 6 = .ok (.iload_n 2, 1) := by decide +kernel
theorem dX6_local_7 : decode cX6_local 7 = .ok (.iconst 0, 1) := by decide +kernel
theorem dX6_local_8 : decode cX6_local 8 = .ok (.iconst 3, 1) := by decide +kernel
theorem dX6_local_9 : decode cX6_local 9 = .ok (.invokestatic 79, 3) := by decide +kernel
theorem dX6_local_12 : decode cX6_local 12 = .ok (.invokestatic 47, 3) := by decide +kernel
theorem dX6_local_15 : decode cX6_local 15 = .ok (.aload_n 3, 1) := by decide +kernel
theorem dX6_local_16 : decode cX6_local 16 = .ok (.iload_n 2, 1) := by decide +kernel
theorem dX6_local_17 : decode cX6_local 17 = .ok (.invokevirtual 189, 3) := by decide +kernel
theorem dX6_local_20 : decode cX6_local 20 = .ok (.ireturn, 1) := by decide +kernel
theorem dX6_mail_0 : decode cX6_mail 0 = .ok (.aload_n 0, 1) := by decide +kernel
theorem dX6_mail_1 : decode cX6_mail 1 = .ok (.iload_n 1, 1) := by decide +kernel
theorem dX6_mail_2 : decode cX6_mail 2 = .ok (.invokevirtual 130, 3) := by decide +kernel
theorem dX6_mail_5 : decode cX6_mail 5 = .ok (.getfield 169, 3) := by decide +kernel
theorem dX6_mail_8 : decode cX6_mail 8 = .ok (.astore 4, 2) := by decide +kernel
theorem dX6_mail_10 : decode cX6_mail 10 = .ok (.iload_n 2, 1) := by decide +kernel
theorem dX6_mail_11 : decode cX6_mail 11 = .ok (.iconst 0, 1) := by decide +kernel
theorem dX6_mail_12 : decode cX6_mail 12 = .ok (.aload 4, 2) := by decide +kernel
theorem dX6_mail_14 : decode cX6_mail 14 = .ok (.getfield 173, 3) := by decide +kernel
theorem dX6_mail_17 : decode cX6_mail 17 = .ok (.iconst 1, 1) := by decide +kernel
theorem dX6_mail_18 : decode cX6_mail 18 = .ok (.isub, 1) := by decide +kernel
theorem dX6_mail_19 : decode cX6_mail 19 = .ok (.invokestatic 79, 3) := by decide +kernel
theorem dX6_mail_22 : decode cX6_mail 22 = .ok (.invokestatic 47, 3) := by decide +kernel
theorem dX6_mail_25 : decode cX6_mail 25 = .ok (.iload_n 3, 1) := by decide +kernel
theorem dX6_mail_26 : decode cX6_mail 26 = .ok (.iconst 0, 1) := by decide +kernel
theorem dX6_mail_27 : decode cX6_mail 27 = .ok (.iconst 1, 1) := by decide +kernel
theorem dX6_mail_28 : decode cX6_mail 28 = .ok (.invokestatic 79, 3) := by decide +kernel
theorem dX6_mail_31 : decode cX6_mail 31 = .ok (.invokestatic 62, 3) := by decide +kernel
theorem dX6_mail_34 : decode cX6_mail 34 = .ok (.iload_n 2, 1) := by decide +kernel
theorem dX6_mail_35 : decode cX6_mail 35 = .ok (.ifCond .lt 9, 3) := by decide +kernel
theorem dX6_mail_38 : decode cX6_mail 38 = .ok (.iload_n 2, 1) := by decide +kernel
theorem dX6_mail_39 : decode cX6_mail 39 = .ok (.bipush 8, 2) := by decide +kernel
theorem dX6_mail_41 : decode cX6_mail 41 = .ok (.if_icmp .lt 5, 3) := by decide +kernel
theorem dX6_mail_44 : decode cX6_mail 44 = .ok (.iconst (-1), 1) := by decide +kernel
theorem dX6_mail_45 : decode cX6_mail 45 = .ok (.ireturn, 1) := by decide +kernel
theorem dX6_mail_46 : decode cX6_mail 46 = .ok (.iload_n 3, 1) := by decide +kernel
theorem dX6_mail_47 : decode cX6_mail 47 = .ok (.ifCond .ne 13, 3) := by decide +kernel
theorem dX6_mail_50 : decode cX6_mail 50 = .ok (.aload 4, 2) := by decide +kernel
theorem dX6_mail_52 : decode cX6_mail 52 = .ok (.getfield 192, 3) := by decide +kernel
theorem dX6_mail_55 : decode cX6_mail 55 = .ok (.iload_n 2, 1) := by decide +kernel
theorem dX6_mail_56 : decode cX6_mail 56 = .ok (.iaload, 1) := by decide +kernel
theorem dX6_mail_57 : decode cX6_mail 57 = .ok (.goto 10, 3) := by decide +kernel
theorem dX6_mail_60 : decode cX6_mail 60 = .ok (.aload 4, 2) := by decide +kernel
theorem dX6_mail_62 : decode cX6_mail 62 = .ok (.getfield 196, 3) := by decide +kernel
theorem dX6_mail_65 : decode cX6_mail 65 = .ok (.iload_n 2, 1) := by decide +kernel
theorem dX6_mail_66 : decode cX6_mail 66 = .ok (.iaload, 1) := by decide +kernel
theorem dX6_mail_67 : decode cX6_mail 67 = .ok (.ireturn, 1) := by decide +kernel
theorem dX6_many_0 : decode cX6_many 0 = .ok (.iload_n 1, 1) := by decide +kernel
theorem dX6_many_1 : decode cX6_many 1 = .ok (.iconst 0, 1) := by decide +kernel
theorem dX6_many_2 : decode cX6_many 2 = .ok (.bipush 12, 2) := by decide +kernel
theorem dX6_many_4 : decode cX6_many 4 = .ok (.invokestatic 79, 3) := by decide +kernel
theorem dX6_many_7 : decode cX6_many 7 = .ok (.invokestatic 62, 3) := by decide +kernel
theorem dX6_many_10 : decode cX6_many 10 = .ok (.iload_n 1, 1) := by decide +kernel
theorem dX6_many_11 : decode cX6_many 11 = .ok (.tableswitch 160 0 11 #[61, 69, 77, 85, 94, 103, 112, 120, 128, 136, 144, 152], 61) := by decide +kernel
theorem dX6_many_72 : decode cX6_many 72 = .ok (.aload_n 0, 1) := by decide +kernel
theorem dX6_many_73 : decode cX6_many 73 = .ok (.getfield 12, 3) := by decide +kernel
theorem dX6_many_76 : decode cX6_many 76 = .ok (.getfield 35, 3) := by decide +kernel
theorem dX6_many_79 : decode cX6_many 79 = .ok (.ireturn, 1) := by decide +kernel
theorem dX6_many_80 : decode cX6_many 80 = .ok (.aload_n 0, 1) := by decide +kernel
theorem dX6_many_81 : decode cX6_many 81 = .ok (.getfield 19, 3) := by decide +kernel
theorem dX6_many_84 : decode cX6_many 84 = .ok (.getfield 83, 3) := by decide +kernel
theorem dX6_many_87 : decode cX6_many 87 = .ok (.ireturn, 1) := by decide +kernel
theorem dX6_many_88 : decode cX6_many 88 = .ok (.aload_n 0, 1) := by decide +kernel
theorem dX6_many_89 : decode cX6_many 89 = .ok (.getfield 28, 3) := by decide +kernel
theorem dX6_many_92 : decode cX6_many 92 = .ok (.getfield 118, 3) := by decide +kernel
theorem dX6_many_95 : decode cX6_many 95 = .ok (.ireturn, 1) := by decide +kernel
theorem dX6_many_96 : decode cX6_many 96 = .ok (.aload_n 0, 1) := by decide +kernel
theorem dX6_many_97 : decode cX6_many 97 = .ok (.getfield 28, 3) := by decide +kernel
theorem dX6_many_100 : decode cX6_many 100 = .ok (.iconst 0, 1) := by decide +kernel
theorem dX6_many_101 : decode cX6_many 101 = .ok (.invokevirtual 217, 3) := by decide +kernel
theorem dX6_many_104 : decode cX6_many 104 = .ok (.ireturn, 1) := by decide +kernel
theorem dX6_many_105 : decode cX6_many 105 = .ok (.aload_n 0, 1) := by decide +kernel
theorem dX6_many_106 : decode cX6_many 106 = .ok (.getfield 28, 3) := by decide +kernel
theorem dX6_many_109 : decode cX6_many 109 = .ok (.iconst 1, 1) := by decide +kernel
theorem dX6_many_110 : decode cX6_many 110 = .ok (.invokevirtual 217, 3) := by decide +kernel
theorem dX6_many_113 : decode cX6_many 113 = .ok (.ireturn, 1) := by decide +kernel
theorem dX6_many_114 : decode cX6_many 114 = .ok (.aload_n 0, 1) := by decide +kernel
theorem dX6_many_115 : decode cX6_many 115 = .ok (.getfield 28, 3) := by decide +kernel
theorem dX6_many_118 : decode cX6_many 118 = .ok (.iconst 2, 1) := by decide +kernel
theorem dX6_many_119 : decode cX6_many 119 = .ok (.invokevirtual 217, 3) := by decide +kernel
theorem dX6_many_122 : decode cX6_many 122 = .ok (.ireturn, 1) := by decide +kernel
theorem dX6_many_123 : decode cX6_many 123 = .ok (.aload_n 0, 1) := by decide +kernel
theorem dX6_many_124 : decode cX6_many 124 = .ok (.getfield 28, 3) := by decide +kernel
theorem dX6_many_127 : decode cX6_many 127 = .ok (.invokevirtual 220, 3) := by decide +kernel
theorem dX6_many_130 : decode cX6_many 130 = .ok (.ireturn, 1) := by decide +kernel
theorem dX6_many_131 : decode cX6_many 131 = .ok (.aload_n 0, 1) := by decide +kernel
theorem dX6_many_132 : decode cX6_many 132 = .ok (.getfield 28, 3) := by decide +kernel
theorem dX6_many_135 : decode cX6_many 135 = .ok (.invokevirtual 223, 3) := by decide +kernel
theorem dX6_many_138 : decode cX6_many 138 = .ok (.ireturn, 1) := by decide +kernel
theorem dX6_many_139 : decode cX6_many 139 = .ok (.aload_n 0, 1) := by decide +kernel
theorem dX6_many_140 : decode cX6_many 140 = .ok (.getfield 28, 3) := by decide +kernel
theorem dX6_many_143 : decode cX6_many 143 = .ok (.invokevirtual 226, 3) := by decide +kernel
theorem dX6_many_146 : decode cX6_many 146 = .ok (.ireturn, 1) := by decide +kernel
theorem dX6_many_147 : decode cX6_many 147 = .ok (.aload_n 0, 1) := by decide +kernel
theorem dX6_many_148 : decode cX6_many 148 = .ok (.getfield 28, 3) := by decide +kernel
theorem dX6_many_151 : decode cX6_many 151 = .ok (.getfield 229, 3) := by decide +kernel
theorem dX6_many_154 : decode cX6_many 154 = .ok (.ireturn, 1) := by decide +kernel
theorem dX6_many_155 : decode cX6_many 155 = .ok (.aload_n 0, 1) := by decide +kernel
theorem dX6_many_156 : decode cX6_many 156 = .ok (.getfield 28, 3) := by decide +kernel
theorem dX6_many_159 : decode cX6_many 159 = .ok (.getfield 232, 3) := by decide +kernel
theorem dX6_many_162 : decode cX6_many 162 = .ok (.ireturn, 1) := by decide +kernel
theorem dX6_many_163 : decode cX6_many 163 = .ok (.aload_n 0, 1) := by decide +kernel
theorem dX6_many_164 : decode cX6_many 164 = .ok (.getfield 28, 3) := by decide +kernel
theorem dX6_many_167 : decode cX6_many 167 = .ok (.getfield 235, 3) := by decide +kernel
theorem dX6_many_170 : decode cX6_many 170 = .ok (.ireturn, 1) := by decide +kernel
theorem dX6_many_171 : decode cX6_many 171 = .ok (.aload_n 0, 1) := by decide +kernel
theorem dX6_many_172 : decode cX6_many 172 = .ok (.getfield 28, 3) := by decide +kernel
theorem dX6_many_175 : decode cX6_many 175 = .ok (.getfield 238, 3) := by decide +kernel
theorem dX6_many_178 : decode cX6_many 178 = .ok (.ireturn, 1) := by decide +kernel
theorem dX6_meanLines_0 : decode cX6_meanLines 0 = .ok (.aload_n 0, 1) := by decide +kernel
theorem dX6_meanLines_1 : decode cX6_meanLines 1 = .ok (.getfield 28, 3) := by decide +kernel
theorem dX6_meanLines_4 : decode cX6_meanLines 4 = .ok (.getfield 118, 3) := by decide +kernel
theorem dX6_meanLines_7 : decode cX6_meanLines 7 = .ok (.aload_n 0, 1) := by decide +kernel
theorem dX6_meanLines_8 : decode cX6_meanLines 8 = .ok (.getfield 28, 3) := by decide +kernel
theorem dX6_meanLines_11 : decode cX6_meanLines 11 = .ok (.invokevirtual 220, 3) := by decide +kernel
theorem dX6_meanLines_14 : decode cX6_meanLines 14 = .ok (.isub, 1) := by decide +kernel
theorem dX6_meanLines_15 : decode cX6_meanLines 15 = .ok (.istore_n 1, 1) := by decide +kernel
theorem dX6_meanLines_16 : decode cX6_meanLines 16 = .ok (.iload_n 1, 1) := by decide +kernel
theorem dX6_meanLines_17 : decode cX6_meanLines 17 = .ok (.ifCond .ne 7, 3) := by decide +kernel
theorem dX6_meanLines_20 : decode cX6_meanLines 20 = .ok (.dconst 0, 1) := by decide +kernel
theorem dX6_meanLines_21 : decode cX6_meanLines 21 = .ok (.goto 14, 3) := by decide +kernel
theorem dX6_meanLines_24 : decode cX6_meanLines 24 = .ok (.aload_n 0, 1) := by decide +kernel
theorem dX6_meanLines_25 : decode cX6_meanLines 25 = .ok (.getfield 28, 3) := by decide +kernel
theorem dX6_meanLines_28 : decode cX6_meanLines 28 = .ok (.getfield 238, 3) := by decide +kernel
theorem dX6_meanLines_31 : decode cX6_meanLines 31 = .ok (.i2d, 1) := by decide +kernel
theorem dX6_meanLines_32 : decode cX6_meanLines 32 = .ok (.iload_n 1, 1) := by decide +kernel
theorem dX6_meanLines_33 : decode cX6_meanLines 33 = .ok (.i2d, 1) := by decide +kernel
theorem dX6_meanLines_34 : decode cX6_meanLines 34 = .ok (.ddiv, 1) := by decide +kernel
theorem dX6_meanLines_35 : decode cX6_meanLines 35 = .ok (.dreturn, 1) := by decide +kernel
theorem dX6_module_0 : decode cX6_module 0 = .ok (.aload_n 0, 1) := by decide +kernel
theorem dX6_module_1 : decode cX6_module 1 = .ok (.getfield 12, 3) := by decide +kernel
theorem dX6_module_4 : decode cX6_module 4 = .ok (.getfield 35, 3) := by decide +kernel
theorem dX6_module_7 : decode cX6_module 7 = .ok (.iconst 4, 1) := by decide +kernel
theorem dX6_module_8 : decode cX6_module 8 = .ok (.if_icmp .ge 7, 3) := by decide +kernel
theorem dX6_module_11 : decode cX6_module 11 = .ok (.iconst 1, 1) := by decide +kernel
theorem dX6_module_12 : decode cX6_module 12 = .ok (.goto 4, 3) := by decide +kernel
theorem dX6_module_15 : decode cX6_module 15 = .ok (.iconst 0, 1) := by decide +kernel
theorem dX6_module_16 : decode cX6_module 16 = .ok (.invokestatic 39, 3) := by decide +kernel
theorem dX6_module_19 : decode cX6_module 19 = .ok (.aload_n 0, 1) := by decide +kernel
theorem dX6_module_20 : decode cX6_module 20 = .ok (.getfield 12, 3) := by decide +kernel
theorem dX6_module_23 : decode cX6_module 23 = .ok (.getfield 35, 3) := by decide +kernel
theorem dX6_module_26 : decode cX6_module 26 = .ok (.istore_n 1, 1) := by decide +kernel
theorem dX6_module_27 : decode cX6_module 27 = .ok (.aload_n 0, 1) := by decide +kernel
theorem dX6_module_28 : decode cX6_module 28 = .ok (.getfield 12, 3) := by decide +kernel
theorem dX6_module_31 : decode cX6_module 31 = .ok (.iload_n 1, 1) := by decide +kernel
theorem dX6_module_32 : decode cX6_module 32 = .ok (.iconst 1, 1) := by decide +kernel
theorem dX6_module_33 : decode cX6_module 33 = .ok (.iadd, 1) := by decide +kernel
theorem dX6_module_34 : decode cX6_module 34 = .ok (.putfield 35, 3) := by decide +kernel
theorem dX6_module_37 : decode cX6_module 37 = .ok (.iload_n 1, 1) := by decide +kernel
theorem dX6_module_38 : decode cX6_module 38 = .ok (.ireturn, 1) := by decide +kernel
theorem dX6_named_0 : decode cX6_named 0 = .ok (.iload_n 1, 1) := by decide +kernel
theorem dX6_named_1 : decode cX6_named 1 = .ok (.iconst 0, 1) := by decide +kernel
theorem dX6_named_2 : decode cX6_named 2 = .ok (.iconst 3, 1) := by decide +kernel
theorem dX6_named_3 : decode cX6_named 3 = .ok (.invokestatic 79, 3) := by decide +kernel
theorem dX6_named_6 : decode cX6_named 6 = .ok (.invokestatic 47, 3) := by decide +kernel
theorem dX6_named_9 : decode cX6_named 9 = .ok (.aload_n 0, 1) := by decide +kernel
theorem dX6_named_10 : decode cX6_named 10 = .ok (.getfield 28, 3) := by decide +kernel
theorem dX6_named_13 : decode cX6_named 13 = .ok (.iload_n 1, 1) := by decide +kernel
theorem dX6_named_14 : decode cX6_named 14 = .ok (.invokevirtual 214, 3) := by decide +kernel
theorem dX6_named_17 : decode cX6_named 17 = .ok (.ireturn, 1) := by decide +kernel
theorem dX6_ofModule_0 : decode cX6_ofModule 0 = .ok (.aload_n 0, 1) := by decide +kernel
theorem dX6_ofModule_1 : decode cX6_ofModule 1 = .ok (.getfield 12, 3) := by decide +kernel
theorem dX6_ofModule_4 : decode cX6_ofModule 4 = .ok (.iload_n 1, 1) := by decide +kernel
theorem dX6_ofModule_5 : decode cX6_ofModule 5 = .ok (.invokevirtual 43, 3) := by decide +kernel
theorem dX6_ofModule_8 : decode cX6_ofModule 8 = .ok (.invokestatic 47, 3) := by decide +kernel
theorem dX6_ofModule_11 : decode cX6_ofModule 11 = .ok (.iload_n 2, 1) := by decide +kernel
theorem dX6_ofModule_12 : decode cX6_ofModule 12 = .ok (.iconst 0, 1) := by decide +kernel
theorem dX6_ofModule_13 : decode cX6_ofModule 13 = .ok (.iconst 4, 1) := by decide +kernel
theorem dX6_ofModule_14 : decode cX6_ofModule 14 = .ok (.invokestatic 79, 3) := by decide +kernel
theorem dX6_ofModule_17 : decode cX6_ofModule 17 = .ok (.invokestatic 62, 3) := by decide +kernel
theorem dX6_ofModule_20 : decode cX6_ofModule 20 = .ok (.aload_n 0, 1) := by decide +kernel
theorem dX6_ofModule_21 : decode cX6_ofModule 21 = .ok (.getfield 28, 3) := by decide +kernel
theorem dX6_ofModule_24 : decode cX6_ofModule 24 = .ok (.iload_n 1, 1) := by decide +kernel
theorem dX6_ofModule_25 : decode cX6_ofModule 25 = .ok (.invokevirtual 50, 3) := by decide +kernel
theorem dX6_ofModule_28 : decode cX6_ofModule 28 = .ok (.istore_n 3, 1) := by decide +kernel
theorem dX6_ofModule_29 : decode cX6_ofModule 29 = .ok (.iload_n 2, 1) := by decide +kernel
theorem dX6_ofModule_30 : decode cX6_ofModule 30 = .ok (.tableswitch 68 0 3 #[30, 34, 44, 55], 30) := by decide +kernel
theorem dX6_ofModule_60 : decode cX6_ofModule 60 = .ok (.iload_n 3, 1) := by decide +kernel
theorem dX6_ofModule_61 : decode cX6_ofModule 61 = .ok (.iconst 1, 1) := by decide +kernel
theorem dX6_ofModule_62 : decode cX6_ofModule 62 = .ok (.iadd, 1) := by decide +kernel
theorem dX6_ofModule_63 : decode cX6_ofModule 63 = .ok (.ireturn, 1) := by decide +kernel
theorem dX6_ofModule_64 : decode cX6_ofModule 64 = .ok (.aload_n 0, 1) := by decide +kernel
theorem dX6_ofModule_65 : decode cX6_ofModule 65 = .ok (.getfield 12, 3) := by decide +kernel
theorem dX6_ofModule_68 : decode cX6_ofModule 68 = .ok (.iload_n 1, 1) := by decide +kernel
theorem dX6_ofModule_69 : decode cX6_ofModule 69 = .ok (.iload_n 3, 1) := by decide +kernel
theorem dX6_ofModule_70 : decode cX6_ofModule 70 = .ok (.invokevirtual 54, 3) := by decide +kernel
theorem dX6_ofModule_73 : decode cX6_ofModule 73 = .ok (.ireturn, 1) := by decide +kernel
theorem dX6_ofModule_74 : decode cX6_ofModule 74 = .ok (.aload_n 0, 1) := by decide +kernel
theorem dX6_ofModule_75 : decode cX6_ofModule 75 = .ok (.getfield 28, 3) := by decide +kernel
theorem dX6_ofModule_78 : decode cX6_ofModule 78 = .ok (.iload_n 1, 1) := by decide +kernel
theorem dX6_ofModule_79 : decode cX6_ofModule 79 = .ok (.iload_n 3, 1) := by decide +kernel
theorem dX6_ofModule_80 : decode cX6_ofModule 80 = .ok (.iload_n 3, 1) := by decide +kernel
theorem dX6_ofModule_81 : decode cX6_ofModule 81 = .ok (.invokevirtual 103, 3) := by decide +kernel
theorem dX6_ofModule_84 : decode cX6_ofModule 84 = .ok (.ireturn, 1) := by decide +kernel
theorem dX6_ofModule_85 : decode cX6_ofModule 85 = .ok (.aload_n 0, 1) := by decide +kernel
theorem dX6_ofModule_86 : decode cX6_ofModule 86 = .ok (.getfield 28, 3) := by decide +kernel
theorem dX6_ofModule_89 : decode cX6_ofModule 89 = .ok (.iload_n 1, 1) := by decide +kernel
theorem dX6_ofModule_90 : decode cX6_ofModule 90 = .ok (.iconst 0, 1) := by decide +kernel
theorem dX6_ofModule_91 : decode cX6_ofModule 91 = .ok (.iload_n 3, 1) := by decide +kernel
theorem dX6_ofModule_92 : decode cX6_ofModule 92 = .ok (.iconst 1, 1) := by decide +kernel
theorem dX6_ofModule_93 : decode cX6_ofModule 93 = .ok (.isub, 1) := by decide +kernel
theorem dX6_ofModule_94 : decode cX6_ofModule 94 = .ok (.invokevirtual 103, 3) := by decide +kernel
theorem dX6_ofModule_97 : decode cX6_ofModule 97 = .ok (.ireturn, 1) := by decide +kernel
theorem dX6_ofModule_98 : decode cX6_ofModule 98 = .ok (.aload_n 0, 1) := by decide +kernel
theorem dX6_ofModule_99 : decode cX6_ofModule 99 = .ok (.getfield 28, 3) := by decide +kernel
theorem dX6_ofModule_102 : decode cX6_ofModule 102 = .ok (.iload_n 1, 1) := by decide +kernel
theorem dX6_ofModule_103 : decode cX6_ofModule 103 = .ok (.invokevirtual 106, 3) := by decide +kernel
theorem dX6_ofModule_106 : decode cX6_ofModule 106 = .ok (.ireturn, 1) := by decide +kernel
theorem dX6_ofProcess_0 : decode cX6_ofProcess 0 = .ok (.aload_n 0, 1) := by decide +kernel
theorem dX6_ofProcess_1 : decode cX6_ofProcess 1 = .ok (.iload_n 1, 1) := by decide +kernel
theorem dX6_ofProcess_2 : decode cX6_ofProcess 2 = .ok (.invokevirtual 130, 3) := by decide +kernel
theorem dX6_ofProcess_5 : decode cX6_ofProcess 5 = .ok (.astore_n 3, 1) := by decide +kernel
theorem dX6_ofProcess_6 : decode cX6_ofProcess 6 = .ok (.iload_n 2, 1) := by decide +kernel
theorem dX6_ofProcess_7 : decode cX6_ofProcess 7 = .ok (.iconst 0, 1) := by decide +kernel
theorem dX6_ofProcess_8 : decode cX6_ofProcess 8 = .ok (.bipush 12, 2) := by decide +kernel
theorem dX6_ofProcess_10 : decode cX6_ofProcess 10 = .ok (.invokestatic 79, 3) := by decide +kernel
theorem dX6_ofProcess_13 : decode cX6_ofProcess 13 = .ok (.invokestatic 62, 3) := by decide +kernel
theorem dX6_ofProcess_16 : decode cX6_ofProcess 16 = .ok (.iload_n 2, 1) := by decide +kernel
theorem dX6_ofProcess_17 : decode cX6_ofProcess 17 = .ok (.tableswitch 150 0 11 #[63, 68, 73, 78, 83, 92, 97, 102, 107, 115, 120, 133], 63) := by decide +kernel
theorem dX6_ofProcess_80 : decode cX6_ofProcess 80 = .ok (.aload_n 3, 1) := by decide +kernel
theorem dX6_ofProcess_81 : decode cX6_ofProcess 81 = .ok (.getfield 144, 3) := by decide +kernel
theorem dX6_ofProcess_84 : decode cX6_ofProcess 84 = .ok (.ireturn, 1) := by decide +kernel
theorem dX6_ofProcess_85 : decode cX6_ofProcess 85 = .ok (.aload_n 3, 1) := by decide +kernel
theorem dX6_ofProcess_86 : decode cX6_ofProcess 86 = .ok (.getfield 147, 3) := by decide +kernel
theorem dX6_ofProcess_89 : decode cX6_ofProcess 89 = .ok (.ireturn, 1) := by decide +kernel
theorem dX6_ofProcess_90 : decode cX6_ofProcess 90 = .ok (.aload_n 3, 1) := by decide +kernel
theorem dX6_ofProcess_91 : decode cX6_ofProcess 91 = .ok (.getfield 150, 3) := by decide +kernel
theorem dX6_ofProcess_94 : decode cX6_ofProcess 94 = .ok (.ireturn, 1) := by decide +kernel
theorem dX6_ofProcess_95 : decode cX6_ofProcess 95 = .ok (.aload_n 3, 1) := by decide +kernel
theorem dX6_ofProcess_96 : decode cX6_ofProcess 96 = .ok (.getfield 153, 3) := by decide +kernel
theorem dX6_ofProcess_99 : decode cX6_ofProcess 99 = .ok (.ireturn, 1) := by decide +kernel
theorem dX6_ofProcess_100 : decode cX6_ofProcess 100 = .ok (.aload_n 0, 1) := by decide +kernel
theorem dX6_ofProcess_101 : decode cX6_ofProcess 101 = .ok (.getfield 28, 3) := by decide +kernel
theorem dX6_ofProcess_104 : decode cX6_ofProcess 104 = .ok (.aload_n 3, 1) := by decide +kernel
theorem dX6_ofProcess_105 : decode cX6_ofProcess 105 = .ok (.invokevirtual 156, 3) := by decide +kernel
theorem dX6_ofProcess_108 : decode cX6_ofProcess 108 = .ok (.ireturn, 1) := by decide +kernel
theorem dX6_ofProcess_109 : decode cX6_ofProcess 109 = .ok (.aload_n 3, 1) := by decide +kernel
theorem dX6_ofProcess_110 : decode cX6_ofProcess 110 = .ok (.getfield 160, 3) := by decide +kernel
theorem dX6_ofProcess_113 : decode cX6_ofProcess 113 = .ok (.ireturn, 1) := by decide +kernel
theorem dX6_ofProcess_114 : decode cX6_ofProcess 114 = .ok (.aload_n 3, 1) := by decide +kernel
theorem dX6_ofProcess_115 : decode cX6_ofProcess 115 = .ok (.getfield 163, 3) := by decide +kernel
theorem dX6_ofProcess_118 : decode cX6_ofProcess 118 = .ok (.ireturn, 1) := by decide +kernel
theorem dX6_ofProcess_119 : decode cX6_ofProcess 119 = .ok (.aload_n 3, 1) := by decide +kernel
theorem dX6_ofProcess_120 : decode cX6_ofProcess 120 = .ok (.getfield 166, 3) := by decide +kernel
theorem dX6_ofProcess_123 : decode cX6_ofProcess 123 = .ok (.ireturn, 1) := by decide +kernel
theorem dX6_ofProcess_124 : decode cX6_ofProcess 124 = .ok (.aload_n 3, 1) := by decide +kernel
theorem dX6_ofProcess_125 : decode cX6_ofProcess 125 = .ok (.getfield 169, 3) := by decide +kernel
theorem dX6_ofProcess_128 : decode cX6_ofProcess 128 = .ok (.getfield 173, 3) := by decide +kernel
theorem dX6_ofProcess_131 : decode cX6_ofProcess 131 = .ok (.ireturn, 1) := by decide +kernel
theorem dX6_ofProcess_132 : decode cX6_ofProcess 132 = .ok (.aload_n 3, 1) := by decide +kernel
theorem dX6_ofProcess_133 : decode cX6_ofProcess 133 = .ok (.getfield 176, 3) := by decide +kernel
theorem dX6_ofProcess_136 : decode cX6_ofProcess 136 = .ok (.ireturn, 1) := by decide +kernel
theorem dX6_ofProcess_137 : decode cX6_ofProcess 137 = .ok (.aload_n 3, 1) := by decide +kernel
theorem dX6_ofProcess_138 : decode cX6_ofProcess 138 = .ok (.getfield 179, 3) := by decide +kernel
theorem dX6_ofProcess_141 : decode cX6_ofProcess 141 = .ok (.ifCond .eq 7, 3) := by decide +kernel
theorem dX6_ofProcess_144 : decode cX6_ofProcess 144 = .ok (.iconst 1, 1) := by decide +kernel
theorem dX6_ofProcess_145 : decode cX6_ofProcess 145 = .ok (.goto 4, 3) := by decide +kernel
theorem dX6_ofProcess_148 : decode cX6_ofProcess 148 = .ok (.iconst 0, 1) := by decide +kernel
theorem dX6_ofProcess_149 : decode cX6_ofProcess 149 = .ok (.ireturn, 1) := by decide +kernel
theorem dX6_ofProcess_150 : decode cX6_ofProcess 150 = .ok (.aload_n 3, 1) := by decide +kernel
theorem dX6_ofProcess_151 : decode cX6_ofProcess 151 = .ok (.getfield 150, 3) := by decide +kernel
theorem dX6_ofProcess_154 : decode cX6_ofProcess 154 = .ok (.iconst 2, 1) := by decide +kernel
theorem dX6_ofProcess_155 : decode cX6_ofProcess 155 = .ok (.if_icmp .ne 7, 3) := by decide +kernel
theorem dX6_ofProcess_158 : decode cX6_ofProcess 158 = .ok (.iconst (-1), 1) := by decide +kernel
theorem dX6_ofProcess_159 : decode cX6_ofProcess 159 = .ok (.goto 7, 3) := by decide +kernel
theorem dX6_ofProcess_162 : decode cX6_ofProcess 162 = .ok (.aload_n 3, 1) := by decide +kernel
theorem dX6_ofProcess_163 : decode cX6_ofProcess 163 = .ok (.getfield 183, 3) := by decide +kernel
theorem dX6_ofProcess_166 : decode cX6_ofProcess 166 = .ok (.ireturn, 1) := by decide +kernel
theorem dX6_ofProcess_167 : decode cX6_ofProcess 167 = .ok (.aload_n 0, 1) := by decide +kernel
theorem dX6_ofProcess_168 : decode cX6_ofProcess 168 = .ok (.getfield 28, 3) := by decide +kernel
theorem dX6_ofProcess_171 : decode cX6_ofProcess 171 = .ok (.aload_n 3, 1) := by decide +kernel
theorem dX6_ofProcess_172 : decode cX6_ofProcess 172 = .ok (.invokevirtual 186, 3) := by decide +kernel
theorem dX6_ofProcess_175 : decode cX6_ofProcess 175 = .ok (.ireturn, 1) := by decide +kernel
theorem dX6_ofSupervisor_0 : decode cX6_ofSupervisor 0 = .ok (.aload_n 0, 1) := by decide +kernel
theorem dX6_ofSupervisor_1 : decode cX6_ofSupervisor 1 = .ok (.iload_n 1, 1) := by decide +kernel
theorem dX6_ofSupervisor_2 : decode cX6_ofSupervisor 2 = .ok (.invokevirtual 130, 3) := by decide +kernel
theorem dX6_ofSupervisor_5 : decode cX6_ofSupervisor 5 = .ok (.astore_n 3, 1) := by decide +kernel
theorem dX6_ofSupervisor_6 : decode cX6_ofSupervisor 6 = .ok (.iload_n 2, 1) := by decide +kernel
theorem dX6_ofSupervisor_7 : decode cX6_ofSupervisor 7 = .ok (.iconst 0, 1) := by decide +kernel
theorem dX6_ofSupervisor_8 : decode cX6_ofSupervisor 8 = .ok (.bipush 6, 2) := by decide +kernel
theorem dX6_ofSupervisor_10 : decode cX6_ofSupervisor 10 = .ok (.invokestatic 79, 3) := by decide +kernel
theorem dX6_ofSupervisor_13 : decode cX6_ofSupervisor 13 = .ok (.invokestatic 62, 3) := by decide +kernel
theorem dX6_ofSupervisor_16 : decode cX6_ofSupervisor 16 = .ok (.aload_n 3, 1) := by decide +kernel
theorem dX6_ofSupervisor_17 : decode cX6_ofSupervisor 17 = .ok (.invokevirtual 199, 3) := by decide +kernel
theorem dX6_ofSupervisor_20 : decode cX6_ofSupervisor 20 = .ok (.ifCond .ne 5, 3) := by decide +kernel
theorem dX6_ofSupervisor_23 : decode cX6_ofSupervisor 23 = .ok (.iconst (-1), 1) := by decide +kernel
theorem dX6_ofSupervisor_24 : decode cX6_ofSupervisor 24 = .ok (.ireturn, 1) := by decide +kernel
theorem dX6_ofSupervisor_25 : decode cX6_ofSupervisor 25 = .ok (.iload_n 2, 1) := by decide +kernel
theorem dX6_ofSupervisor_26 : decode cX6_ofSupervisor 26 = .ok (.lookupswitch 57 #[(0, 34), (5, 39), (6, 48)], 34) := by decide +kernel
theorem dX6_ofSupervisor_60 : decode cX6_ofSupervisor 60 = .ok (.aload_n 3, 1) := by decide +kernel
theorem dX6_ofSupervisor_61 : decode cX6_ofSupervisor 61 = .ok (.getfield 202, 3) := by decide +kernel
theorem dX6_ofSupervisor_64 : decode cX6_ofSupervisor 64 = .ok (.ireturn, 1) := by decide +kernel
theorem dX6_ofSupervisor_65 : decode cX6_ofSupervisor 65 = .ok (.aload_n 0, 1) := by decide +kernel
theorem dX6_ofSupervisor_66 : decode cX6_ofSupervisor 66 = .ok (.getfield 28, 3) := by decide +kernel
theorem dX6_ofSupervisor_69 : decode cX6_ofSupervisor 69 = .ok (.aload_n 3, 1) := by decide +kernel
theorem dX6_ofSupervisor_70 : decode cX6_ofSupervisor 70 = .ok (.invokevirtual 205, 3) := by decide +kernel
theorem dX6_ofSupervisor_73 : decode cX6_ofSupervisor 73 = .ok (.ireturn, 1) := by decide +kernel
theorem dX6_ofSupervisor_74 : decode cX6_ofSupervisor 74 = .ok (.aload_n 0, 1) := by decide +kernel
theorem dX6_ofSupervisor_75 : decode cX6_ofSupervisor 75 = .ok (.getfield 28, 3) := by decide +kernel
theorem dX6_ofSupervisor_78 : decode cX6_ofSupervisor 78 = .ok (.aload_n 3, 1) := by decide +kernel
theorem dX6_ofSupervisor_79 : decode cX6_ofSupervisor 79 = .ok (.invokevirtual 208, 3) := by decide +kernel
theorem dX6_ofSupervisor_82 : decode cX6_ofSupervisor 82 = .ok (.ireturn, 1) := by decide +kernel
theorem dX6_ofSupervisor_83 : decode cX6_ofSupervisor 83 = .ok (.iload_n 2, 1) := by decide +kernel
theorem dX6_ofSupervisor_84 : decode cX6_ofSupervisor 84 = .ok (.iconst 1, 1) := by decide +kernel
theorem dX6_ofSupervisor_85 : decode cX6_ofSupervisor 85 = .ok (.iconst 4, 1) := by decide +kernel
theorem dX6_ofSupervisor_86 : decode cX6_ofSupervisor 86 = .ok (.invokestatic 79, 3) := by decide +kernel
theorem dX6_ofSupervisor_89 : decode cX6_ofSupervisor 89 = .ok (.ifCond .eq 14, 3) := by decide +kernel
theorem dX6_ofSupervisor_92 : decode cX6_ofSupervisor 92 = .ok (.aload_n 3, 1) := by decide +kernel
theorem dX6_ofSupervisor_93 : decode cX6_ofSupervisor 93 = .ok (.getfield 211, 3) := by decide +kernel
theorem dX6_ofSupervisor_96 : decode cX6_ofSupervisor 96 = .ok (.iload_n 2, 1) := by decide +kernel
theorem dX6_ofSupervisor_97 : decode cX6_ofSupervisor 97 = .ok (.iconst 1, 1) := by decide +kernel
theorem dX6_ofSupervisor_98 : decode cX6_ofSupervisor 98 = .ok (.isub, 1) := by decide +kernel
theorem dX6_ofSupervisor_99 : decode cX6_ofSupervisor 99 = .ok (.iaload, 1) := by decide +kernel
theorem dX6_ofSupervisor_100 : decode cX6_ofSupervisor 100 = .ok (.goto 4, 3) := by decide +kernel
theorem dX6_ofSupervisor_103 : decode cX6_ofSupervisor 103 = .ok (.iconst (-1), 1) := by decide +kernel
theorem dX6_ofSupervisor_104 : decode cX6_ofSupervisor 104 = .ok (.ireturn, 1) := by decide +kernel
theorem dX6_overBy_0 : decode cX6_overBy 0 = .ok (.iload_n 1, 1) := by decide +kernel
theorem dX6_overBy_1 : decode cX6_overBy 1 = .ok (.iconst 1, 1) := by decide +kernel
theorem dX6_overBy_2 : decode cX6_overBy 2 = .ok (.bipush 20, 2) := by decide +kernel
theorem dX6_overBy_4 : decode cX6_overBy 4 = .ok (.invokestatic 79, 3) := by decide +kernel
theorem dX6_overBy_7 : decode cX6_overBy 7 = .ok (.ifCond .eq 17, 3) := by decide +kernel
theorem dX6_overBy_10 : decode cX6_overBy 10 = .ok (.iload_n 2, 1) := by decide +kernel
theorem dX6_overBy_11 : decode cX6_overBy 11 = .ok (.iconst 1, 1) := by decide +kernel
theorem dX6_overBy_12 : decode cX6_overBy 12 = .ok (.bipush 50, 2) := by decide +kernel
theorem dX6_overBy_14 : decode cX6_overBy 14 = .ok (.invokestatic 79, 3) := by decide +kernel
theorem dX6_overBy_17 : decode cX6_overBy 17 = .ok (.ifCond .eq 7, 3) := by decide +kernel
theorem dX6_overBy_20 : decode cX6_overBy 20 = .ok (.iconst 1, 1) := by decide +kernel
theorem dX6_overBy_21 : decode cX6_overBy 21 = .ok (.goto 4, 3) := by decide +kernel
theorem dX6_overBy_24 : decode cX6_overBy 24 = .ok (.iconst 0, 1) := by decide +kernel
theorem dX6_overBy_25 : decode cX6_overBy 25 = .ok (.invokestatic 62, 3) := by decide +kernel
theorem dX6_overBy_28 : decode cX6_overBy 28 = .ok (.aload_n 0, 1) := by decide +kernel
theorem dX6_overBy_29 : decode cX6_overBy 29 = .ok (.getfield 32, 3) := by decide +kernel
theorem dX6_overBy_32 : decode cX6_overBy 32 = .ok (.aload_n 0, 1) := by decide +kernel
theorem dX6_overBy_33 : decode cX6_overBy 33 = .ok (.getfield 28, 3) := by decide +kernel
theorem dX6_overBy_36 : decode cX6_overBy 36 = .ok (.invokevirtual 241, 3) := by decide +kernel
theorem dX6_overBy_39 : decode cX6_overBy 39 = .ok (.iconst 0, 1) := by decide +kernel
theorem dX6_overBy_40 : decode cX6_overBy 40 = .ok (.istore_n 3, 1) := by decide +kernel
theorem dX6_overBy_41 : decode cX6_overBy 41 = .ok (.iload_n 3, 1) := by decide +kernel
theorem dX6_overBy_42 : decode cX6_overBy 42 = .ok (.iload_n 1, 1) := by decide +kernel
theorem dX6_overBy_43 : decode cX6_overBy 43 = .ok (.if_icmp .ge 42, 3) := by decide +kernel
theorem dX6_overBy_46 : decode cX6_overBy 46 = .ok (.aload_n 0, 1) := by decide +kernel
theorem dX6_overBy_47 : decode cX6_overBy 47 = .ok (.getfield 32, 3) := by decide +kernel
theorem dX6_overBy_50 : decode cX6_overBy 50 = .ok (.invokevirtual 126, 3) := by decide +kernel
theorem dX6_overBy_53 : decode cX6_overBy 53 = .ok (.pop, 1) := by decide +kernel
theorem dX6_overBy_54 : decode cX6_overBy 54 = .ok (.iconst 0, 1) := by decide +kernel
theorem dX6_overBy_55 : decode cX6_overBy 55 = .ok (.istore 4, 2) := by decide +kernel
theorem dX6_overBy_57 : decode cX6_overBy 57 = .ok (.iload 4, 2) := by decide +kernel
theorem dX6_overBy_59 : decode cX6_overBy 59 = .ok (.iload_n 2, 1) := by decide +kernel
theorem dX6_overBy_60 : decode cX6_overBy 60 = .ok (.if_icmp .ge 19, 3) := by decide +kernel
theorem dX6_overBy_63 : decode cX6_overBy 63 = .ok (.aload_n 0, 1) := by decide +kernel
theorem dX6_overBy_64 : decode cX6_overBy 64 = .ok (.getfield 32, 3) := by decide +kernel
theorem dX6_overBy_67 : decode cX6_overBy 67 = .ok (.invokevirtual 122, 3) := by decide +kernel
theorem dX6_overBy_70 : decode cX6_overBy 70 = .ok (.ifCond .eq 9, 3) := by decide +kernel
theorem dX6_overBy_73 : decode cX6_overBy 73 = .ok (.iinc 4 1, 3) := by decide +kernel
theorem dX6_overBy_76 : decode cX6_overBy 76 = .ok (.goto (-19), 3) := by decide +kernel
theorem dX6_overBy_79 : decode cX6_overBy 79 = .ok (.iinc 3 1, 3) := by decide +kernel
theorem dX6_overBy_82 : decode cX6_overBy 82 = .ok (.goto (-41), 3) := by decide +kernel
theorem dX6_overBy_85 : decode cX6_overBy 85 = .ok (.aload_n 0, 1) := by decide +kernel
theorem dX6_overBy_86 : decode cX6_overBy 86 = .ok (.getfield 32, 3) := by decide +kernel
theorem dX6_overBy_89 : decode cX6_overBy 89 = .ok (.getfield 72, 3) := by decide +kernel
theorem dX6_overBy_92 : decode cX6_overBy 92 = .ok (.ireturn, 1) := by decide +kernel
theorem dX6_passedOver_0 : decode cX6_passedOver 0 = .ok (.aload_n 0, 1) := by decide +kernel
theorem dX6_passedOver_1 : decode cX6_passedOver 1 = .ok (.iload_n 1, 1) := by decide +kernel
theorem dX6_passedOver_2 : decode cX6_passedOver 2 = .ok (.invokevirtual 130, 3) := by decide +kernel
theorem dX6_passedOver_5 : decode cX6_passedOver 5 = .ok (.astore_n 3, 1) := by decide +kernel
theorem dX6_passedOver_6 : decode cX6_passedOver 6 = .ok (.iload_n 2, 1) := by decide +kernel
theorem dX6_passedOver_7 : decode cX6_passedOver 7 = .ok (.iconst 0, 1) := by decide +kernel
theorem dX6_passedOver_8 : decode cX6_passedOver 8 = .ok (.iconst 4, 1) := by decide +kernel
theorem dX6_passedOver_9 : decode cX6_passedOver 9 = .ok (.invokestatic 79, 3) := by decide +kernel
theorem dX6_passedOver_12 : decode cX6_passedOver 12 = .ok (.invokestatic 62, 3) := by decide +kernel
theorem dX6_passedOver_15 : decode cX6_passedOver 15 = .ok (.aload_n 3, 1) := by decide +kernel
theorem dX6_passedOver_16 : decode cX6_passedOver 16 = .ok (.getfield 169, 3) := by decide +kernel
theorem dX6_passedOver_19 : decode cX6_passedOver 19 = .ok (.iload_n 2, 1) := by decide +kernel
theorem dX6_passedOver_20 : decode cX6_passedOver 20 = .ok (.invokevirtual 248, 3) := by decide +kernel
theorem dX6_passedOver_23 : decode cX6_passedOver 23 = .ok (.ireturn, 1) := by decide +kernel
theorem dX6_place_0 : decode cX6_place 0 = .ok (.aload_n 0, 1) := by decide +kernel
theorem dX6_place_1 : decode cX6_place 1 = .ok (.getfield 19, 3) := by decide +kernel
theorem dX6_place_4 : decode cX6_place 4 = .ok (.iload_n 1, 1) := by decide +kernel
theorem dX6_place_5 : decode cX6_place 5 = .ok (.invokevirtual 90, 3) := by decide +kernel
theorem dX6_place_8 : decode cX6_place 8 = .ok (.invokestatic 47, 3) := by decide +kernel
theorem dX6_place_11 : decode cX6_place 11 = .ok (.iload_n 2, 1) := by decide +kernel
theorem dX6_place_12 : decode cX6_place 12 = .ok (.ifCond .eq 14, 3) := by decide +kernel
theorem dX6_place_15 : decode cX6_place 15 = .ok (.iload_n 3, 1) := by decide +kernel
theorem dX6_place_16 : decode cX6_place 16 = .ok (.iconst 0, 1) := by decide +kernel
theorem dX6_place_17 : decode cX6_place 17 = .ok (.iload_n 1, 1) := by decide +kernel
theorem dX6_place_18 : decode cX6_place 18 = .ok (.iconst 1, 1) := by decide +kernel
theorem dX6_place_19 : decode cX6_place 19 = .ok (.isub, 1) := by decide +kernel
theorem dX6_place_20 : decode cX6_place 20 = .ok (.invokestatic 79, 3) := by decide +kernel
theorem dX6_place_23 : decode cX6_place 23 = .ok (.goto 11, 3) := by decide +kernel
theorem dX6_place_26 : decode cX6_place 26 = .ok (.aload_n 0, 1) := by decide +kernel
theorem dX6_place_27 : decode cX6_place 27 = .ok (.getfield 12, 3) := by decide +kernel
theorem dX6_place_30 : decode cX6_place 30 = .ok (.iload_n 3, 1) := by decide +kernel
theorem dX6_place_31 : decode cX6_place 31 = .ok (.invokevirtual 43, 3) := by decide +kernel
theorem dX6_place_34 : decode cX6_place 34 = .ok (.invokestatic 62, 3) := by decide +kernel
theorem dX6_place_37 : decode cX6_place 37 = .ok (.iload 4, 2) := by decide +kernel
theorem dX6_place_39 : decode cX6_place 39 = .ok (.iconst 0, 1) := by decide +kernel
theorem dX6_place_40 : decode cX6_place 40 = .ok (.iconst 2, 1) := by decide +kernel
theorem dX6_place_41 : decode cX6_place 41 = .ok (.invokestatic 79, 3) := by decide +kernel
theorem dX6_place_44 : decode cX6_place 44 = .ok (.invokestatic 62, 3) := by decide +kernel
theorem dX6_place_47 : decode cX6_place 47 = .ok (.aload_n 0, 1) := by decide +kernel
theorem dX6_place_48 : decode cX6_place 48 = .ok (.getfield 28, 3) := by decide +kernel
theorem dX6_place_51 : decode cX6_place 51 = .ok (.iload_n 1, 1) := by decide +kernel
theorem dX6_place_52 : decode cX6_place 52 = .ok (.invokevirtual 93, 3) := by decide +kernel
theorem dX6_place_55 : decode cX6_place 55 = .ok (.ifCond .ne 19, 3) := by decide +kernel
theorem dX6_place_58 : decode cX6_place 58 = .ok (.aload_n 0, 1) := by decide +kernel
theorem dX6_place_59 : decode cX6_place 59 = .ok (.getfield 19, 3) := by decide +kernel
theorem dX6_place_62 : decode cX6_place 62 = .ok (.iload_n 1, 1) := by decide +kernel
theorem dX6_place_63 : decode cX6_place 63 = .ok (.invokevirtual 96, 3) := by decide +kernel
theorem dX6_place_66 : decode cX6_place 66 = .ok (.iconst 4, 1) := by decide +kernel
theorem dX6_place_67 : decode cX6_place 67 = .ok (.if_icmp .ge 7, 3) := by decide +kernel
theorem dX6_place_70 : decode cX6_place 70 = .ok (.iconst 1, 1) := by decide +kernel
theorem dX6_place_71 : decode cX6_place 71 = .ok (.goto 4, 3) := by decide +kernel
theorem dX6_place_74 : decode cX6_place 74 = .ok (.iconst 0, 1) := by decide +kernel
theorem dX6_place_75 : decode cX6_place 75 = .ok (.invokestatic 39, 3) := by decide +kernel
theorem dX6_place_78 : decode cX6_place 78 = .ok (.aload_n 0, 1) := by decide +kernel
theorem dX6_place_79 : decode cX6_place 79 = .ok (.getfield 19, 3) := by decide +kernel
theorem dX6_place_82 : decode cX6_place 82 = .ok (.iload_n 1, 1) := by decide +kernel
theorem dX6_place_83 : decode cX6_place 83 = .ok (.iload_n 2, 1) := by decide +kernel
theorem dX6_place_84 : decode cX6_place 84 = .ok (.iload_n 3, 1) := by decide +kernel
theorem dX6_place_85 : decode cX6_place 85 = .ok (.iload 4, 2) := by decide +kernel
theorem dX6_place_87 : decode cX6_place 87 = .ok (.invokevirtual 99, 3) := by decide +kernel
theorem dX6_place_90 : decode cX6_place 90 = .ok (.ireturn, 1) := by decide +kernel
theorem dX6_run_0 : decode cX6_run 0 = .ok (.iload_n 1, 1) := by decide +kernel
theorem dX6_run_1 : decode cX6_run 1 = .ok (.iconst 1, 1) := by decide +kernel
theorem dX6_run_2 : decode cX6_run 2 = .ok (.bipush 50, 2) := by decide +kernel
theorem dX6_run_4 : decode cX6_run 4 = .ok (.invokestatic 79, 3) := by decide +kernel
theorem dX6_run_7 : decode cX6_run 7 = .ok (.invokestatic 62, 3) := by decide +kernel
theorem dX6_run_10 : decode cX6_run 10 = .ok (.iconst 0, 1) := by decide +kernel
theorem dX6_run_11 : decode cX6_run 11 = .ok (.istore_n 2, 1) := by decide +kernel
theorem dX6_run_12 : decode cX6_run 12 = .ok (.iload_n 2, 1) := by decide +kernel
theorem dX6_run_13 : decode cX6_run 13 = .ok (.iload_n 1, 1) := by decide +kernel
theorem dX6_run_14 : decode cX6_run 14 = .ok (.if_icmp .ge 19, 3) := by decide +kernel
theorem dX6_run_17 : decode cX6_run 17 = .ok (.aload_n 0, 1) := by decide +kernel
theorem dX6_run_18 : decode cX6_run 18 = .ok (.getfield 28, 3) := by decide +kernel
theorem dX6_run_21 : decode cX6_run 21 = .ok (.invokevirtual 122, 3) := by decide +kernel
theorem dX6_run_24 : decode cX6_run 24 = .ok (.ifCond .eq 9, 3) := by decide +kernel
theorem dX6_run_27 : decode cX6_run 27 = .ok (.iinc 2 1, 3) := by decide +kernel
theorem dX6_run_30 : decode cX6_run 30 = .ok (.goto (-18), 3) := by decide +kernel
theorem dX6_run_33 : decode cX6_run 33 = .ok (.iload_n 2, 1) := by decide +kernel
theorem dX6_run_34 : decode cX6_run 34 = .ok (.ireturn, 1) := by decide +kernel
theorem dX6_send_0 : decode cX6_send 0 = .ok (.aload_n 0, 1) := by decide +kernel
theorem dX6_send_1 : decode cX6_send 1 = .ok (.iload_n 1, 1) := by decide +kernel
theorem dX6_send_2 : decode cX6_send 2 = .ok (.invokevirtual 130, 3) := by decide +kernel
theorem dX6_send_5 : decode cX6_send 5 = .ok (.pop, 1) := by decide +kernel
theorem dX6_send_6 : decode cX6_send 6 = .ok (.iload_n 2, 1) := by decide +kernel
theorem dX6_send_7 : decode cX6_send 7 = .ok (.iconst 0, 1) := by decide +kernel
theorem dX6_send_8 : decode cX6_send 8 = .ok (.iconst 1, 1) := by decide +kernel
theorem dX6_send_9 : decode cX6_send 9 = .ok (.invokestatic 79, 3) := by decide +kernel
theorem dX6_send_12 : decode cX6_send 12 = .ok (.ifCond .eq 20, 3) := by decide +kernel
theorem dX6_send_15 : decode cX6_send 15 = .ok (.iload_n 3, 1) := by decide +kernel
theorem dX6_send_16 : decode cX6_send 16 = .ok (.sipush (-999), 3) := by decide +kernel
theorem dX6_send_19 : decode cX6_send 19 = .ok (.sipush 999, 3) := by decide +kernel
theorem dX6_send_22 : decode cX6_send 22 = .ok (.invokestatic 79, 3) := by decide +kernel
theorem dX6_send_25 : decode cX6_send 25 = .ok (.ifCond .eq 7, 3) := by decide +kernel
theorem dX6_send_28 : decode cX6_send 28 = .ok (.iconst 1, 1) := by decide +kernel
theorem dX6_send_29 : decode cX6_send 29 = .ok (.goto 4, 3) := by decide +kernel
theorem dX6_send_32 : decode cX6_send 32 = .ok (.iconst 0, 1) := by decide +kernel
theorem dX6_send_33 : decode cX6_send 33 = .ok (.invokestatic 62, 3) := by decide +kernel
theorem dX6_send_36 : decode cX6_send 36 = .ok (.aload_n 0, 1) := by decide +kernel
theorem dX6_send_37 : decode cX6_send 37 = .ok (.getfield 28, 3) := by decide +kernel
theorem dX6_send_40 : decode cX6_send 40 = .ok (.iload_n 1, 1) := by decide +kernel
theorem dX6_send_41 : decode cX6_send 41 = .ok (.iload_n 2, 1) := by decide +kernel
theorem dX6_send_42 : decode cX6_send 42 = .ok (.iload_n 3, 1) := by decide +kernel
theorem dX6_send_43 : decode cX6_send 43 = .ok (.invokevirtual 134, 3) := by decide +kernel
theorem dX6_send_46 : decode cX6_send 46 = .ok (.ireturn, 1) := by decide +kernel
theorem dX6_signal_0 : decode cX6_signal 0 = .ok (.aload_n 0, 1) := by decide +kernel
theorem dX6_signal_1 : decode cX6_signal 1 = .ok (.iload_n 1, 1) := by decide +kernel
theorem dX6_signal_2 : decode cX6_signal 2 = .ok (.invokevirtual 130, 3) := by decide +kernel
theorem dX6_signal_5 : decode cX6_signal 5 = .ok (.pop, 1) := by decide +kernel
theorem dX6_signal_6 : decode cX6_signal 6 = .ok (.iload_n 2, 1) := by decide +kernel
theorem dX6_signal_7 : decode cX6_signal 7 = .ok (.iconst 0, 1) := by decide +kernel
theorem dX6_signal_8 : decode cX6_signal 8 = .ok (.bipush 9, 2) := by decide +kernel
theorem dX6_signal_10 : decode cX6_signal 10 = .ok (.invokestatic 79, 3) := by decide +kernel
theorem dX6_signal_13 : decode cX6_signal 13 = .ok (.invokestatic 62, 3) := by decide +kernel
theorem dX6_signal_16 : decode cX6_signal 16 = .ok (.aload_n 0, 1) := by decide +kernel
theorem dX6_signal_17 : decode cX6_signal 17 = .ok (.getfield 28, 3) := by decide +kernel
theorem dX6_signal_20 : decode cX6_signal 20 = .ok (.getfield 72, 3) := by decide +kernel
theorem dX6_signal_23 : decode cX6_signal 23 = .ok (.istore_n 3, 1) := by decide +kernel
theorem dX6_signal_24 : decode cX6_signal 24 = .ok (.aload_n 0, 1) := by decide +kernel
theorem dX6_signal_25 : decode cX6_signal 25 = .ok (.getfield 28, 3) := by decide +kernel
theorem dX6_signal_28 : decode cX6_signal 28 = .ok (.iload_n 1, 1) := by decide +kernel
theorem dX6_signal_29 : decode cX6_signal 29 = .ok (.iload_n 1, 1) := by decide +kernel
theorem dX6_signal_30 : decode cX6_signal 30 = .ok (.iload_n 2, 1) := by decide +kernel
theorem dX6_signal_31 : decode cX6_signal 31 = .ok (.invokevirtual 137, 3) := by decide +kernel
theorem dX6_signal_34 : decode cX6_signal 34 = .ok (.aload_n 0, 1) := by decide +kernel
theorem dX6_signal_35 : decode cX6_signal 35 = .ok (.getfield 28, 3) := by decide +kernel
theorem dX6_signal_38 : decode cX6_signal 38 = .ok (.invokevirtual 141, 3) := by decide +kernel
theorem dX6_signal_41 : decode cX6_signal 41 = .ok (.aload_n 0, 1) := by decide +kernel
theorem dX6_signal_42 : decode cX6_signal 42 = .ok (.getfield 28, 3) := by decide +kernel
theorem dX6_signal_45 : decode cX6_signal 45 = .ok (.getfield 72, 3) := by decide +kernel
theorem dX6_signal_48 : decode cX6_signal 48 = .ok (.iload_n 3, 1) := by decide +kernel
theorem dX6_signal_49 : decode cX6_signal 49 = .ok (.isub, 1) := by decide +kernel
theorem dX6_signal_50 : decode cX6_signal 50 = .ok (.ireturn, 1) := by decide +kernel
theorem dX6_spec_0 : decode cX6_spec 0 = .ok (.iload_n 1, 1) := by decide +kernel
theorem dX6_spec_1 : decode cX6_spec 1 = .ok (.iconst 0, 1) := by decide +kernel
theorem dX6_spec_2 : decode cX6_spec 2 = .ok (.iconst 2, 1) := by decide +kernel
theorem dX6_spec_3 : decode cX6_spec 3 = .ok (.invokestatic 79, 3) := by decide +kernel
theorem dX6_spec_6 : decode cX6_spec 6 = .ok (.ifCond .eq 26, 3) := by decide +kernel
theorem dX6_spec_9 : decode cX6_spec 9 = .ok (.iload_n 2, 1) := by decide +kernel
theorem dX6_spec_10 : decode cX6_spec 10 = .ok (.iconst 0, 1) := by decide +kernel
theorem dX6_spec_11 : decode cX6_spec 11 = .ok (.iconst 3, 1) := by decide +kernel
theorem dX6_spec_12 : decode cX6_spec 12 = .ok (.invokestatic 79, 3) := by decide +kernel
theorem dX6_spec_15 : decode cX6_spec 15 = .ok (.ifCond .eq 17, 3) := by decide +kernel
theorem dX6_spec_18 : decode cX6_spec 18 = .ok (.iload_n 3, 1) := by decide +kernel
theorem dX6_spec_19 : decode cX6_spec 19 = .ok (.iconst 1, 1) := by decide +kernel
theorem dX6_spec_20 : decode cX6_spec 20 = .ok (.bipush 9, 2) := by decide +kernel
theorem dX6_spec_22 : decode cX6_spec 22 = .ok (.invokestatic 79, 3) := by decide +kernel
theorem dX6_spec_25 : decode cX6_spec 25 = .ok (.ifCond .eq 7, 3) := by decide +kernel
theorem dX6_spec_28 : decode cX6_spec 28 = .ok (.iconst 1, 1) := by decide +kernel
theorem dX6_spec_29 : decode cX6_spec 29 = .ok (.goto 4, 3) := by decide +kernel
theorem dX6_spec_32 : decode cX6_spec 32 = .ok (.iconst 0, 1) := by decide +kernel
theorem dX6_spec_33 : decode cX6_spec 33 = .ok (.invokestatic 62, 3) := by decide +kernel
theorem dX6_spec_36 : decode cX6_spec 36 = .ok (.aload_n 0, 1) := by decide +kernel
theorem dX6_spec_37 : decode cX6_spec 37 = .ok (.getfield 19, 3) := by decide +kernel
theorem dX6_spec_40 : decode cX6_spec 40 = .ok (.getfield 83, 3) := by decide +kernel
theorem dX6_spec_43 : decode cX6_spec 43 = .ok (.iconst 5, 1) := by decide +kernel
theorem dX6_spec_44 : decode cX6_spec 44 = .ok (.if_icmp .ge 7, 3) := by decide +kernel
theorem dX6_spec_47 : decode cX6_spec 47 = .ok (.iconst 1, 1) := by decide +kernel
theorem dX6_spec_48 : decode cX6_spec 48 = .ok (.goto 4, 3) := by decide +kernel
theorem dX6_spec_51 : decode cX6_spec 51 = .ok (.iconst 0, 1) := by decide +kernel
theorem dX6_spec_52 : decode cX6_spec 52 = .ok (.invokestatic 39, 3) := by decide +kernel
theorem dX6_spec_55 : decode cX6_spec 55 = .ok (.aload_n 0, 1) := by decide +kernel
theorem dX6_spec_56 : decode cX6_spec 56 = .ok (.getfield 19, 3) := by decide +kernel
theorem dX6_spec_59 : decode cX6_spec 59 = .ok (.iload_n 1, 1) := by decide +kernel
theorem dX6_spec_60 : decode cX6_spec 60 = .ok (.iload_n 2, 1) := by decide +kernel
theorem dX6_spec_61 : decode cX6_spec 61 = .ok (.iload_n 3, 1) := by decide +kernel
theorem dX6_spec_62 : decode cX6_spec 62 = .ok (.invokevirtual 86, 3) := by decide +kernel
theorem dX6_spec_65 : decode cX6_spec 65 = .ok (.ireturn, 1) := by decide +kernel
theorem dX6_start_0 : decode cX6_start 0 = .ok (.aload_n 0, 1) := by decide +kernel
theorem dX6_start_1 : decode cX6_start 1 = .ok (.getfield 12, 3) := by decide +kernel
theorem dX6_start_4 : decode cX6_start 4 = .ok (.iload_n 1, 1) := by decide +kernel
theorem dX6_start_5 : decode cX6_start 5 = .ok (.invokevirtual 43, 3) := by decide +kernel
theorem dX6_start_8 : decode cX6_start 8 = .ok (.invokestatic 47, 3) := by decide +kernel
theorem dX6_start_11 : decode cX6_start 11 = .ok (.aload_n 0, 1) := by decide +kernel
theorem dX6_start_12 : decode cX6_start 12 = .ok (.getfield 28, 3) := by decide +kernel
theorem dX6_start_15 : decode cX6_start 15 = .ok (.iload_n 1, 1) := by decide +kernel
theorem dX6_start_16 : decode cX6_start 16 = .ok (.iconst (-1), 1) := by decide +kernel
theorem dX6_start_17 : decode cX6_start 17 = .ok (.invokevirtual 109, 3) := by decide +kernel
theorem dX6_start_20 : decode cX6_start 20 = .ok (.astore_n 2, 1) := by decide +kernel
theorem dX6_start_21 : decode cX6_start 21 = .ok (.aload_n 2, 1) := by decide +kernel
theorem dX6_start_22 : decode cX6_start 22 = .ok (.ifnull 7, 3) := by decide +kernel
theorem dX6_start_25 : decode cX6_start 25 = .ok (.iconst 1, 1) := by decide +kernel
theorem dX6_start_26 : decode cX6_start 26 = .ok (.goto 4, 3) := by decide +kernel
theorem dX6_start_29 : decode cX6_start 29 = .ok (.iconst 0, 1) := by decide +kernel
theorem dX6_start_30 : decode cX6_start 30 = .ok (.invokestatic 39, 3) := by decide +kernel
theorem dX6_start_33 : decode cX6_start 33 = .ok (.aload_n 2, 1) := by decide +kernel
theorem dX6_start_34 : decode cX6_start 34 = .ok (.ifnonnull 7, 3) := by decide +kernel
theorem dX6_start_37 : decode cX6_start 37 = .ok (.iconst (-1), 1) := by decide +kernel
theorem dX6_start_38 : decode cX6_start 38 = .ok (.goto 7, 3) := by decide +kernel
theorem dX6_start_41 : decode cX6_start 41 = .ok (.aload_n 2, 1) := by decide +kernel
theorem dX6_start_42 : decode cX6_start 42 = .ok (.getfield 113, 3) := by decide +kernel
theorem dX6_start_45 : decode cX6_start 45 = .ok (.ireturn, 1) := by decide +kernel
theorem dX6_supervise_0 : decode cX6_supervise 0 = .ok (.aload_n 0, 1) := by decide +kernel
theorem dX6_supervise_1 : decode cX6_supervise 1 = .ok (.getfield 19, 3) := by decide +kernel
theorem dX6_supervise_4 : decode cX6_supervise 4 = .ok (.iload_n 1, 1) := by decide +kernel
theorem dX6_supervise_5 : decode cX6_supervise 5 = .ok (.invokevirtual 90, 3) := by decide +kernel
theorem dX6_supervise_8 : decode cX6_supervise 8 = .ok (.invokestatic 47, 3) := by decide +kernel
theorem dX6_supervise_11 : decode cX6_supervise 11 = .ok (.aload_n 0, 1) := by decide +kernel
theorem dX6_supervise_12 : decode cX6_supervise 12 = .ok (.getfield 28, 3) := by decide +kernel
theorem dX6_supervise_15 : decode cX6_supervise 15 = .ok (.getfield 118, 3) := by decide +kernel
theorem dX6_supervise_18 : decode cX6_supervise 18 = .ok (.bipush 24, 2) := by decide +kernel
theorem dX6_supervise_20 : decode cX6_supervise 20 = .ok (.if_icmp .ge 7, 3) := by decide +kernel
theorem dX6_supervise_23 : decode cX6_supervise 23 = .ok (.iconst 1, 1) := by decide +kernel
theorem dX6_supervise_24 : decode cX6_supervise 24 = .ok (.goto 4, 3) := by decide +kernel
theorem dX6_supervise_27 : decode cX6_supervise 27 = .ok (.iconst 0, 1) := by decide +kernel
theorem dX6_supervise_28 : decode cX6_supervise 28 = .ok (.invokestatic 39, 3) := by decide +kernel
theorem dX6_supervise_31 : decode cX6_supervise 31 = .ok (.aload_n 0, 1) := by decide +kernel
theorem dX6_supervise_32 : decode cX6_supervise 32 = .ok (.getfield 28, 3) := by decide +kernel
theorem dX6_supervise_35 : decode cX6_supervise 35 = .ok (.iload_n 1, 1) := by decide +kernel
theorem dX6_supervise_36 : decode cX6_supervise 36 = .ok (.invokevirtual 119, 3) := by decide +kernel
theorem dX6_supervise_39 : decode cX6_supervise 39 = .ok (.ireturn, 1) := by decide +kernel
theorem dX6_tick_0 : decode cX6_tick 0 = .ok (.iload_n 1, 1) := by decide +kernel
theorem dX6_tick_1 : decode cX6_tick 1 = .ok (.iconst 1, 1) := by decide +kernel
theorem dX6_tick_2 : decode cX6_tick 2 = .ok (.bipush 20, 2) := by decide +kernel
theorem dX6_tick_4 : decode cX6_tick 4 = .ok (.invokestatic 79, 3) := by decide +kernel
theorem dX6_tick_7 : decode cX6_tick 7 = .ok (.invokestatic 62, 3) := by decide +kernel
theorem dX6_tick_10 : decode cX6_tick 10 = .ok (.iconst 0, 1) := by decide +kernel
theorem dX6_tick_11 : decode cX6_tick 11 = .ok (.istore_n 2, 1) := by decide +kernel
theorem dX6_tick_12 : decode cX6_tick 12 = .ok (.iconst 0, 1) := by decide +kernel
theorem dX6_tick_13 : decode cX6_tick 13 = .ok (.istore_n 3, 1) := by decide +kernel
theorem dX6_tick_14 : decode cX6_tick 14 = .ok (.iload_n 3, 1) := by decide +kernel
theorem dX6_tick_15 : decode cX6_tick 15 = .ok (.iload_n 1, 1) := by decide +kernel
theorem dX6_tick_16 : decode cX6_tick 16 = .ok (.if_icmp .ge 19, 3) := by decide +kernel
theorem dX6_tick_19 : decode cX6_tick 19 = .ok (.iload_n 2, 1) := by decide +kernel
theorem dX6_tick_20 : decode cX6_tick 20 = .ok (.aload_n 0, 1) := by decide +kernel
theorem dX6_tick_21 : decode cX6_tick 21 = .ok (.getfield 28, 3) := by decide +kernel
theorem dX6_tick_24 : decode cX6_tick 24 = .ok (.invokevirtual 126, 3) := by decide +kernel
theorem dX6_tick_27 : decode cX6_tick 27 = .ok (.iadd, 1) := by decide +kernel
theorem dX6_tick_28 : decode cX6_tick 28 = .ok (.istore_n 2, 1) := by decide +kernel
theorem dX6_tick_29 : decode cX6_tick 29 = .ok (.iinc 3 1, 3) := by decide +kernel
theorem dX6_tick_32 : decode cX6_tick 32 = .ok (.goto (-18), 3) := by decide +kernel
theorem dX6_tick_35 : decode cX6_tick 35 = .ok (.iload_n 2, 1) := by decide +kernel
theorem dX6_tick_36 : decode cX6_tick 36 = .ok (.ireturn, 1) := by decide +kernel
theorem dX6_wouldFall_0 : decode cX6_wouldFall 0 = .ok (.aload_n 0, 1) := by decide +kernel
theorem dX6_wouldFall_1 : decode cX6_wouldFall 1 = .ok (.iload_n 1, 1) := by decide +kernel
theorem dX6_wouldFall_2 : decode cX6_wouldFall 2 = .ok (.invokevirtual 130, 3) := by decide +kernel
theorem dX6_wouldFall_5 : decode cX6_wouldFall 5 = .ok (.pop, 1) := by decide +kernel
theorem dX6_wouldFall_6 : decode cX6_wouldFall 6 = .ok (.iload_n 2, 1) := by decide +kernel
theorem dX6_wouldFall_7 : decode cX6_wouldFall 7 = .ok (.iconst 0, 1) := by decide +kernel
theorem dX6_wouldFall_8 : decode cX6_wouldFall 8 = .ok (.bipush 9, 2) := by decide +kernel
theorem dX6_wouldFall_10 : decode cX6_wouldFall 10 = .ok (.invokestatic 79, 3) := by decide +kernel
theorem dX6_wouldFall_13 : decode cX6_wouldFall 13 = .ok (.invokestatic 62, 3) := by decide +kernel
theorem dX6_wouldFall_16 : decode cX6_wouldFall 16 = .ok (.aload_n 0, 1) := by decide +kernel
theorem dX6_wouldFall_17 : decode cX6_wouldFall 17 = .ok (.getfield 32, 3) := by decide +kernel
theorem dX6_wouldFall_20 : decode cX6_wouldFall 20 = .ok (.aload_n 0, 1) := by decide +kernel
theorem dX6_wouldFall_21 : decode cX6_wouldFall 21 = .ok (.getfield 28, 3) := by decide +kernel
theorem dX6_wouldFall_24 : decode cX6_wouldFall 24 = .ok (.invokevirtual 241, 3) := by decide +kernel
theorem dX6_wouldFall_27 : decode cX6_wouldFall 27 = .ok (.aload_n 0, 1) := by decide +kernel
theorem dX6_wouldFall_28 : decode cX6_wouldFall 28 = .ok (.getfield 32, 3) := by decide +kernel
theorem dX6_wouldFall_31 : decode cX6_wouldFall 31 = .ok (.iload_n 1, 1) := by decide +kernel
theorem dX6_wouldFall_32 : decode cX6_wouldFall 32 = .ok (.iload_n 1, 1) := by decide +kernel
theorem dX6_wouldFall_33 : decode cX6_wouldFall 33 = .ok (.iload_n 2, 1) := by decide +kernel
theorem dX6_wouldFall_34 : decode cX6_wouldFall 34 = .ok (.invokevirtual 137, 3) := by decide +kernel
theorem dX6_wouldFall_37 : decode cX6_wouldFall 37 = .ok (.aload_n 0, 1) := by decide +kernel
theorem dX6_wouldFall_38 : decode cX6_wouldFall 38 = .ok (.getfield 32, 3) := by decide +kernel
theorem dX6_wouldFall_41 : decode cX6_wouldFall 41 = .ok (.invokevirtual 141, 3) := by decide +kernel
theorem dX6_wouldFall_44 : decode cX6_wouldFall 44 = .ok (.aload_n 0, 1) := by decide +kernel
theorem dX6_wouldFall_45 : decode cX6_wouldFall 45 = .ok (.getfield 32, 3) := by decide +kernel
theorem dX6_wouldFall_48 : decode cX6_wouldFall 48 = .ok (.aload_n 0, 1) := by decide +kernel
theorem dX6_wouldFall_49 : decode cX6_wouldFall 49 = .ok (.getfield 28, 3) := by decide +kernel
theorem dX6_wouldFall_52 : decode cX6_wouldFall 52 = .ok (.getfield 72, 3) := by decide +kernel
theorem dX6_wouldFall_55 : decode cX6_wouldFall 55 = .ok (.invokevirtual 245, 3) := by decide +kernel
theorem dX6_wouldFall_58 : decode cX6_wouldFall 58 = .ok (.ireturn, 1) := by decide +kernel
theorem dX6_wouldPurge_0 : decode cX6_wouldPurge 0 = .ok (.aload_n 0, 1) := by decide +kernel
theorem dX6_wouldPurge_1 : decode cX6_wouldPurge 1 = .ok (.getfield 12, 3) := by decide +kernel
theorem dX6_wouldPurge_4 : decode cX6_wouldPurge 4 = .ok (.iload_n 1, 1) := by decide +kernel
theorem dX6_wouldPurge_5 : decode cX6_wouldPurge 5 = .ok (.invokevirtual 43, 3) := by decide +kernel
theorem dX6_wouldPurge_8 : decode cX6_wouldPurge 8 = .ok (.invokestatic 47, 3) := by decide +kernel
theorem dX6_wouldPurge_11 : decode cX6_wouldPurge 11 = .ok (.aload_n 0, 1) := by decide +kernel
theorem dX6_wouldPurge_12 : decode cX6_wouldPurge 12 = .ok (.getfield 32, 3) := by decide +kernel
theorem dX6_wouldPurge_15 : decode cX6_wouldPurge 15 = .ok (.aload_n 0, 1) := by decide +kernel
theorem dX6_wouldPurge_16 : decode cX6_wouldPurge 16 = .ok (.getfield 28, 3) := by decide +kernel
theorem dX6_wouldPurge_19 : decode cX6_wouldPurge 19 = .ok (.invokevirtual 241, 3) := by decide +kernel
theorem dX6_wouldPurge_22 : decode cX6_wouldPurge 22 = .ok (.aload_n 0, 1) := by decide +kernel
theorem dX6_wouldPurge_23 : decode cX6_wouldPurge 23 = .ok (.getfield 32, 3) := by decide +kernel
theorem dX6_wouldPurge_26 : decode cX6_wouldPurge 26 = .ok (.iload_n 1, 1) := by decide +kernel
theorem dX6_wouldPurge_27 : decode cX6_wouldPurge 27 = .ok (.invokevirtual 75, 3) := by decide +kernel
theorem dX6_wouldPurge_30 : decode cX6_wouldPurge 30 = .ok (.aload_n 0, 1) := by decide +kernel
theorem dX6_wouldPurge_31 : decode cX6_wouldPurge 31 = .ok (.getfield 32, 3) := by decide +kernel
theorem dX6_wouldPurge_34 : decode cX6_wouldPurge 34 = .ok (.aload_n 0, 1) := by decide +kernel
theorem dX6_wouldPurge_35 : decode cX6_wouldPurge 35 = .ok (.getfield 28, 3) := by decide +kernel
theorem dX6_wouldPurge_38 : decode cX6_wouldPurge 38 = .ok (.getfield 72, 3) := by decide +kernel
theorem dX6_wouldPurge_41 : decode cX6_wouldPurge 41 = .ok (.invokevirtual 245, 3) := by decide +kernel
theorem dX6_wouldPurge_44 : decode cX6_wouldPurge 44 = .ok (.ireturn, 1) := by decide +kernel
theorem dJ6_bitCount_0f7a4_0 : decode cJ6_bitCount_0f7a4 0 = .ok (.iload_n 0, 1) := by decide +kernel
theorem dJ6_bitCount_0f7a4_1 : decode cJ6_bitCount_0f7a4 1 = .ok (.iload_n 0, 1) := by decide +kernel
theorem dJ6_bitCount_0f7a4_2 : decode cJ6_bitCount_0f7a4 2 = .ok (.iconst 1, 1) := by decide +kernel
theorem dJ6_bitCount_0f7a4_3 : decode cJ6_bitCount_0f7a4 3 = .ok (.iushr, 1) := by decide +kernel
theorem dJ6_bitCount_0f7a4_4 : decode cJ6_bitCount_0f7a4 4 = .ok (.ldc_w 265, 3) := by decide +kernel
theorem dJ6_bitCount_0f7a4_7 : decode cJ6_bitCount_0f7a4 7 = .ok (.iand, 1) := by decide +kernel
theorem dJ6_bitCount_0f7a4_8 : decode cJ6_bitCount_0f7a4 8 = .ok (.isub, 1) := by decide +kernel
theorem dJ6_bitCount_0f7a4_9 : decode cJ6_bitCount_0f7a4 9 = .ok (.istore_n 0, 1) := by decide +kernel
theorem dJ6_bitCount_0f7a4_10 : decode cJ6_bitCount_0f7a4 10 = .ok (.iload_n 0, 1) := by decide +kernel
theorem dJ6_bitCount_0f7a4_11 : decode cJ6_bitCount_0f7a4 11 = .ok (.ldc_w 266, 3) := by decide +kernel
theorem dJ6_bitCount_0f7a4_14 : decode cJ6_bitCount_0f7a4 14 = .ok (.iand, 1) := by decide +kernel
theorem dJ6_bitCount_0f7a4_15 : decode cJ6_bitCount_0f7a4 15 = .ok (.iload_n 0, 1) := by decide +kernel
theorem dJ6_bitCount_0f7a4_16 : decode cJ6_bitCount_0f7a4 16 = .ok (.iconst 2, 1) := by decide +kernel
theorem dJ6_bitCount_0f7a4_17 : decode cJ6_bitCount_0f7a4 17 = .ok (.iushr, 1) := by decide +kernel
theorem dJ6_bitCount_0f7a4_18 : decode cJ6_bitCount_0f7a4 18 = .ok (.ldc_w 266, 3) := by decide +kernel
theorem dJ6_bitCount_0f7a4_21 : decode cJ6_bitCount_0f7a4 21 = .ok (.iand, 1) := by decide +kernel
theorem dJ6_bitCount_0f7a4_22 : decode cJ6_bitCount_0f7a4 22 = .ok (.iadd, 1) := by decide +kernel
theorem dJ6_bitCount_0f7a4_23 : decode cJ6_bitCount_0f7a4 23 = .ok (.istore_n 0, 1) := by decide +kernel
theorem dJ6_bitCount_0f7a4_24 : decode cJ6_bitCount_0f7a4 24 = .ok (.iload_n 0, 1) := by decide +kernel
theorem dJ6_bitCount_0f7a4_25 : decode cJ6_bitCount_0f7a4 25 = .ok (.iload_n 0, 1) := by decide +kernel
theorem dJ6_bitCount_0f7a4_26 : decode cJ6_bitCount_0f7a4 26 = .ok (.iconst 4, 1) := by decide +kernel
theorem dJ6_bitCount_0f7a4_27 : decode cJ6_bitCount_0f7a4 27 = .ok (.iushr, 1) := by decide +kernel
theorem dJ6_bitCount_0f7a4_28 : decode cJ6_bitCount_0f7a4 28 = .ok (.iadd, 1) := by decide +kernel
theorem dJ6_bitCount_0f7a4_29 : decode cJ6_bitCount_0f7a4 29 = .ok (.ldc_w 267, 3) := by decide +kernel
theorem dJ6_bitCount_0f7a4_32 : decode cJ6_bitCount_0f7a4 32 = .ok (.iand, 1) := by decide +kernel
theorem dJ6_bitCount_0f7a4_33 : decode cJ6_bitCount_0f7a4 33 = .ok (.istore_n 0, 1) := by decide +kernel
theorem dJ6_bitCount_0f7a4_34 : decode cJ6_bitCount_0f7a4 34 = .ok (.iload_n 0, 1) := by decide +kernel
theorem dJ6_bitCount_0f7a4_35 : decode cJ6_bitCount_0f7a4 35 = .ok (.iload_n 0, 1) := by decide +kernel
theorem dJ6_bitCount_0f7a4_36 : decode cJ6_bitCount_0f7a4 36 = .ok (.bipush 8, 2) := by decide +kernel
theorem dJ6_bitCount_0f7a4_38 : decode cJ6_bitCount_0f7a4 38 = .ok (.iushr, 1) := by decide +kernel
theorem dJ6_bitCount_0f7a4_39 : decode cJ6_bitCount_0f7a4 39 = .ok (.iadd, 1) := by decide +kernel
theorem dJ6_bitCount_0f7a4_40 : decode cJ6_bitCount_0f7a4 40 = .ok (.istore_n 0, 1) := by decide +kernel
theorem dJ6_bitCount_0f7a4_41 : decode cJ6_bitCount_0f7a4 41 = .ok (.iload_n 0, 1) := by decide +kernel
theorem dJ6_bitCount_0f7a4_42 : decode cJ6_bitCount_0f7a4 42 = .ok (.iload_n 0, 1) := by decide +kernel
theorem dJ6_bitCount_0f7a4_43 : decode cJ6_bitCount_0f7a4 43 = .ok (.bipush 16, 2) := by decide +kernel
theorem dJ6_bitCount_0f7a4_45 : decode cJ6_bitCount_0f7a4 45 = .ok (.iushr, 1) := by decide +kernel
theorem dJ6_bitCount_0f7a4_46 : decode cJ6_bitCount_0f7a4 46 = .ok (.iadd, 1) := by decide +kernel
theorem dJ6_bitCount_0f7a4_47 : decode cJ6_bitCount_0f7a4 47 = .ok (.istore_n 0, 1) := by decide +kernel
theorem dJ6_bitCount_0f7a4_48 : decode cJ6_bitCount_0f7a4 48 = .ok (.iload_n 0, 1) := by decide +kernel
theorem dJ6_bitCount_0f7a4_49 : decode cJ6_bitCount_0f7a4 49 = .ok (.bipush 63, 2) := by decide +kernel
theorem dJ6_bitCount_0f7a4_51 : decode cJ6_bitCount_0f7a4 51 = .ok (.iand, 1) := by decide +kernel
theorem dJ6_bitCount_0f7a4_52 : decode cJ6_bitCount_0f7a4 52 = .ok (.ireturn, 1) := by decide +kernel
end
section
/-! the memory of a den: things (w, k, i): w the world (0 the real one, 1 the trial; 2: what both share), k the kind, i the number of the PROCESS. A thing's own numbers are a function of the place. -/
abbrev clM : List vw_C := [(RX0, TX0, 3), (RX1, TX1, 5), (RX2, TX2, 19), (RX3, TX3, 8), (RX4, TX4, 3), (RX5, TX5, 17), (RX6, TX6, 4)]
def cnt (k : Nat) : Nat := if 7 ≤ k then 24 else 1
def vld (w k i : Nat) : Prop := (k < 16 ∧ w < 2 ∧ i < cnt k) ∨ (16 ≤ k ∧ k < 30 ∧ w = 2 ∧ i = 0)
def rl : List (Nat × Nat × Nat) := (List.range 16).flatMap (fun k => (List.range (cnt k)).flatMap (fun i => [(0, k, i), (1, k, i)])) ++ (List.range 14).map (fun k => (2, k + 16, 0))
theorem rl_in {w k i : Nat} (h : vld w k i) : (w, k, i) ∈ rl := by
  rcases h with ⟨h1, h2, h3⟩ | ⟨h1, h2, h3, h4⟩
  · refine List.mem_append_left _ (List.mem_flatMap.mpr ⟨k, List.mem_range.mpr h1, List.mem_flatMap.mpr ⟨i, List.mem_range.mpr h3, ?_⟩⟩)
    rcases (show w = 0 ∨ w = 1 by omega) with rfl | rfl <;> simp
  · subst h3; subst h4
    exact List.mem_append_right _ (List.mem_map.mpr ⟨k - 16, List.mem_range.mpr (by omega), by rw [Nat.sub_add_cancel h1]⟩)
theorem rl_of {w k i : Nat} (h : (w, k, i) ∈ rl) : vld w k i := by
  rcases List.mem_append.mp h with h | h
  · obtain ⟨k', hk, h⟩ := List.mem_flatMap.mp h
    obtain ⟨i', hi, h⟩ := List.mem_flatMap.mp h
    have hk := List.mem_range.mp hk
    have hi := List.mem_range.mp hi
    simp only [List.mem_cons, Prod.mk.injEq, List.not_mem_nil, or_false] at h
    rcases h with ⟨rfl, rfl, rfl⟩ | ⟨rfl, rfl, rfl⟩
    · exact Or.inl ⟨hk, by decide, hi⟩
    · exact Or.inl ⟨hk, by decide, hi⟩
  · obtain ⟨k', hk, h⟩ := List.mem_map.mp h
    have hk := List.mem_range.mp hk
    simp only [Prod.mk.injEq] at h
    obtain ⟨rfl, rfl, rfl⟩ := h
    exact Or.inr ⟨by omega, by omega, rfl, rfl⟩

/-- what lies at a thing whose numbers are f -/
def ob (ad : Nat → Nat → Nat → Nat) (cI cZ cP : ClassId) (w k i : Nat) (f : Nat → Int32) : va_E := match k with
  | 0 => .inr (5, [.ref (ad 2 17 0), .ref (ad 2 22 0), .ref (ad w 1 0), .ref (ad w 2 0), .ref (ad w 3 0), .int (f 5), .int (f 6), .int (f 7), .int (f 8), .int (f 9), .int (f 10), .ref (ad w 4 0), .int (f 12), .int (f 13), .ref (ad w 5 0), .ref (ad w 6 0), .int (f 16)])
  | 1 => .inl (cI, 4, .inl f)
  | 2 => .inl (cI, 4, .inl f)
  | 3 => .inl (cP, 24, .inr (.inr (.inr (.inr (fun j => some (ad w 7 j))))))
  | 4 => .inl (cI, 24, .inl f)
  | 5 => .inl (cI, 48, .inl f)
  | 6 => .inl (cI, 48, .inl f)
  | 7 => .inr (2, [.int (nI i), .int (f 1), .int (f 2), .int (f 3), .int (f 4), .int (f 5), .int (f 6), .int (f 7), .int (f 8), .int (f 9), .int (f 10), .int (f 11), .int (f 12), .int (f 13), .int (f 14), .ref (ad w 8 i), .ref (ad w 9 i), .ref (ad w 10 i), .ref (ad w 13 i)])
  | 8 => .inl (cI, 4, .inl f)
  | 9 => .inl (cI, 4, .inl f)
  | 10 => .inr (0, [.ref (ad w 11 i), .ref (ad w 12 i), .int (f 2)])
  | 11 => .inl (cI, 8, .inl f)
  | 12 => .inl (cI, 8, .inl f)
  | 13 => .inr (4, [.ref (ad w 14 i), .ref (ad w 15 i), .int (f 2)])
  | 14 => .inl (cI, 24, .inl f)
  | 15 => .inl (cI, 24, .inl f)
  | 16 => .inr (6, [.ref (ad 2 17 0), .ref (ad 2 22 0), .ref (ad 0 0 0), .ref (ad 1 0 0)])
  | 17 => .inr (1, [.int (f 0), .ref (ad 2 18 0), .ref (ad 2 19 0), .ref (ad 2 20 0), .ref (ad 2 21 0)])
  | 18 => .inl (cI, 16, .inl f)
  | 19 => .inl (cI, 192, .inl f)
  | 20 => .inl (cI, 192, .inl f)
  | 21 => .inl (cI, 192, .inl f)
  | 22 => .inr (3, [.int (f 0), .ref (ad 2 23 0), .ref (ad 2 24 0), .ref (ad 2 25 0), .ref (ad 2 26 0), .ref (ad 2 27 0), .ref (ad 2 28 0), .ref (ad 2 29 0)])
  | 23 => .inl (cI, 5, .inl f)
  | 24 => .inl (cI, 5, .inl f)
  | 25 => .inl (cI, 5, .inl f)
  | 26 => .inl (cI, 5, .inl f)
  | 27 => .inl (cZ, 20, .inl f)
  | 28 => .inl (cI, 20, .inl f)
  | _ => .inl (cI, 20, .inl f)
/-- the numbers of all things: V of the world w, U of the other one, G of what both share -/
def Mm (w : Nat) (G V U : Nat → Nat → Nat → Int32) (r : Nat × Nat × Nat) : Nat → Int32 := if 16 ≤ r.2.1 then G r.2.1 r.2.2 else if r.1 = w then V r.2.1 r.2.2 else U r.2.1 r.2.2
def wsA (ad : Nat → Nat → Nat → Nat) (e : Nat × Nat × Nat → va_E) : va_W := rl.map (fun r => (ad r.1 r.2.1 r.2.2, e r))
def oe (ad : Nat → Nat → Nat → Nat) (cI cZ cP : ClassId) (M : Nat × Nat × Nat → Nat → Int32) (r : Nat × Nat × Nat) : va_E := ob ad cI cZ cP r.1 r.2.1 r.2.2 (M r)
/-- the heap holds the den -/
def Pic (D : va_G) (ad : Nat → Nat → Nat → Nat) (cI cZ cP : ClassId) (w : Nat) (G V U : Nat → Nat → Nat → Int32) (H : Heap) : Prop := va_P D clM (wsA ad (oe ad cI cZ cP (Mm w G V U))) H
/-- the things are apart, and of a kind -/
def Lay (ad : Nat → Nat → Nat → Nat) (A : Nat → Prop) : Prop := ∀ e, va_D A (wsA ad e)
def nestL : List (String × Nat × MethodName × String) := [(RX1, 32, yX6_isWithin, RX6), (RX5, 103, yX6_isWithin, RX6), (RX2, 98, yX6_isWithin, RX6), (RX0, 22, yX6_isWithin, RX6)]
/-- what the tables say -/
def DEnv (D : va_G) (ad : Nat → Nat → Nat → Nat) (cI cZ cP : ClassId) (A : Nat → Prop) (s : State) : Prop := va_K D clM [(cI, .int), (cZ, .boolean), (cP, .object "MailDen$Proc")] s ∧ (∀ q ∈ nestL, va_Nw (.methodLinkNest q.1 q.2.1 q.2.2.1 q.2.2.2) s) ∧ Lay ad A
theorem DEnv.same {D : va_G} {ad : Nat → Nat → Nat → Nat} {cI cZ cP : ClassId} {A : Nat → Prop} {u U : State} (h : DEnv D ad cI cZ cP A u) (hv : u.vm = U.vm) : DEnv D ad cI cZ cP A U := ⟨va_K.moved (by rw [hv]; exact Vm.Alike.refl _) h.1, fun q hq => va_Nw.same rfl hv (h.2.1 q hq), h.2.2⟩
theorem DEnv.warm {D : va_G} {ad : Nat → Nat → Nat → Nat} {cI cZ cP : ClassId} {A : Nat → Prop} {u U : State} (h : DEnv D ad cI cZ cP A u) (hW : u.WarmedH U.vm) : DEnv D ad cI cZ cP A U := ⟨va_K.moved hW.alike h.1, fun q hq => va_Nw.warmM hW (h.2.1 q hq), h.2.2⟩
def st (V : Nat → Nat → Nat → Int32) (k i : Nat) (g : Nat → Int32) : Nat → Nat → Nat → Int32 := fun k' i' => if k' = k ∧ i' = i then g else V k' i'
/-- one number is written -/
def pt (V : Nat → Nat → Nat → Int32) (k i j : Nat) (x : Int32) : Nat → Nat → Nat → Int32 := st V k i (upd (V k i) j x)
/-- the first n numbers are copied -/
def ct (V : Nat → Nat → Nat → Int32) (k i : Nat) (f : Nat → Int32) (n : Nat) : Nat → Nat → Nat → Int32 := st V k i (va_cpy f (V k i) 0 0 n)
theorem wsA_at {ad : Nat → Nat → Nat → Nat} {e : Nat × Nat × Nat → va_E} {r : Nat × Nat × Nat} (h : r ∈ rl) : ∃ q : Nat, (wsA ad e)[q]? = some (ad r.1 r.2.1 r.2.2, e r) := by
  apply List.getElem?_of_mem
  exact List.mem_map.mpr ⟨r, h, rfl⟩
theorem wsA_set {ad : Nat → Nat → Nat → Nat} {A : Nat → Prop} (hL : Lay ad A) {e e' : Nat × Nat × Nat → va_E} {r : Nat × Nat × Nat} {q : Nat} (hr : r ∈ rl) (hq : (wsA ad e)[q]? = some (ad r.1 r.2.1 r.2.2, e r)) (h : ∀ r' ∈ rl, r' ≠ r → e' r' = e r') : (wsA ad e).set q (ad r.1 r.2.1 r.2.2, e' r) = wsA ad e' := by
  have hl := (List.getElem?_eq_some_iff.mp hq).1
  apply List.ext_getElem?
  intro j
  by_cases hj : j = q
  · subst hj
    rw [List.getElem?_set_self hl]
    have h1 : rl[j]? = some r := by
      obtain ⟨j2, hj2⟩ := List.getElem?_of_mem hr
      have h2 : (wsA ad e)[j2]? = some (ad r.1 r.2.1 r.2.2, e r) := by rw [wsA, List.getElem?_map, hj2]; rfl
      have := (hL e).1 j j2 _ _ hq h2 rfl
      rw [this]; exact hj2
    rw [wsA, List.getElem?_map, h1]; rfl
  · rw [List.getElem?_set_ne (Ne.symm hj)]
    rw [wsA, wsA, List.getElem?_map, List.getElem?_map]
    cases hb : rl[j]? with
    | none => rfl
    | some r' =>
      have hne : r' ≠ r := fun hh => by
        subst hh
        have h2 : (wsA ad e)[j]? = some (ad r'.1 r'.2.1 r'.2.2, e r') := by rw [wsA, List.getElem?_map, hb]; rfl
        exact hj ((hL e).1 j q _ _ h2 hq rfl)
      show some (ad r'.1 r'.2.1 r'.2.2, e r') = some (ad r'.1 r'.2.1 r'.2.2, e' r')
      rw [h r' (List.mem_of_getElem? hb) hne]
theorem Lay.ne {ad : Nat → Nat → Nat → Nat} {A : Nat → Prop} (hL : Lay ad A) {w k i w' k' i' : Nat} (h : vld w k i) (h' : vld w' k' i') (e : ad w k i = ad w' k' i') : (w, k, i) = (w', k', i') := by
  obtain ⟨j1, h1⟩ := List.getElem?_of_mem (rl_in h)
  obtain ⟨j2, h2⟩ := List.getElem?_of_mem (rl_in h')
  have e0 : Nat × Nat × Nat → va_E := fun _ => .inr (0, [])
  have g1 : (wsA ad e0)[j1]? = some (ad w k i, e0 (w, k, i)) := by rw [wsA, List.getElem?_map, h1]; rfl
  have g2 : (wsA ad e0)[j2]? = some (ad w' k' i', e0 (w', k', i')) := by rw [wsA, List.getElem?_map, h2]; rfl
  have := (hL e0).1 j1 j2 _ _ g1 g2 e
  subst this
  rw [h1] at h2
  exact Option.some.inj h2
theorem Lay.inA {ad : Nat → Nat → Nat → Nat} {A : Nat → Prop} (hL : Lay ad A) {w k i : Nat} (h : vld w k i) : A (ad w k i) := by
  obtain ⟨q, hq⟩ := wsA_at (ad := ad) (e := fun _ => .inr (0, [])) (rl_in h)
  exact (hL _).2 q _ hq
theorem Mm_V {w k i : Nat} {G V U : Nat → Nat → Nat → Int32} (hk : k < 16) : Mm w G V U (w, k, i) = V k i := by
  unfold Mm; rw [if_neg (by show ¬ 16 ≤ k; omega), if_pos rfl]
theorem Mm_G {w w' k i : Nat} {G V U : Nat → Nat → Nat → Int32} (hk : 16 ≤ k) : Mm w G V U (w', k, i) = G k i := by
  unfold Mm; rw [if_pos hk]
theorem Mm_st {w k i : Nat} {G V U : Nat → Nat → Nat → Int32} {g : Nat → Int32} (hk : k < 16) (r : Nat × Nat × Nat) (hne : r ≠ (w, k, i)) : Mm w G (st V k i g) U r = Mm w G V U r := by
  obtain ⟨a, b, c⟩ := r
  unfold Mm st
  show (if 16 ≤ b then G b c else if a = w then (if b = k ∧ c = i then g else V b c) else U b c) = (if 16 ≤ b then G b c else if a = w then V b c else U b c)
  by_cases h1 : 16 ≤ b
  · rw [if_pos h1, if_pos h1]
  · rw [if_neg h1, if_neg h1]
    by_cases h2 : a = w
    · rw [if_pos h2, if_pos h2, if_neg]
      rintro ⟨rfl, rfl⟩
      exact hne (by rw [h2])
    · rw [if_neg h2, if_neg h2]
theorem Mm_stG {w w' k i : Nat} {G V U : Nat → Nat → Nat → Int32} {g : Nat → Int32} (hk : 16 ≤ k) (r : Nat × Nat × Nat) (hr : r ∈ rl) (hv : vld w' k i) (hne : r ≠ (w', k, i)) : Mm w (st G k i g) V U r = Mm w G V U r := by
  obtain ⟨a, b, c⟩ := r
  unfold Mm st
  show (if 16 ≤ b then (if b = k ∧ c = i then g else G b c) else if a = w then V b c else U b c) = (if 16 ≤ b then G b c else if a = w then V b c else U b c)
  by_cases h1 : 16 ≤ b
  · rw [if_pos h1, if_pos h1, if_neg]
    rintro ⟨rfl, rfl⟩
    have q1 := rl_of hr
    rcases q1 with ⟨q, -⟩ | ⟨-, -, q, -⟩
    · omega
    · rcases hv with ⟨p, -⟩ | ⟨-, -, p, -⟩
      · omega
      · exact hne (by rw [q, p])
  · rw [if_neg h1, if_neg h1]
theorem st_same {V : Nat → Nat → Nat → Int32} {k i : Nat} {g : Nat → Int32} : st V k i g k i = g := by unfold st; rw [if_pos ⟨rfl, rfl⟩]
theorem Pic.swap {D : va_G} {ad : Nat → Nat → Nat → Nat} {cI cZ cP : ClassId} {w w' : Nat} {G V U : Nat → Nat → Nat → Int32} {H : Heap} (h : Pic D ad cI cZ cP w G V U H) (hw : w + w' = 1) : Pic D ad cI cZ cP w' G U V H := by
  have e : wsA ad (oe ad cI cZ cP (Mm w G V U)) = wsA ad (oe ad cI cZ cP (Mm w' G U V)) := by
    unfold wsA
    apply List.map_congr_left
    intro r hr
    obtain ⟨a, b, c⟩ := r
    have hv := rl_of hr
    have : Mm w G V U (a, b, c) = Mm w' G U V (a, b, c) := by
      unfold Mm
      show (if 16 ≤ b then G b c else if a = w then V b c else U b c) = (if 16 ≤ b then G b c else if a = w' then U b c else V b c)
      by_cases h1 : 16 ≤ b
      · rw [if_pos h1, if_pos h1]
      · rw [if_neg h1, if_neg h1]
        have ha : a < 2 := by
          rcases hv with ⟨-, q, -⟩ | ⟨q, -⟩
          · exact q
          · omega
        by_cases h2 : a = w
        · rw [if_pos h2, if_neg (by omega)]
        · rw [if_neg h2, if_pos (by omega)]
    show (_, ob ad cI cZ cP a b c (Mm w G V U (a, b, c))) = (_, ob ad cI cZ cP a b c (Mm w' G U V (a, b, c)))
    rw [this]
  unfold Pic at h ⊢
  rw [← e]
  exact h
theorem Pic.at {D : va_G} {ad : Nat → Nat → Nat → Nat} {cI cZ cP : ClassId} {w k i : Nat} {G V U : Nat → Nat → Nat → Int32} {H : Heap} (h : Pic D ad cI cZ cP w G V U H) (hw : w < 2) (hk : k < 16) (hi : i < cnt k) : va_at D clM (ad w k i, ob ad cI cZ cP w k i (V k i)) H := by
  obtain ⟨q, hq⟩ := wsA_at (ad := ad) (e := oe ad cI cZ cP (Mm w G V U)) (rl_in (Or.inl ⟨hk, hw, hi⟩))
  have := h q _ hq
  unfold oe at this
  rw [show Mm w G V U (w, k, i) = V k i from Mm_V hk] at this
  exact this
theorem Pic.atG {D : va_G} {ad : Nat → Nat → Nat → Nat} {cI cZ cP : ClassId} {w k : Nat} {G V U : Nat → Nat → Nat → Int32} {H : Heap} (h : Pic D ad cI cZ cP w G V U H) (hk : 16 ≤ k) (hk2 : k < 30) : va_at D clM (ad 2 k 0, ob ad cI cZ cP 2 k 0 (G k 0)) H := by
  obtain ⟨q, hq⟩ := wsA_at (ad := ad) (e := oe ad cI cZ cP (Mm w G V U)) (rl_in (w := 2) (Or.inr ⟨hk, hk2, rfl, rfl⟩))
  have := h q _ hq
  unfold oe at this
  rw [show Mm w G V U (2, k, 0) = G k 0 from Mm_G hk] at this
  exact this
theorem va_P.one {D : va_G} {cl : List vw_C} {q : Nat × va_E} {H : Heap} (h : va_at D cl q H) : va_P D cl [q] H := fun k p hp => by
  cases k with
  | zero => cases hp; exact h
  | succ k => simp at hp
/-- a thing is written -/
theorem Pic.set {D : va_G} {ad : Nat → Nat → Nat → Nat} {cI cZ cP : ClassId} {A : Nat → Prop} (hL : Lay ad A) {w k i q : Nat} {G V U : Nat → Nat → Nat → Int32} {H1 : Heap} {g : Nat → Int32} (hw : w < 2) (hk : k < 16) (hi : i < cnt k)
    (hq : (wsA ad (oe ad cI cZ cP (Mm w G V U)))[q]? = some (ad w k i, ob ad cI cZ cP w k i (V k i))) (h : va_P D clM ((wsA ad (oe ad cI cZ cP (Mm w G V U))).set q (ad w k i, ob ad cI cZ cP w k i g)) H1) : Pic D ad cI cZ cP w G (st V k i g) U H1 := by
  have hr := rl_in (Or.inl ⟨hk, hw, hi⟩ : vld w k i)
  have hq' : (wsA ad (oe ad cI cZ cP (Mm w G V U)))[q]? = some (ad w k i, oe ad cI cZ cP (Mm w G V U) (w, k, i)) := by
    rw [hq]; unfold oe; rw [show Mm w G V U (w, k, i) = V k i from Mm_V hk]
  have e := wsA_set hL (e' := oe ad cI cZ cP (Mm w G (st V k i g) U)) (r := (w, k, i)) hr hq' (fun r' _ hne => by unfold oe; rw [Mm_st hk r' hne])
  have e2 : oe ad cI cZ cP (Mm w G (st V k i g) U) (w, k, i) = ob ad cI cZ cP w k i g := by
    unfold oe; rw [show Mm w G (st V k i g) U (w, k, i) = st V k i g k i from Mm_V hk, st_same]
  rw [e2] at e
  unfold Pic
  rw [← e]
  exact h
theorem Pic.setG {D : va_G} {ad : Nat → Nat → Nat → Nat} {cI cZ cP : ClassId} {A : Nat → Prop} (hL : Lay ad A) {w k q : Nat} {G V U : Nat → Nat → Nat → Int32} {H1 : Heap} {g : Nat → Int32} (hk : 16 ≤ k) (hk2 : k < 30)
    (hq : (wsA ad (oe ad cI cZ cP (Mm w G V U)))[q]? = some (ad 2 k 0, ob ad cI cZ cP 2 k 0 (G k 0))) (h : va_P D clM ((wsA ad (oe ad cI cZ cP (Mm w G V U))).set q (ad 2 k 0, ob ad cI cZ cP 2 k 0 g)) H1) : Pic D ad cI cZ cP w (st G k 0 g) V U H1 := by
  have hv : vld 2 k 0 := Or.inr ⟨hk, hk2, rfl, rfl⟩
  have hr := rl_in hv
  have hq' : (wsA ad (oe ad cI cZ cP (Mm w G V U)))[q]? = some (ad 2 k 0, oe ad cI cZ cP (Mm w G V U) (2, k, 0)) := by
    rw [hq]; unfold oe; rw [show Mm w G V U (2, k, 0) = G k 0 from Mm_G hk]
  have e := wsA_set hL (e' := oe ad cI cZ cP (Mm w (st G k 0 g) V U)) (r := (2, k, 0)) hr hq' (fun r' hr' hne => by unfold oe; rw [Mm_stG hk r' hr' hv hne])
  have e2 : oe ad cI cZ cP (Mm w (st G k 0 g) V U) (2, k, 0) = ob ad cI cZ cP 2 k 0 g := by
    unfold oe; rw [show Mm w (st G k 0 g) V U (2, k, 0) = st G k 0 g k 0 from Mm_G hk, st_same]
  rw [e2] at e
  unfold Pic
  rw [← e]
  exact h
theorem Pic.spot {ad : Nat → Nat → Nat → Nat} {cI cZ cP : ClassId} {w k i : Nat} {G V U : Nat → Nat → Nat → Int32} (hw : w < 2) (hk : k < 16) (hi : i < cnt k) : ∃ q : Nat, (wsA ad (oe ad cI cZ cP (Mm w G V U)))[q]? = some (ad w k i, ob ad cI cZ cP w k i (V k i)) := by
  obtain ⟨q, hq⟩ := wsA_at (ad := ad) (e := oe ad cI cZ cP (Mm w G V U)) (rl_in (Or.inl ⟨hk, hw, hi⟩))
  unfold oe at hq
  rw [show Mm w G V U (w, k, i) = V k i from Mm_V hk] at hq
  exact ⟨q, hq⟩
theorem Pic.spotG {ad : Nat → Nat → Nat → Nat} {cI cZ cP : ClassId} {w k : Nat} {G V U : Nat → Nat → Nat → Int32} (hk : 16 ≤ k) (hk2 : k < 30) : ∃ q : Nat, (wsA ad (oe ad cI cZ cP (Mm w G V U)))[q]? = some (ad 2 k 0, ob ad cI cZ cP 2 k 0 (G k 0)) := by
  obtain ⟨q, hq⟩ := wsA_at (ad := ad) (e := oe ad cI cZ cP (Mm w G V U)) (rl_in (w := 2) (Or.inr ⟨hk, hk2, rfl, rfl⟩))
  unfold oe at hq
  rw [show Mm w G V U (2, k, 0) = G k 0 from Mm_G hk] at hq
  exact ⟨q, hq⟩
end
section
/-! rows over the memory of a den -/
section
variable {p : Program} {l : Launch} {e : Env} {R : Room} {s : State} {m : MethodId} {args : Array Value} {below : List Frame} {meth : Method} {c : Code} {H : Heap} {locs : List Loc} {Q : State → Prop}
variable {cc : ByteArray} {pc : Nat} {ls : Array Slot} {rest : List Value} {D : va_G} {ad : Nat → Nat → Nat → Nat} {cI cZ cP : ClassId} {A : Nat → Prop} {w : Nat} {G V U : Nat → Nat → Nat → Int32} {H0 : Heap} {own : String} {index : Nat}

theorem mgV (hx : p.tables.exec = Jvm.exec) (hb : c.code = cc) (htm : ∀ x ∈ WM, x.before args s = true) (hown : s.vm.findClass own = some m.cls) (hE : DEnv D ad cI cZ cP A s) (hP : Pic D ad cI cZ cP w G V U H) (hw : w < 2) {k i ci N : Nat} {C : String} {T : u_T} {fs : List Value} {v : Value} (hk : k < 16) (hi : i < cnt k) (ho : ob ad cI cZ cP w k i (V k i) = .inr (ci, fs)) (hc : clM[ci]? = some (C, T, N)) (hin : ∀ x ∈ u_ws C T N, x ∈ WM) (j : Nat) (hj : j < N) (hlink : (Cond.fieldLink own index (T j).1 (T j).2.1 (T j).2.2.1).before args s = true) (hv : fs[j]? = some v) (hdg : decode cc pc = .ok (.getfield index, 3)) (kk : W p l e R s m args below meth c H locs 0 0 Q (F0 m (pc + 3) ls (v :: rest))) : W p l e R s m args below meth c H locs 0 0 Q (F0 m pc ls (.ref (ad w k i) :: rest)) := by
  have h := hP.at hw hk hi
  rw [ho] at h
  exact va_get hx hb htm hin hown hE.1 (va_P.one h) 0 rfl hc j hj hlink (fun _ h9 => h9) hv hdg kk
theorem mgG (hx : p.tables.exec = Jvm.exec) (hb : c.code = cc) (htm : ∀ x ∈ WM, x.before args s = true) (hown : s.vm.findClass own = some m.cls) (hE : DEnv D ad cI cZ cP A s) (hP : Pic D ad cI cZ cP w G V U H) {k ci N : Nat} {C : String} {T : u_T} {fs : List Value} {v : Value} (hk : 16 ≤ k) (hk2 : k < 30) (ho : ob ad cI cZ cP 2 k 0 (G k 0) = .inr (ci, fs)) (hc : clM[ci]? = some (C, T, N)) (hin : ∀ x ∈ u_ws C T N, x ∈ WM) (j : Nat) (hj : j < N) (hlink : (Cond.fieldLink own index (T j).1 (T j).2.1 (T j).2.2.1).before args s = true) (hv : fs[j]? = some v) (hdg : decode cc pc = .ok (.getfield index, 3)) (kk : W p l e R s m args below meth c H locs 0 0 Q (F0 m (pc + 3) ls (v :: rest))) : W p l e R s m args below meth c H locs 0 0 Q (F0 m pc ls (.ref (ad 2 k 0) :: rest)) := by
  have h := hP.atG hk hk2
  rw [ho] at h
  exact va_get hx hb htm hin hown hE.1 (va_P.one h) 0 rfl hc j hj hlink (fun _ h9 => h9) hv hdg kk
theorem mpV (hx : p.tables.exec = Jvm.exec) (hb : c.code = cc) (htm : ∀ x ∈ WM, x.before args s = true) (hown : s.vm.findClass own = some m.cls) (hE : DEnv D ad cI cZ cP A s) (hP : Pic D ad cI cZ cP w G V U H) (hS : va_S A H0 H locs) (hw : w < 2) {k i ci N : Nat} {C : String} {T : u_T} {fs : List Value} {g : Nat → Int32} {v : Value} (hk : k < 16) (hi : i < cnt k) (ho : ob ad cI cZ cP w k i (V k i) = .inr (ci, fs)) (hc : clM[ci]? = some (C, T, N)) (hin : ∀ x ∈ u_ws C T N, x ∈ WM) (ty0 : Nat → FieldType) (hty : ∀ k, k < N → parseFieldDescriptor (T k).2.2.1 = some (ty0 k)) (hnm : ∀ a, a < N → ∀ b, b < N → a ≠ b → (T a).2.1 ≠ (T b).2.1) (j : Nat) (hj : j < N) (hlink : (Cond.fieldLink own index (T j).1 (T j).2.1 (T j).2.2.1).before args s = true) (hfin : (T j).2.2.2 = false) {ty : FieldType} (hd : parseFieldDescriptor (T j).2.2.1 = some ty) (hn : narrow ty v = v) (hfit : fits ty v = true) (hl : j < fs.length) (hg : ob ad cI cZ cP w k i g = .inr (ci, fs.set j v)) (hdg : decode cc pc = .ok (.putfield index, 3)) (kk : ∀ (H1 : Heap) (locs1 : List Loc), Pic D ad cI cZ cP w G (st V k i g) U H1 → va_S A H0 H1 locs1 → W p l e R s m args below meth c H1 locs1 0 0 Q (F0 m (pc + 3) ls (rest))) : W p l e R s m args below meth c H locs 0 0 Q (F0 m pc ls (v :: .ref (ad w k i) :: rest)) := by
  obtain ⟨q, hq⟩ := Pic.spot (ad := ad) (cI := cI) (cZ := cZ) (cP := cP) (G := G) (V := V) (U := U) hw hk hi
  have hq1 := hq
  rw [ho] at hq1
  refine va_put hx hb htm hin ty0 hty hnm hown hE.1 hP (hE.2.2 _) hS q hq1 hc j hj hlink (fun _ h9 => h9) hfin hd hn hfit hl hdg (fun H1 locs1 hP1 _ hS1 => kk H1 locs1 (Pic.set hE.2.2 hw hk hi hq ?_) hS1)
  rw [hg]
  exact hP1
theorem mpG (hx : p.tables.exec = Jvm.exec) (hb : c.code = cc) (htm : ∀ x ∈ WM, x.before args s = true) (hown : s.vm.findClass own = some m.cls) (hE : DEnv D ad cI cZ cP A s) (hP : Pic D ad cI cZ cP w G V U H) (hS : va_S A H0 H locs) {k ci N : Nat} {C : String} {T : u_T} {fs : List Value} {g : Nat → Int32} {v : Value} (hk : 16 ≤ k) (hk2 : k < 30) (ho : ob ad cI cZ cP 2 k 0 (G k 0) = .inr (ci, fs)) (hc : clM[ci]? = some (C, T, N)) (hin : ∀ x ∈ u_ws C T N, x ∈ WM) (ty0 : Nat → FieldType) (hty : ∀ k, k < N → parseFieldDescriptor (T k).2.2.1 = some (ty0 k)) (hnm : ∀ a, a < N → ∀ b, b < N → a ≠ b → (T a).2.1 ≠ (T b).2.1) (j : Nat) (hj : j < N) (hlink : (Cond.fieldLink own index (T j).1 (T j).2.1 (T j).2.2.1).before args s = true) (hfin : (T j).2.2.2 = false) {ty : FieldType} (hd : parseFieldDescriptor (T j).2.2.1 = some ty) (hn : narrow ty v = v) (hfit : fits ty v = true) (hl : j < fs.length) (hg : ob ad cI cZ cP 2 k 0 g = .inr (ci, fs.set j v)) (hdg : decode cc pc = .ok (.putfield index, 3)) (kk : ∀ (H1 : Heap) (locs1 : List Loc), Pic D ad cI cZ cP w (st G k 0 g) V U H1 → va_S A H0 H1 locs1 → W p l e R s m args below meth c H1 locs1 0 0 Q (F0 m (pc + 3) ls (rest))) : W p l e R s m args below meth c H locs 0 0 Q (F0 m pc ls (v :: .ref (ad 2 k 0) :: rest)) := by
  obtain ⟨q, hq⟩ := Pic.spotG (ad := ad) (cI := cI) (cZ := cZ) (cP := cP) (w := w) (G := G) (V := V) (U := U) hk hk2
  have hq1 := hq
  rw [ho] at hq1
  refine va_put hx hb htm hin ty0 hty hnm hown hE.1 hP (hE.2.2 _) hS q hq1 hc j hj hlink (fun _ h9 => h9) hfin hd hn hfit hl hdg (fun H1 locs1 hP1 _ hS1 => kk H1 locs1 (Pic.setG hE.2.2 hk hk2 hq ?_) hS1)
  rw [hg]
  exact hP1
theorem malV (hx : p.tables.exec = Jvm.exec) (hb : c.code = cc) (htm : ∀ x ∈ WM, x.before args s = true) (hown : s.vm.findClass own = some m.cls) (hE : DEnv D ad cI cZ cP A s) (hP : Pic D ad cI cZ cP w G V U H) (hw : w < 2) {k i n : Nat} (hk : k < 16) (hi : i < cnt k) (ho : ob ad cI cZ cP w k i (V k i) = .inl (cI, n, .inl (V k i))) {x : Int32} (hin : vp_in x n) (hdg : decode cc pc = .ok (.iaload, 1)) (kk : W p l e R s m args below meth c H locs 0 0 Q (F0 m (pc + 1) ls (.int (V k i x.toNatClampNeg) :: rest))) : W p l e R s m args below meth c H locs 0 0 Q (F0 m pc ls (.int x :: .ref (ad w k i) :: rest)) := by
  have h := hP.at hw hk hi
  rw [ho] at h
  exact va_iald hx hb hE.1 (va_P.one h) 0 0 rfl rfl hin hdg kk
theorem malG (hx : p.tables.exec = Jvm.exec) (hb : c.code = cc) (htm : ∀ x ∈ WM, x.before args s = true) (hown : s.vm.findClass own = some m.cls) (hE : DEnv D ad cI cZ cP A s) (hP : Pic D ad cI cZ cP w G V U H) {k n : Nat} (hk : 16 ≤ k) (hk2 : k < 30) (ho : ob ad cI cZ cP 2 k 0 (G k 0) = .inl (cI, n, .inl (G k 0))) {x : Int32} (hin : vp_in x n) (hdg : decode cc pc = .ok (.iaload, 1)) (kk : W p l e R s m args below meth c H locs 0 0 Q (F0 m (pc + 1) ls (.int (G k 0 x.toNatClampNeg) :: rest))) : W p l e R s m args below meth c H locs 0 0 Q (F0 m pc ls (.int x :: .ref (ad 2 k 0) :: rest)) := by
  have h := hP.atG hk hk2
  rw [ho] at h
  exact va_iald hx hb hE.1 (va_P.one h) 0 0 rfl rfl hin hdg kk
theorem masV (hx : p.tables.exec = Jvm.exec) (hb : c.code = cc) (htm : ∀ x ∈ WM, x.before args s = true) (hown : s.vm.findClass own = some m.cls) (hE : DEnv D ad cI cZ cP A s) (hP : Pic D ad cI cZ cP w G V U H) (hS : va_S A H0 H locs) (hw : w < 2) {k i n : Nat} (hk : k < 16) (hi : i < cnt k) (ho : ∀ g, ob ad cI cZ cP w k i g = .inl (cI, n, .inl g)) {x y : Int32} (hin : vp_in x n) (hdg : decode cc pc = .ok (.iastore, 1)) (kk : ∀ (H1 : Heap) (locs1 : List Loc), Pic D ad cI cZ cP w G (pt V k i x.toNatClampNeg y) U H1 → va_S A H0 H1 locs1 → W p l e R s m args below meth c H1 locs1 0 0 Q (F0 m (pc + 1) ls (rest))) : W p l e R s m args below meth c H locs 0 0 Q (F0 m pc ls (.int y :: .int x :: .ref (ad w k i) :: rest)) := by
  obtain ⟨q, hq⟩ := Pic.spot (ad := ad) (cI := cI) (cZ := cZ) (cP := cP) (G := G) (V := V) (U := U) hw hk hi
  have hq1 := hq
  rw [ho] at hq1
  refine va_iast hx hb hE.1 hP (hE.2.2 _) hS q 0 hq1 rfl hin hdg (fun H1 locs1 hP1 _ hS1 => kk H1 locs1 (Pic.set hE.2.2 hw hk hi hq ?_) hS1)
  rw [ho]
  exact hP1
theorem masG (hx : p.tables.exec = Jvm.exec) (hb : c.code = cc) (htm : ∀ x ∈ WM, x.before args s = true) (hown : s.vm.findClass own = some m.cls) (hE : DEnv D ad cI cZ cP A s) (hP : Pic D ad cI cZ cP w G V U H) (hS : va_S A H0 H locs) {k n : Nat} (hk : 16 ≤ k) (hk2 : k < 30) (ho : ∀ g, ob ad cI cZ cP 2 k 0 g = .inl (cI, n, .inl g)) {x y : Int32} (hin : vp_in x n) (hdg : decode cc pc = .ok (.iastore, 1)) (kk : ∀ (H1 : Heap) (locs1 : List Loc), Pic D ad cI cZ cP w (pt G k 0 x.toNatClampNeg y) V U H1 → va_S A H0 H1 locs1 → W p l e R s m args below meth c H1 locs1 0 0 Q (F0 m (pc + 1) ls (rest))) : W p l e R s m args below meth c H locs 0 0 Q (F0 m pc ls (.int y :: .int x :: .ref (ad 2 k 0) :: rest)) := by
  obtain ⟨q, hq⟩ := Pic.spotG (ad := ad) (cI := cI) (cZ := cZ) (cP := cP) (w := w) (G := G) (V := V) (U := U) hk hk2
  have hq1 := hq
  rw [ho] at hq1
  refine va_iast hx hb hE.1 hP (hE.2.2 _) hS q 0 hq1 rfl hin hdg (fun H1 locs1 hP1 _ hS1 => kk H1 locs1 (Pic.setG hE.2.2 hk hk2 hq ?_) hS1)
  rw [ho]
  exact hP1
theorem mzl (hx : p.tables.exec = Jvm.exec) (hb : c.code = cc) (htm : ∀ x ∈ WM, x.before args s = true) (hown : s.vm.findClass own = some m.cls) (hE : DEnv D ad cI cZ cP A s) (hP : Pic D ad cI cZ cP w G V U H) {x : Int32} (hin : vp_in x 20) (hdg : decode cc pc = .ok (.baload, 1)) (kk : W p l e R s m args below meth c H locs 0 0 Q (F0 m (pc + 1) ls (.int (G 27 0 x.toNatClampNeg) :: rest))) : W p l e R s m args below meth c H locs 0 0 Q (F0 m pc ls (.int x :: .ref (ad 2 27 0) :: rest)) := by
  have h := hP.atG (k := 27) (by decide) (by decide)
  exact va_zald hx hb hE.1 (va_P.one h) 0 1 rfl rfl hin hdg kk
theorem mzs (hx : p.tables.exec = Jvm.exec) (hb : c.code = cc) (htm : ∀ x ∈ WM, x.before args s = true) (hown : s.vm.findClass own = some m.cls) (hE : DEnv D ad cI cZ cP A s) (hP : Pic D ad cI cZ cP w G V U H) (hS : va_S A H0 H locs) {x y : Int32} (hin : vp_in x 20) (hdg : decode cc pc = .ok (.bastore, 1)) (kk : ∀ (H1 : Heap) (locs1 : List Loc), Pic D ad cI cZ cP w (pt G 27 0 x.toNatClampNeg (vp_nar .boolean y)) V U H1 → va_S A H0 H1 locs1 → W p l e R s m args below meth c H1 locs1 0 0 Q (F0 m (pc + 1) ls (rest))) : W p l e R s m args below meth c H locs 0 0 Q (F0 m pc ls (.int y :: .int x :: .ref (ad 2 27 0) :: rest)) := by
  obtain ⟨q, hq⟩ := Pic.spotG (ad := ad) (cI := cI) (cZ := cZ) (cP := cP) (w := w) (G := G) (V := V) (U := U) (k := 27) (by decide) (by decide)
  exact va_zast hx hb hE.1 hP (hE.2.2 _) hS q 1 hq rfl hin hdg (fun H1 locs1 hP1 _ hS1 => kk H1 locs1 (Pic.setG hE.2.2 (k := 27) (by decide) (by decide) hq hP1) hS1)
theorem mql (hx : p.tables.exec = Jvm.exec) (hb : c.code = cc) (htm : ∀ x ∈ WM, x.before args s = true) (hown : s.vm.findClass own = some m.cls) (hE : DEnv D ad cI cZ cP A s) (hP : Pic D ad cI cZ cP w G V U H) (hw : w < 2) {x : Int32} (hin : vp_in x 24) (hdg : decode cc pc = .ok (.aaload, 1)) (kk : W p l e R s m args below meth c H locs 0 0 Q (F0 m (pc + 1) ls (.ref (ad w 7 x.toNatClampNeg) :: rest))) : W p l e R s m args below meth c H locs 0 0 Q (F0 m pc ls (.int x :: .ref (ad w 3 0) :: rest)) := by
  have h := hP.at (k := 3) (i := 0) hw (by decide) (by decide)
  exact va_aldq hx hb hE.1 (va_P.one h) 0 2 rfl rfl hin hdg kk

theorem gf_0_0 (hx : p.tables.exec = Jvm.exec) (hb : c.code = cc) (htm : ∀ x ∈ WM, x.before args s = true) (hown : s.vm.findClass own = some m.cls) (hE : DEnv D ad cI cZ cP A s) (hP : Pic D ad cI cZ cP w G V U H) (hw : w < 2) (hlink : (Cond.fieldLink own index "MailDen$World" "codes" "LMailDen$Codes;").before args s = true) (hdg : decode cc pc = .ok (.getfield index, 3)) (kk : W p l e R s m args below meth c H locs 0 0 Q (F0 m (pc + 3) ls (.ref (ad 2 17 0) :: rest))) : W p l e R s m args below meth c H locs 0 0 Q (F0 m pc ls (.ref (ad w 0 0) :: rest)) :=
  mgV hx hb htm hown hE hP hw (k := 0) (i := 0) (by decide) (by decide) rfl rfl ic_wsU5 0 (by decide) hlink rfl hdg kk
theorem gf_0_1 (hx : p.tables.exec = Jvm.exec) (hb : c.code = cc) (htm : ∀ x ∈ WM, x.before args s = true) (hown : s.vm.findClass own = some m.cls) (hE : DEnv D ad cI cZ cP A s) (hP : Pic D ad cI cZ cP w G V U H) (hw : w < 2) (hlink : (Cond.fieldLink own index "MailDen$World" "specs" "LMailDen$Specs;").before args s = true) (hdg : decode cc pc = .ok (.getfield index, 3)) (kk : W p l e R s m args below meth c H locs 0 0 Q (F0 m (pc + 3) ls (.ref (ad 2 22 0) :: rest))) : W p l e R s m args below meth c H locs 0 0 Q (F0 m pc ls (.ref (ad w 0 0) :: rest)) :=
  mgV hx hb htm hown hE hP hw (k := 0) (i := 0) (by decide) (by decide) rfl rfl ic_wsU5 1 (by decide) hlink rfl hdg kk
theorem gf_0_2 (hx : p.tables.exec = Jvm.exec) (hb : c.code = cc) (htm : ∀ x ∈ WM, x.before args s = true) (hown : s.vm.findClass own = some m.cls) (hE : DEnv D ad cI cZ cP A s) (hP : Pic D ad cI cZ cP w G V U H) (hw : w < 2) (hlink : (Cond.fieldLink own index "MailDen$World" "current" "[I").before args s = true) (hdg : decode cc pc = .ok (.getfield index, 3)) (kk : W p l e R s m args below meth c H locs 0 0 Q (F0 m (pc + 3) ls (.ref (ad w 1 0) :: rest))) : W p l e R s m args below meth c H locs 0 0 Q (F0 m pc ls (.ref (ad w 0 0) :: rest)) :=
  mgV hx hb htm hown hE hP hw (k := 0) (i := 0) (by decide) (by decide) rfl rfl ic_wsU5 2 (by decide) hlink rfl hdg kk
theorem gf_0_3 (hx : p.tables.exec = Jvm.exec) (hb : c.code = cc) (htm : ∀ x ∈ WM, x.before args s = true) (hown : s.vm.findClass own = some m.cls) (hE : DEnv D ad cI cZ cP A s) (hP : Pic D ad cI cZ cP w G V U H) (hw : w < 2) (hlink : (Cond.fieldLink own index "MailDen$World" "names" "[I").before args s = true) (hdg : decode cc pc = .ok (.getfield index, 3)) (kk : W p l e R s m args below meth c H locs 0 0 Q (F0 m (pc + 3) ls (.ref (ad w 2 0) :: rest))) : W p l e R s m args below meth c H locs 0 0 Q (F0 m pc ls (.ref (ad w 0 0) :: rest)) :=
  mgV hx hb htm hown hE hP hw (k := 0) (i := 0) (by decide) (by decide) rfl rfl ic_wsU5 3 (by decide) hlink rfl hdg kk
theorem gf_0_4 (hx : p.tables.exec = Jvm.exec) (hb : c.code = cc) (htm : ∀ x ∈ WM, x.before args s = true) (hown : s.vm.findClass own = some m.cls) (hE : DEnv D ad cI cZ cP A s) (hP : Pic D ad cI cZ cP w G V U H) (hw : w < 2) (hlink : (Cond.fieldLink own index "MailDen$World" "procs" "[LMailDen$Proc;").before args s = true) (hdg : decode cc pc = .ok (.getfield index, 3)) (kk : W p l e R s m args below meth c H locs 0 0 Q (F0 m (pc + 3) ls (.ref (ad w 3 0) :: rest))) : W p l e R s m args below meth c H locs 0 0 Q (F0 m pc ls (.ref (ad w 0 0) :: rest)) :=
  mgV hx hb htm hown hE hP hw (k := 0) (i := 0) (by decide) (by decide) rfl rfl ic_wsU5 4 (by decide) hlink rfl hdg kk
theorem gf_0_5 (hx : p.tables.exec = Jvm.exec) (hb : c.code = cc) (htm : ∀ x ∈ WM, x.before args s = true) (hown : s.vm.findClass own = some m.cls) (hE : DEnv D ad cI cZ cP A s) (hP : Pic D ad cI cZ cP w G V U H) (hw : w < 2) (hlink : (Cond.fieldLink own index "MailDen$World" "count" "I").before args s = true) (hdg : decode cc pc = .ok (.getfield index, 3)) (kk : W p l e R s m args below meth c H locs 0 0 Q (F0 m (pc + 3) ls (.int (V 0 0 5) :: rest))) : W p l e R s m args below meth c H locs 0 0 Q (F0 m pc ls (.ref (ad w 0 0) :: rest)) :=
  mgV hx hb htm hown hE hP hw (k := 0) (i := 0) (by decide) (by decide) rfl rfl ic_wsU5 5 (by decide) hlink rfl hdg kk
theorem pf_0_5 (hx : p.tables.exec = Jvm.exec) (hb : c.code = cc) (htm : ∀ x ∈ WM, x.before args s = true) (hown : s.vm.findClass own = some m.cls) (hE : DEnv D ad cI cZ cP A s) (hP : Pic D ad cI cZ cP w G V U H) (hS : va_S A H0 H locs) (hw : w < 2) (hlink : (Cond.fieldLink own index "MailDen$World" "count" "I").before args s = true) {x : Int32} (hdg : decode cc pc = .ok (.putfield index, 3)) (kk : ∀ (H1 : Heap) (locs1 : List Loc), Pic D ad cI cZ cP w G (pt V 0 0 5 x) U H1 → va_S A H0 H1 locs1 → W p l e R s m args below meth c H1 locs1 0 0 Q (F0 m (pc + 3) ls (rest))) : W p l e R s m args below meth c H locs 0 0 Q (F0 m pc ls (.int x :: .ref (ad w 0 0) :: rest)) :=
  mpV hx hb htm hown hE hP hS hw (k := 0) (i := 0) (g := upd (V 0 0) 5 x) (by decide) (by decide) rfl rfl ic_wsU5 tyX5 tyX5_ok nmX5 5 (by decide) hlink rfl (ty := .int) rfl rfl rfl (show (5 : Nat) < 17 from by decide) rfl hdg kk
theorem gf_0_6 (hx : p.tables.exec = Jvm.exec) (hb : c.code = cc) (htm : ∀ x ∈ WM, x.before args s = true) (hown : s.vm.findClass own = some m.cls) (hE : DEnv D ad cI cZ cP A s) (hP : Pic D ad cI cZ cP w G V U H) (hw : w < 2) (hlink : (Cond.fieldLink own index "MailDen$World" "now" "I").before args s = true) (hdg : decode cc pc = .ok (.getfield index, 3)) (kk : W p l e R s m args below meth c H locs 0 0 Q (F0 m (pc + 3) ls (.int (V 0 0 6) :: rest))) : W p l e R s m args below meth c H locs 0 0 Q (F0 m pc ls (.ref (ad w 0 0) :: rest)) :=
  mgV hx hb htm hown hE hP hw (k := 0) (i := 0) (by decide) (by decide) rfl rfl ic_wsU5 6 (by decide) hlink rfl hdg kk
theorem pf_0_6 (hx : p.tables.exec = Jvm.exec) (hb : c.code = cc) (htm : ∀ x ∈ WM, x.before args s = true) (hown : s.vm.findClass own = some m.cls) (hE : DEnv D ad cI cZ cP A s) (hP : Pic D ad cI cZ cP w G V U H) (hS : va_S A H0 H locs) (hw : w < 2) (hlink : (Cond.fieldLink own index "MailDen$World" "now" "I").before args s = true) {x : Int32} (hdg : decode cc pc = .ok (.putfield index, 3)) (kk : ∀ (H1 : Heap) (locs1 : List Loc), Pic D ad cI cZ cP w G (pt V 0 0 6 x) U H1 → va_S A H0 H1 locs1 → W p l e R s m args below meth c H1 locs1 0 0 Q (F0 m (pc + 3) ls (rest))) : W p l e R s m args below meth c H locs 0 0 Q (F0 m pc ls (.int x :: .ref (ad w 0 0) :: rest)) :=
  mpV hx hb htm hown hE hP hS hw (k := 0) (i := 0) (g := upd (V 0 0) 6 x) (by decide) (by decide) rfl rfl ic_wsU5 tyX5 tyX5_ok nmX5 6 (by decide) hlink rfl (ty := .int) rfl rfl rfl (show (6 : Nat) < 17 from by decide) rfl hdg kk
theorem gf_0_7 (hx : p.tables.exec = Jvm.exec) (hb : c.code = cc) (htm : ∀ x ∈ WM, x.before args s = true) (hown : s.vm.findClass own = some m.cls) (hE : DEnv D ad cI cZ cP A s) (hP : Pic D ad cI cZ cP w G V U H) (hw : w < 2) (hlink : (Cond.fieldLink own index "MailDen$World" "lost" "I").before args s = true) (hdg : decode cc pc = .ok (.getfield index, 3)) (kk : W p l e R s m args below meth c H locs 0 0 Q (F0 m (pc + 3) ls (.int (V 0 0 7) :: rest))) : W p l e R s m args below meth c H locs 0 0 Q (F0 m pc ls (.ref (ad w 0 0) :: rest)) :=
  mgV hx hb htm hown hE hP hw (k := 0) (i := 0) (by decide) (by decide) rfl rfl ic_wsU5 7 (by decide) hlink rfl hdg kk
theorem pf_0_7 (hx : p.tables.exec = Jvm.exec) (hb : c.code = cc) (htm : ∀ x ∈ WM, x.before args s = true) (hown : s.vm.findClass own = some m.cls) (hE : DEnv D ad cI cZ cP A s) (hP : Pic D ad cI cZ cP w G V U H) (hS : va_S A H0 H locs) (hw : w < 2) (hlink : (Cond.fieldLink own index "MailDen$World" "lost" "I").before args s = true) {x : Int32} (hdg : decode cc pc = .ok (.putfield index, 3)) (kk : ∀ (H1 : Heap) (locs1 : List Loc), Pic D ad cI cZ cP w G (pt V 0 0 7 x) U H1 → va_S A H0 H1 locs1 → W p l e R s m args below meth c H1 locs1 0 0 Q (F0 m (pc + 3) ls (rest))) : W p l e R s m args below meth c H locs 0 0 Q (F0 m pc ls (.int x :: .ref (ad w 0 0) :: rest)) :=
  mpV hx hb htm hown hE hP hS hw (k := 0) (i := 0) (g := upd (V 0 0) 7 x) (by decide) (by decide) rfl rfl ic_wsU5 tyX5 tyX5_ok nmX5 7 (by decide) hlink rfl (ty := .int) rfl rfl rfl (show (7 : Nat) < 17 from by decide) rfl hdg kk
theorem gf_0_8 (hx : p.tables.exec = Jvm.exec) (hb : c.code = cc) (htm : ∀ x ∈ WM, x.before args s = true) (hown : s.vm.findClass own = some m.cls) (hE : DEnv D ad cI cZ cP A s) (hP : Pic D ad cI cZ cP w G V U H) (hw : w < 2) (hlink : (Cond.fieldLink own index "MailDen$World" "turns" "I").before args s = true) (hdg : decode cc pc = .ok (.getfield index, 3)) (kk : W p l e R s m args below meth c H locs 0 0 Q (F0 m (pc + 3) ls (.int (V 0 0 8) :: rest))) : W p l e R s m args below meth c H locs 0 0 Q (F0 m pc ls (.ref (ad w 0 0) :: rest)) :=
  mgV hx hb htm hown hE hP hw (k := 0) (i := 0) (by decide) (by decide) rfl rfl ic_wsU5 8 (by decide) hlink rfl hdg kk
theorem pf_0_8 (hx : p.tables.exec = Jvm.exec) (hb : c.code = cc) (htm : ∀ x ∈ WM, x.before args s = true) (hown : s.vm.findClass own = some m.cls) (hE : DEnv D ad cI cZ cP A s) (hP : Pic D ad cI cZ cP w G V U H) (hS : va_S A H0 H locs) (hw : w < 2) (hlink : (Cond.fieldLink own index "MailDen$World" "turns" "I").before args s = true) {x : Int32} (hdg : decode cc pc = .ok (.putfield index, 3)) (kk : ∀ (H1 : Heap) (locs1 : List Loc), Pic D ad cI cZ cP w G (pt V 0 0 8 x) U H1 → va_S A H0 H1 locs1 → W p l e R s m args below meth c H1 locs1 0 0 Q (F0 m (pc + 3) ls (rest))) : W p l e R s m args below meth c H locs 0 0 Q (F0 m pc ls (.int x :: .ref (ad w 0 0) :: rest)) :=
  mpV hx hb htm hown hE hP hS hw (k := 0) (i := 0) (g := upd (V 0 0) 8 x) (by decide) (by decide) rfl rfl ic_wsU5 tyX5 tyX5_ok nmX5 8 (by decide) hlink rfl (ty := .int) rfl rfl rfl (show (8 : Nat) < 17 from by decide) rfl hdg kk
theorem gf_0_9 (hx : p.tables.exec = Jvm.exec) (hb : c.code = cc) (htm : ∀ x ∈ WM, x.before args s = true) (hown : s.vm.findClass own = some m.cls) (hE : DEnv D ad cI cZ cP A s) (hP : Pic D ad cI cZ cP w G V U H) (hw : w < 2) (hlink : (Cond.fieldLink own index "MailDen$World" "lines" "I").before args s = true) (hdg : decode cc pc = .ok (.getfield index, 3)) (kk : W p l e R s m args below meth c H locs 0 0 Q (F0 m (pc + 3) ls (.int (V 0 0 9) :: rest))) : W p l e R s m args below meth c H locs 0 0 Q (F0 m pc ls (.ref (ad w 0 0) :: rest)) :=
  mgV hx hb htm hown hE hP hw (k := 0) (i := 0) (by decide) (by decide) rfl rfl ic_wsU5 9 (by decide) hlink rfl hdg kk
theorem pf_0_9 (hx : p.tables.exec = Jvm.exec) (hb : c.code = cc) (htm : ∀ x ∈ WM, x.before args s = true) (hown : s.vm.findClass own = some m.cls) (hE : DEnv D ad cI cZ cP A s) (hP : Pic D ad cI cZ cP w G V U H) (hS : va_S A H0 H locs) (hw : w < 2) (hlink : (Cond.fieldLink own index "MailDen$World" "lines" "I").before args s = true) {x : Int32} (hdg : decode cc pc = .ok (.putfield index, 3)) (kk : ∀ (H1 : Heap) (locs1 : List Loc), Pic D ad cI cZ cP w G (pt V 0 0 9 x) U H1 → va_S A H0 H1 locs1 → W p l e R s m args below meth c H1 locs1 0 0 Q (F0 m (pc + 3) ls (rest))) : W p l e R s m args below meth c H locs 0 0 Q (F0 m pc ls (.int x :: .ref (ad w 0 0) :: rest)) :=
  mpV hx hb htm hown hE hP hS hw (k := 0) (i := 0) (g := upd (V 0 0) 9 x) (by decide) (by decide) rfl rfl ic_wsU5 tyX5 tyX5_ok nmX5 9 (by decide) hlink rfl (ty := .int) rfl rfl rfl (show (9 : Nat) < 17 from by decide) rfl hdg kk
theorem gf_0_10 (hx : p.tables.exec = Jvm.exec) (hb : c.code = cc) (htm : ∀ x ∈ WM, x.before args s = true) (hown : s.vm.findClass own = some m.cls) (hE : DEnv D ad cI cZ cP A s) (hP : Pic D ad cI cZ cP w G V U H) (hw : w < 2) (hlink : (Cond.fieldLink own index "MailDen$World" "tickets" "I").before args s = true) (hdg : decode cc pc = .ok (.getfield index, 3)) (kk : W p l e R s m args below meth c H locs 0 0 Q (F0 m (pc + 3) ls (.int (V 0 0 10) :: rest))) : W p l e R s m args below meth c H locs 0 0 Q (F0 m pc ls (.ref (ad w 0 0) :: rest)) :=
  mgV hx hb htm hown hE hP hw (k := 0) (i := 0) (by decide) (by decide) rfl rfl ic_wsU5 10 (by decide) hlink rfl hdg kk
theorem pf_0_10 (hx : p.tables.exec = Jvm.exec) (hb : c.code = cc) (htm : ∀ x ∈ WM, x.before args s = true) (hown : s.vm.findClass own = some m.cls) (hE : DEnv D ad cI cZ cP A s) (hP : Pic D ad cI cZ cP w G V U H) (hS : va_S A H0 H locs) (hw : w < 2) (hlink : (Cond.fieldLink own index "MailDen$World" "tickets" "I").before args s = true) {x : Int32} (hdg : decode cc pc = .ok (.putfield index, 3)) (kk : ∀ (H1 : Heap) (locs1 : List Loc), Pic D ad cI cZ cP w G (pt V 0 0 10 x) U H1 → va_S A H0 H1 locs1 → W p l e R s m args below meth c H1 locs1 0 0 Q (F0 m (pc + 3) ls (rest))) : W p l e R s m args below meth c H locs 0 0 Q (F0 m pc ls (.int x :: .ref (ad w 0 0) :: rest)) :=
  mpV hx hb htm hown hE hP hS hw (k := 0) (i := 0) (g := upd (V 0 0) 10 x) (by decide) (by decide) rfl rfl ic_wsU5 tyX5 tyX5_ok nmX5 10 (by decide) hlink rfl (ty := .int) rfl rfl rfl (show (10 : Nat) < 17 from by decide) rfl hdg kk
theorem gf_0_11 (hx : p.tables.exec = Jvm.exec) (hb : c.code = cc) (htm : ∀ x ∈ WM, x.before args s = true) (hown : s.vm.findClass own = some m.cls) (hE : DEnv D ad cI cZ cP A s) (hP : Pic D ad cI cZ cP w G V U H) (hw : w < 2) (hlink : (Cond.fieldLink own index "MailDen$World" "ended" "[I").before args s = true) (hdg : decode cc pc = .ok (.getfield index, 3)) (kk : W p l e R s m args below meth c H locs 0 0 Q (F0 m (pc + 3) ls (.ref (ad w 4 0) :: rest))) : W p l e R s m args below meth c H locs 0 0 Q (F0 m pc ls (.ref (ad w 0 0) :: rest)) :=
  mgV hx hb htm hown hE hP hw (k := 0) (i := 0) (by decide) (by decide) rfl rfl ic_wsU5 11 (by decide) hlink rfl hdg kk
theorem gf_0_12 (hx : p.tables.exec = Jvm.exec) (hb : c.code = cc) (htm : ∀ x ∈ WM, x.before args s = true) (hown : s.vm.findClass own = some m.cls) (hE : DEnv D ad cI cZ cP A s) (hP : Pic D ad cI cZ cP w G V U H) (hw : w < 2) (hlink : (Cond.fieldLink own index "MailDen$World" "endedCount" "I").before args s = true) (hdg : decode cc pc = .ok (.getfield index, 3)) (kk : W p l e R s m args below meth c H locs 0 0 Q (F0 m (pc + 3) ls (.int (V 0 0 12) :: rest))) : W p l e R s m args below meth c H locs 0 0 Q (F0 m pc ls (.ref (ad w 0 0) :: rest)) :=
  mgV hx hb htm hown hE hP hw (k := 0) (i := 0) (by decide) (by decide) rfl rfl ic_wsU5 12 (by decide) hlink rfl hdg kk
theorem pf_0_12 (hx : p.tables.exec = Jvm.exec) (hb : c.code = cc) (htm : ∀ x ∈ WM, x.before args s = true) (hown : s.vm.findClass own = some m.cls) (hE : DEnv D ad cI cZ cP A s) (hP : Pic D ad cI cZ cP w G V U H) (hS : va_S A H0 H locs) (hw : w < 2) (hlink : (Cond.fieldLink own index "MailDen$World" "endedCount" "I").before args s = true) {x : Int32} (hdg : decode cc pc = .ok (.putfield index, 3)) (kk : ∀ (H1 : Heap) (locs1 : List Loc), Pic D ad cI cZ cP w G (pt V 0 0 12 x) U H1 → va_S A H0 H1 locs1 → W p l e R s m args below meth c H1 locs1 0 0 Q (F0 m (pc + 3) ls (rest))) : W p l e R s m args below meth c H locs 0 0 Q (F0 m pc ls (.int x :: .ref (ad w 0 0) :: rest)) :=
  mpV hx hb htm hown hE hP hS hw (k := 0) (i := 0) (g := upd (V 0 0) 12 x) (by decide) (by decide) rfl rfl ic_wsU5 tyX5 tyX5_ok nmX5 12 (by decide) hlink rfl (ty := .int) rfl rfl rfl (show (12 : Nat) < 17 from by decide) rfl hdg kk
theorem gf_0_13 (hx : p.tables.exec = Jvm.exec) (hb : c.code = cc) (htm : ∀ x ∈ WM, x.before args s = true) (hown : s.vm.findClass own = some m.cls) (hE : DEnv D ad cI cZ cP A s) (hP : Pic D ad cI cZ cP w G V U H) (hw : w < 2) (hlink : (Cond.fieldLink own index "MailDen$World" "settledCount" "I").before args s = true) (hdg : decode cc pc = .ok (.getfield index, 3)) (kk : W p l e R s m args below meth c H locs 0 0 Q (F0 m (pc + 3) ls (.int (V 0 0 13) :: rest))) : W p l e R s m args below meth c H locs 0 0 Q (F0 m pc ls (.ref (ad w 0 0) :: rest)) :=
  mgV hx hb htm hown hE hP hw (k := 0) (i := 0) (by decide) (by decide) rfl rfl ic_wsU5 13 (by decide) hlink rfl hdg kk
theorem pf_0_13 (hx : p.tables.exec = Jvm.exec) (hb : c.code = cc) (htm : ∀ x ∈ WM, x.before args s = true) (hown : s.vm.findClass own = some m.cls) (hE : DEnv D ad cI cZ cP A s) (hP : Pic D ad cI cZ cP w G V U H) (hS : va_S A H0 H locs) (hw : w < 2) (hlink : (Cond.fieldLink own index "MailDen$World" "settledCount" "I").before args s = true) {x : Int32} (hdg : decode cc pc = .ok (.putfield index, 3)) (kk : ∀ (H1 : Heap) (locs1 : List Loc), Pic D ad cI cZ cP w G (pt V 0 0 13 x) U H1 → va_S A H0 H1 locs1 → W p l e R s m args below meth c H1 locs1 0 0 Q (F0 m (pc + 3) ls (rest))) : W p l e R s m args below meth c H locs 0 0 Q (F0 m pc ls (.int x :: .ref (ad w 0 0) :: rest)) :=
  mpV hx hb htm hown hE hP hS hw (k := 0) (i := 0) (g := upd (V 0 0) 13 x) (by decide) (by decide) rfl rfl ic_wsU5 tyX5 tyX5_ok nmX5 13 (by decide) hlink rfl (ty := .int) rfl rfl rfl (show (13 : Nat) < 17 from by decide) rfl hdg kk
theorem gf_0_14 (hx : p.tables.exec = Jvm.exec) (hb : c.code = cc) (htm : ∀ x ∈ WM, x.before args s = true) (hown : s.vm.findClass own = some m.cls) (hE : DEnv D ad cI cZ cP A s) (hP : Pic D ad cI cZ cP w G V U H) (hw : w < 2) (hlink : (Cond.fieldLink own index "MailDen$World" "restartOf" "[I").before args s = true) (hdg : decode cc pc = .ok (.getfield index, 3)) (kk : W p l e R s m args below meth c H locs 0 0 Q (F0 m (pc + 3) ls (.ref (ad w 5 0) :: rest))) : W p l e R s m args below meth c H locs 0 0 Q (F0 m pc ls (.ref (ad w 0 0) :: rest)) :=
  mgV hx hb htm hown hE hP hw (k := 0) (i := 0) (by decide) (by decide) rfl rfl ic_wsU5 14 (by decide) hlink rfl hdg kk
theorem gf_0_15 (hx : p.tables.exec = Jvm.exec) (hb : c.code = cc) (htm : ∀ x ∈ WM, x.before args s = true) (hown : s.vm.findClass own = some m.cls) (hE : DEnv D ad cI cZ cP A s) (hP : Pic D ad cI cZ cP w G V U H) (hw : w < 2) (hlink : (Cond.fieldLink own index "MailDen$World" "restartAt" "[I").before args s = true) (hdg : decode cc pc = .ok (.getfield index, 3)) (kk : W p l e R s m args below meth c H locs 0 0 Q (F0 m (pc + 3) ls (.ref (ad w 6 0) :: rest))) : W p l e R s m args below meth c H locs 0 0 Q (F0 m pc ls (.ref (ad w 0 0) :: rest)) :=
  mgV hx hb htm hown hE hP hw (k := 0) (i := 0) (by decide) (by decide) rfl rfl ic_wsU5 15 (by decide) hlink rfl hdg kk
theorem gf_0_16 (hx : p.tables.exec = Jvm.exec) (hb : c.code = cc) (htm : ∀ x ∈ WM, x.before args s = true) (hown : s.vm.findClass own = some m.cls) (hE : DEnv D ad cI cZ cP A s) (hP : Pic D ad cI cZ cP w G V U H) (hw : w < 2) (hlink : (Cond.fieldLink own index "MailDen$World" "restartCount" "I").before args s = true) (hdg : decode cc pc = .ok (.getfield index, 3)) (kk : W p l e R s m args below meth c H locs 0 0 Q (F0 m (pc + 3) ls (.int (V 0 0 16) :: rest))) : W p l e R s m args below meth c H locs 0 0 Q (F0 m pc ls (.ref (ad w 0 0) :: rest)) :=
  mgV hx hb htm hown hE hP hw (k := 0) (i := 0) (by decide) (by decide) rfl rfl ic_wsU5 16 (by decide) hlink rfl hdg kk
theorem pf_0_16 (hx : p.tables.exec = Jvm.exec) (hb : c.code = cc) (htm : ∀ x ∈ WM, x.before args s = true) (hown : s.vm.findClass own = some m.cls) (hE : DEnv D ad cI cZ cP A s) (hP : Pic D ad cI cZ cP w G V U H) (hS : va_S A H0 H locs) (hw : w < 2) (hlink : (Cond.fieldLink own index "MailDen$World" "restartCount" "I").before args s = true) {x : Int32} (hdg : decode cc pc = .ok (.putfield index, 3)) (kk : ∀ (H1 : Heap) (locs1 : List Loc), Pic D ad cI cZ cP w G (pt V 0 0 16 x) U H1 → va_S A H0 H1 locs1 → W p l e R s m args below meth c H1 locs1 0 0 Q (F0 m (pc + 3) ls (rest))) : W p l e R s m args below meth c H locs 0 0 Q (F0 m pc ls (.int x :: .ref (ad w 0 0) :: rest)) :=
  mpV hx hb htm hown hE hP hS hw (k := 0) (i := 0) (g := upd (V 0 0) 16 x) (by decide) (by decide) rfl rfl ic_wsU5 tyX5 tyX5_ok nmX5 16 (by decide) hlink rfl (ty := .int) rfl rfl rfl (show (16 : Nat) < 17 from by decide) rfl hdg kk
theorem al_1 (hx : p.tables.exec = Jvm.exec) (hb : c.code = cc) (htm : ∀ x ∈ WM, x.before args s = true) (hown : s.vm.findClass own = some m.cls) (hE : DEnv D ad cI cZ cP A s) (hP : Pic D ad cI cZ cP w G V U H) (hw : w < 2) {x : Int32} (hin : vp_in x 4) (hdg : decode cc pc = .ok (.iaload, 1)) (kk : W p l e R s m args below meth c H locs 0 0 Q (F0 m (pc + 1) ls (.int (V 1 0 x.toNatClampNeg) :: rest))) : W p l e R s m args below meth c H locs 0 0 Q (F0 m pc ls (.int x :: .ref (ad w 1 0) :: rest)) :=
  malV hx hb htm hown hE hP hw (k := 1) (i := 0) (by decide) (by decide) rfl hin hdg kk
theorem as_1 (hx : p.tables.exec = Jvm.exec) (hb : c.code = cc) (htm : ∀ x ∈ WM, x.before args s = true) (hown : s.vm.findClass own = some m.cls) (hE : DEnv D ad cI cZ cP A s) (hP : Pic D ad cI cZ cP w G V U H) (hS : va_S A H0 H locs) (hw : w < 2) {x y : Int32} (hin : vp_in x 4) (hdg : decode cc pc = .ok (.iastore, 1)) (kk : ∀ (H1 : Heap) (locs1 : List Loc), Pic D ad cI cZ cP w G (pt V 1 0 x.toNatClampNeg y) U H1 → va_S A H0 H1 locs1 → W p l e R s m args below meth c H1 locs1 0 0 Q (F0 m (pc + 1) ls (rest))) : W p l e R s m args below meth c H locs 0 0 Q (F0 m pc ls (.int y :: .int x :: .ref (ad w 1 0) :: rest)) :=
  masV hx hb htm hown hE hP hS hw (k := 1) (i := 0) (by decide) (by decide) (fun _ => rfl) hin hdg kk
theorem al_2 (hx : p.tables.exec = Jvm.exec) (hb : c.code = cc) (htm : ∀ x ∈ WM, x.before args s = true) (hown : s.vm.findClass own = some m.cls) (hE : DEnv D ad cI cZ cP A s) (hP : Pic D ad cI cZ cP w G V U H) (hw : w < 2) {x : Int32} (hin : vp_in x 4) (hdg : decode cc pc = .ok (.iaload, 1)) (kk : W p l e R s m args below meth c H locs 0 0 Q (F0 m (pc + 1) ls (.int (V 2 0 x.toNatClampNeg) :: rest))) : W p l e R s m args below meth c H locs 0 0 Q (F0 m pc ls (.int x :: .ref (ad w 2 0) :: rest)) :=
  malV hx hb htm hown hE hP hw (k := 2) (i := 0) (by decide) (by decide) rfl hin hdg kk
theorem as_2 (hx : p.tables.exec = Jvm.exec) (hb : c.code = cc) (htm : ∀ x ∈ WM, x.before args s = true) (hown : s.vm.findClass own = some m.cls) (hE : DEnv D ad cI cZ cP A s) (hP : Pic D ad cI cZ cP w G V U H) (hS : va_S A H0 H locs) (hw : w < 2) {x y : Int32} (hin : vp_in x 4) (hdg : decode cc pc = .ok (.iastore, 1)) (kk : ∀ (H1 : Heap) (locs1 : List Loc), Pic D ad cI cZ cP w G (pt V 2 0 x.toNatClampNeg y) U H1 → va_S A H0 H1 locs1 → W p l e R s m args below meth c H1 locs1 0 0 Q (F0 m (pc + 1) ls (rest))) : W p l e R s m args below meth c H locs 0 0 Q (F0 m pc ls (.int y :: .int x :: .ref (ad w 2 0) :: rest)) :=
  masV hx hb htm hown hE hP hS hw (k := 2) (i := 0) (by decide) (by decide) (fun _ => rfl) hin hdg kk
theorem al_4 (hx : p.tables.exec = Jvm.exec) (hb : c.code = cc) (htm : ∀ x ∈ WM, x.before args s = true) (hown : s.vm.findClass own = some m.cls) (hE : DEnv D ad cI cZ cP A s) (hP : Pic D ad cI cZ cP w G V U H) (hw : w < 2) {x : Int32} (hin : vp_in x 24) (hdg : decode cc pc = .ok (.iaload, 1)) (kk : W p l e R s m args below meth c H locs 0 0 Q (F0 m (pc + 1) ls (.int (V 4 0 x.toNatClampNeg) :: rest))) : W p l e R s m args below meth c H locs 0 0 Q (F0 m pc ls (.int x :: .ref (ad w 4 0) :: rest)) :=
  malV hx hb htm hown hE hP hw (k := 4) (i := 0) (by decide) (by decide) rfl hin hdg kk
theorem as_4 (hx : p.tables.exec = Jvm.exec) (hb : c.code = cc) (htm : ∀ x ∈ WM, x.before args s = true) (hown : s.vm.findClass own = some m.cls) (hE : DEnv D ad cI cZ cP A s) (hP : Pic D ad cI cZ cP w G V U H) (hS : va_S A H0 H locs) (hw : w < 2) {x y : Int32} (hin : vp_in x 24) (hdg : decode cc pc = .ok (.iastore, 1)) (kk : ∀ (H1 : Heap) (locs1 : List Loc), Pic D ad cI cZ cP w G (pt V 4 0 x.toNatClampNeg y) U H1 → va_S A H0 H1 locs1 → W p l e R s m args below meth c H1 locs1 0 0 Q (F0 m (pc + 1) ls (rest))) : W p l e R s m args below meth c H locs 0 0 Q (F0 m pc ls (.int y :: .int x :: .ref (ad w 4 0) :: rest)) :=
  masV hx hb htm hown hE hP hS hw (k := 4) (i := 0) (by decide) (by decide) (fun _ => rfl) hin hdg kk
theorem al_5 (hx : p.tables.exec = Jvm.exec) (hb : c.code = cc) (htm : ∀ x ∈ WM, x.before args s = true) (hown : s.vm.findClass own = some m.cls) (hE : DEnv D ad cI cZ cP A s) (hP : Pic D ad cI cZ cP w G V U H) (hw : w < 2) {x : Int32} (hin : vp_in x 48) (hdg : decode cc pc = .ok (.iaload, 1)) (kk : W p l e R s m args below meth c H locs 0 0 Q (F0 m (pc + 1) ls (.int (V 5 0 x.toNatClampNeg) :: rest))) : W p l e R s m args below meth c H locs 0 0 Q (F0 m pc ls (.int x :: .ref (ad w 5 0) :: rest)) :=
  malV hx hb htm hown hE hP hw (k := 5) (i := 0) (by decide) (by decide) rfl hin hdg kk
theorem as_5 (hx : p.tables.exec = Jvm.exec) (hb : c.code = cc) (htm : ∀ x ∈ WM, x.before args s = true) (hown : s.vm.findClass own = some m.cls) (hE : DEnv D ad cI cZ cP A s) (hP : Pic D ad cI cZ cP w G V U H) (hS : va_S A H0 H locs) (hw : w < 2) {x y : Int32} (hin : vp_in x 48) (hdg : decode cc pc = .ok (.iastore, 1)) (kk : ∀ (H1 : Heap) (locs1 : List Loc), Pic D ad cI cZ cP w G (pt V 5 0 x.toNatClampNeg y) U H1 → va_S A H0 H1 locs1 → W p l e R s m args below meth c H1 locs1 0 0 Q (F0 m (pc + 1) ls (rest))) : W p l e R s m args below meth c H locs 0 0 Q (F0 m pc ls (.int y :: .int x :: .ref (ad w 5 0) :: rest)) :=
  masV hx hb htm hown hE hP hS hw (k := 5) (i := 0) (by decide) (by decide) (fun _ => rfl) hin hdg kk
theorem al_6 (hx : p.tables.exec = Jvm.exec) (hb : c.code = cc) (htm : ∀ x ∈ WM, x.before args s = true) (hown : s.vm.findClass own = some m.cls) (hE : DEnv D ad cI cZ cP A s) (hP : Pic D ad cI cZ cP w G V U H) (hw : w < 2) {x : Int32} (hin : vp_in x 48) (hdg : decode cc pc = .ok (.iaload, 1)) (kk : W p l e R s m args below meth c H locs 0 0 Q (F0 m (pc + 1) ls (.int (V 6 0 x.toNatClampNeg) :: rest))) : W p l e R s m args below meth c H locs 0 0 Q (F0 m pc ls (.int x :: .ref (ad w 6 0) :: rest)) :=
  malV hx hb htm hown hE hP hw (k := 6) (i := 0) (by decide) (by decide) rfl hin hdg kk
theorem as_6 (hx : p.tables.exec = Jvm.exec) (hb : c.code = cc) (htm : ∀ x ∈ WM, x.before args s = true) (hown : s.vm.findClass own = some m.cls) (hE : DEnv D ad cI cZ cP A s) (hP : Pic D ad cI cZ cP w G V U H) (hS : va_S A H0 H locs) (hw : w < 2) {x y : Int32} (hin : vp_in x 48) (hdg : decode cc pc = .ok (.iastore, 1)) (kk : ∀ (H1 : Heap) (locs1 : List Loc), Pic D ad cI cZ cP w G (pt V 6 0 x.toNatClampNeg y) U H1 → va_S A H0 H1 locs1 → W p l e R s m args below meth c H1 locs1 0 0 Q (F0 m (pc + 1) ls (rest))) : W p l e R s m args below meth c H locs 0 0 Q (F0 m pc ls (.int y :: .int x :: .ref (ad w 6 0) :: rest)) :=
  masV hx hb htm hown hE hP hS hw (k := 6) (i := 0) (by decide) (by decide) (fun _ => rfl) hin hdg kk
theorem gf_7_0 (hx : p.tables.exec = Jvm.exec) (hb : c.code = cc) (htm : ∀ x ∈ WM, x.before args s = true) (hown : s.vm.findClass own = some m.cls) (hE : DEnv D ad cI cZ cP A s) (hP : Pic D ad cI cZ cP w G V U H) (hw : w < 2) {i : Nat} (hi : i < 24) (hlink : (Cond.fieldLink own index "MailDen$Proc" "number" "I").before args s = true) (hdg : decode cc pc = .ok (.getfield index, 3)) (kk : W p l e R s m args below meth c H locs 0 0 Q (F0 m (pc + 3) ls (.int (nI i) :: rest))) : W p l e R s m args below meth c H locs 0 0 Q (F0 m pc ls (.ref (ad w 7 i) :: rest)) :=
  mgV hx hb htm hown hE hP hw (k := 7) (i := i) (by decide) hi rfl rfl ic_wsU2 0 (by decide) hlink rfl hdg kk
theorem gf_7_1 (hx : p.tables.exec = Jvm.exec) (hb : c.code = cc) (htm : ∀ x ∈ WM, x.before args s = true) (hown : s.vm.findClass own = some m.cls) (hE : DEnv D ad cI cZ cP A s) (hP : Pic D ad cI cZ cP w G V U H) (hw : w < 2) {i : Nat} (hi : i < 24) (hlink : (Cond.fieldLink own index "MailDen$Proc" "module" "I").before args s = true) (hdg : decode cc pc = .ok (.getfield index, 3)) (kk : W p l e R s m args below meth c H locs 0 0 Q (F0 m (pc + 3) ls (.int (V 7 i 1) :: rest))) : W p l e R s m args below meth c H locs 0 0 Q (F0 m pc ls (.ref (ad w 7 i) :: rest)) :=
  mgV hx hb htm hown hE hP hw (k := 7) (i := i) (by decide) hi rfl rfl ic_wsU2 1 (by decide) hlink rfl hdg kk
theorem pf_7_1 (hx : p.tables.exec = Jvm.exec) (hb : c.code = cc) (htm : ∀ x ∈ WM, x.before args s = true) (hown : s.vm.findClass own = some m.cls) (hE : DEnv D ad cI cZ cP A s) (hP : Pic D ad cI cZ cP w G V U H) (hS : va_S A H0 H locs) (hw : w < 2) {i : Nat} (hi : i < 24) (hlink : (Cond.fieldLink own index "MailDen$Proc" "module" "I").before args s = true) {x : Int32} (hdg : decode cc pc = .ok (.putfield index, 3)) (kk : ∀ (H1 : Heap) (locs1 : List Loc), Pic D ad cI cZ cP w G (pt V 7 i 1 x) U H1 → va_S A H0 H1 locs1 → W p l e R s m args below meth c H1 locs1 0 0 Q (F0 m (pc + 3) ls (rest))) : W p l e R s m args below meth c H locs 0 0 Q (F0 m pc ls (.int x :: .ref (ad w 7 i) :: rest)) :=
  mpV hx hb htm hown hE hP hS hw (k := 7) (i := i) (g := upd (V 7 i) 1 x) (by decide) hi rfl rfl ic_wsU2 tyX2 tyX2_ok nmX2 1 (by decide) hlink rfl (ty := .int) rfl rfl rfl (show (1 : Nat) < 19 from by decide) rfl hdg kk
theorem gf_7_2 (hx : p.tables.exec = Jvm.exec) (hb : c.code = cc) (htm : ∀ x ∈ WM, x.before args s = true) (hown : s.vm.findClass own = some m.cls) (hE : DEnv D ad cI cZ cP A s) (hP : Pic D ad cI cZ cP w G V U H) (hw : w < 2) {i : Nat} (hi : i < 24) (hlink : (Cond.fieldLink own index "MailDen$Proc" "version" "I").before args s = true) (hdg : decode cc pc = .ok (.getfield index, 3)) (kk : W p l e R s m args below meth c H locs 0 0 Q (F0 m (pc + 3) ls (.int (V 7 i 2) :: rest))) : W p l e R s m args below meth c H locs 0 0 Q (F0 m pc ls (.ref (ad w 7 i) :: rest)) :=
  mgV hx hb htm hown hE hP hw (k := 7) (i := i) (by decide) hi rfl rfl ic_wsU2 2 (by decide) hlink rfl hdg kk
theorem pf_7_2 (hx : p.tables.exec = Jvm.exec) (hb : c.code = cc) (htm : ∀ x ∈ WM, x.before args s = true) (hown : s.vm.findClass own = some m.cls) (hE : DEnv D ad cI cZ cP A s) (hP : Pic D ad cI cZ cP w G V U H) (hS : va_S A H0 H locs) (hw : w < 2) {i : Nat} (hi : i < 24) (hlink : (Cond.fieldLink own index "MailDen$Proc" "version" "I").before args s = true) {x : Int32} (hdg : decode cc pc = .ok (.putfield index, 3)) (kk : ∀ (H1 : Heap) (locs1 : List Loc), Pic D ad cI cZ cP w G (pt V 7 i 2 x) U H1 → va_S A H0 H1 locs1 → W p l e R s m args below meth c H1 locs1 0 0 Q (F0 m (pc + 3) ls (rest))) : W p l e R s m args below meth c H locs 0 0 Q (F0 m pc ls (.int x :: .ref (ad w 7 i) :: rest)) :=
  mpV hx hb htm hown hE hP hS hw (k := 7) (i := i) (g := upd (V 7 i) 2 x) (by decide) hi rfl rfl ic_wsU2 tyX2 tyX2_ok nmX2 2 (by decide) hlink rfl (ty := .int) rfl rfl rfl (show (2 : Nat) < 19 from by decide) rfl hdg kk
theorem gf_7_3 (hx : p.tables.exec = Jvm.exec) (hb : c.code = cc) (htm : ∀ x ∈ WM, x.before args s = true) (hown : s.vm.findClass own = some m.cls) (hE : DEnv D ad cI cZ cP A s) (hP : Pic D ad cI cZ cP w G V U H) (hw : w < 2) {i : Nat} (hi : i < 24) (hlink : (Cond.fieldLink own index "MailDen$Proc" "spec" "I").before args s = true) (hdg : decode cc pc = .ok (.getfield index, 3)) (kk : W p l e R s m args below meth c H locs 0 0 Q (F0 m (pc + 3) ls (.int (V 7 i 3) :: rest))) : W p l e R s m args below meth c H locs 0 0 Q (F0 m pc ls (.ref (ad w 7 i) :: rest)) :=
  mgV hx hb htm hown hE hP hw (k := 7) (i := i) (by decide) hi rfl rfl ic_wsU2 3 (by decide) hlink rfl hdg kk
theorem pf_7_3 (hx : p.tables.exec = Jvm.exec) (hb : c.code = cc) (htm : ∀ x ∈ WM, x.before args s = true) (hown : s.vm.findClass own = some m.cls) (hE : DEnv D ad cI cZ cP A s) (hP : Pic D ad cI cZ cP w G V U H) (hS : va_S A H0 H locs) (hw : w < 2) {i : Nat} (hi : i < 24) (hlink : (Cond.fieldLink own index "MailDen$Proc" "spec" "I").before args s = true) {x : Int32} (hdg : decode cc pc = .ok (.putfield index, 3)) (kk : ∀ (H1 : Heap) (locs1 : List Loc), Pic D ad cI cZ cP w G (pt V 7 i 3 x) U H1 → va_S A H0 H1 locs1 → W p l e R s m args below meth c H1 locs1 0 0 Q (F0 m (pc + 3) ls (rest))) : W p l e R s m args below meth c H locs 0 0 Q (F0 m pc ls (.int x :: .ref (ad w 7 i) :: rest)) :=
  mpV hx hb htm hown hE hP hS hw (k := 7) (i := i) (g := upd (V 7 i) 3 x) (by decide) hi rfl rfl ic_wsU2 tyX2 tyX2_ok nmX2 3 (by decide) hlink rfl (ty := .int) rfl rfl rfl (show (3 : Nat) < 19 from by decide) rfl hdg kk
theorem gf_7_4 (hx : p.tables.exec = Jvm.exec) (hb : c.code = cc) (htm : ∀ x ∈ WM, x.before args s = true) (hown : s.vm.findClass own = some m.cls) (hE : DEnv D ad cI cZ cP A s) (hP : Pic D ad cI cZ cP w G V U H) (hw : w < 2) {i : Nat} (hi : i < 24) (hlink : (Cond.fieldLink own index "MailDen$Proc" "parent" "I").before args s = true) (hdg : decode cc pc = .ok (.getfield index, 3)) (kk : W p l e R s m args below meth c H locs 0 0 Q (F0 m (pc + 3) ls (.int (V 7 i 4) :: rest))) : W p l e R s m args below meth c H locs 0 0 Q (F0 m pc ls (.ref (ad w 7 i) :: rest)) :=
  mgV hx hb htm hown hE hP hw (k := 7) (i := i) (by decide) hi rfl rfl ic_wsU2 4 (by decide) hlink rfl hdg kk
theorem pf_7_4 (hx : p.tables.exec = Jvm.exec) (hb : c.code = cc) (htm : ∀ x ∈ WM, x.before args s = true) (hown : s.vm.findClass own = some m.cls) (hE : DEnv D ad cI cZ cP A s) (hP : Pic D ad cI cZ cP w G V U H) (hS : va_S A H0 H locs) (hw : w < 2) {i : Nat} (hi : i < 24) (hlink : (Cond.fieldLink own index "MailDen$Proc" "parent" "I").before args s = true) {x : Int32} (hdg : decode cc pc = .ok (.putfield index, 3)) (kk : ∀ (H1 : Heap) (locs1 : List Loc), Pic D ad cI cZ cP w G (pt V 7 i 4 x) U H1 → va_S A H0 H1 locs1 → W p l e R s m args below meth c H1 locs1 0 0 Q (F0 m (pc + 3) ls (rest))) : W p l e R s m args below meth c H locs 0 0 Q (F0 m pc ls (.int x :: .ref (ad w 7 i) :: rest)) :=
  mpV hx hb htm hown hE hP hS hw (k := 7) (i := i) (g := upd (V 7 i) 4 x) (by decide) hi rfl rfl ic_wsU2 tyX2 tyX2_ok nmX2 4 (by decide) hlink rfl (ty := .int) rfl rfl rfl (show (4 : Nat) < 19 from by decide) rfl hdg kk
theorem gf_7_5 (hx : p.tables.exec = Jvm.exec) (hb : c.code = cc) (htm : ∀ x ∈ WM, x.before args s = true) (hown : s.vm.findClass own = some m.cls) (hE : DEnv D ad cI cZ cP A s) (hP : Pic D ad cI cZ cP w G V U H) (hw : w < 2) {i : Nat} (hi : i < 24) (hlink : (Cond.fieldLink own index "MailDen$Proc" "status" "I").before args s = true) (hdg : decode cc pc = .ok (.getfield index, 3)) (kk : W p l e R s m args below meth c H locs 0 0 Q (F0 m (pc + 3) ls (.int (V 7 i 5) :: rest))) : W p l e R s m args below meth c H locs 0 0 Q (F0 m pc ls (.ref (ad w 7 i) :: rest)) :=
  mgV hx hb htm hown hE hP hw (k := 7) (i := i) (by decide) hi rfl rfl ic_wsU2 5 (by decide) hlink rfl hdg kk
theorem pf_7_5 (hx : p.tables.exec = Jvm.exec) (hb : c.code = cc) (htm : ∀ x ∈ WM, x.before args s = true) (hown : s.vm.findClass own = some m.cls) (hE : DEnv D ad cI cZ cP A s) (hP : Pic D ad cI cZ cP w G V U H) (hS : va_S A H0 H locs) (hw : w < 2) {i : Nat} (hi : i < 24) (hlink : (Cond.fieldLink own index "MailDen$Proc" "status" "I").before args s = true) {x : Int32} (hdg : decode cc pc = .ok (.putfield index, 3)) (kk : ∀ (H1 : Heap) (locs1 : List Loc), Pic D ad cI cZ cP w G (pt V 7 i 5 x) U H1 → va_S A H0 H1 locs1 → W p l e R s m args below meth c H1 locs1 0 0 Q (F0 m (pc + 3) ls (rest))) : W p l e R s m args below meth c H locs 0 0 Q (F0 m pc ls (.int x :: .ref (ad w 7 i) :: rest)) :=
  mpV hx hb htm hown hE hP hS hw (k := 7) (i := i) (g := upd (V 7 i) 5 x) (by decide) hi rfl rfl ic_wsU2 tyX2 tyX2_ok nmX2 5 (by decide) hlink rfl (ty := .int) rfl rfl rfl (show (5 : Nat) < 19 from by decide) rfl hdg kk
theorem gf_7_6 (hx : p.tables.exec = Jvm.exec) (hb : c.code = cc) (htm : ∀ x ∈ WM, x.before args s = true) (hown : s.vm.findClass own = some m.cls) (hE : DEnv D ad cI cZ cP A s) (hP : Pic D ad cI cZ cP w G V U H) (hw : w < 2) {i : Nat} (hi : i < 24) (hlink : (Cond.fieldLink own index "MailDen$Proc" "reason" "I").before args s = true) (hdg : decode cc pc = .ok (.getfield index, 3)) (kk : W p l e R s m args below meth c H locs 0 0 Q (F0 m (pc + 3) ls (.int (V 7 i 6) :: rest))) : W p l e R s m args below meth c H locs 0 0 Q (F0 m pc ls (.ref (ad w 7 i) :: rest)) :=
  mgV hx hb htm hown hE hP hw (k := 7) (i := i) (by decide) hi rfl rfl ic_wsU2 6 (by decide) hlink rfl hdg kk
theorem pf_7_6 (hx : p.tables.exec = Jvm.exec) (hb : c.code = cc) (htm : ∀ x ∈ WM, x.before args s = true) (hown : s.vm.findClass own = some m.cls) (hE : DEnv D ad cI cZ cP A s) (hP : Pic D ad cI cZ cP w G V U H) (hS : va_S A H0 H locs) (hw : w < 2) {i : Nat} (hi : i < 24) (hlink : (Cond.fieldLink own index "MailDen$Proc" "reason" "I").before args s = true) {x : Int32} (hdg : decode cc pc = .ok (.putfield index, 3)) (kk : ∀ (H1 : Heap) (locs1 : List Loc), Pic D ad cI cZ cP w G (pt V 7 i 6 x) U H1 → va_S A H0 H1 locs1 → W p l e R s m args below meth c H1 locs1 0 0 Q (F0 m (pc + 3) ls (rest))) : W p l e R s m args below meth c H locs 0 0 Q (F0 m pc ls (.int x :: .ref (ad w 7 i) :: rest)) :=
  mpV hx hb htm hown hE hP hS hw (k := 7) (i := i) (g := upd (V 7 i) 6 x) (by decide) hi rfl rfl ic_wsU2 tyX2 tyX2_ok nmX2 6 (by decide) hlink rfl (ty := .int) rfl rfl rfl (show (6 : Nat) < 19 from by decide) rfl hdg kk
theorem gf_7_7 (hx : p.tables.exec = Jvm.exec) (hb : c.code = cc) (htm : ∀ x ∈ WM, x.before args s = true) (hown : s.vm.findClass own = some m.cls) (hE : DEnv D ad cI cZ cP A s) (hP : Pic D ad cI cZ cP w G V U H) (hw : w < 2) {i : Nat} (hi : i < 24) (hlink : (Cond.fieldLink own index "MailDen$Proc" "there" "I").before args s = true) (hdg : decode cc pc = .ok (.getfield index, 3)) (kk : W p l e R s m args below meth c H locs 0 0 Q (F0 m (pc + 3) ls (.int (V 7 i 7) :: rest))) : W p l e R s m args below meth c H locs 0 0 Q (F0 m pc ls (.ref (ad w 7 i) :: rest)) :=
  mgV hx hb htm hown hE hP hw (k := 7) (i := i) (by decide) hi rfl rfl ic_wsU2 7 (by decide) hlink rfl hdg kk
theorem pf_7_7 (hx : p.tables.exec = Jvm.exec) (hb : c.code = cc) (htm : ∀ x ∈ WM, x.before args s = true) (hown : s.vm.findClass own = some m.cls) (hE : DEnv D ad cI cZ cP A s) (hP : Pic D ad cI cZ cP w G V U H) (hS : va_S A H0 H locs) (hw : w < 2) {i : Nat} (hi : i < 24) (hlink : (Cond.fieldLink own index "MailDen$Proc" "there" "I").before args s = true) {x : Int32} (hdg : decode cc pc = .ok (.putfield index, 3)) (kk : ∀ (H1 : Heap) (locs1 : List Loc), Pic D ad cI cZ cP w G (pt V 7 i 7 x) U H1 → va_S A H0 H1 locs1 → W p l e R s m args below meth c H1 locs1 0 0 Q (F0 m (pc + 3) ls (rest))) : W p l e R s m args below meth c H locs 0 0 Q (F0 m pc ls (.int x :: .ref (ad w 7 i) :: rest)) :=
  mpV hx hb htm hown hE hP hS hw (k := 7) (i := i) (g := upd (V 7 i) 7 x) (by decide) hi rfl rfl ic_wsU2 tyX2 tyX2_ok nmX2 7 (by decide) hlink rfl (ty := .int) rfl rfl rfl (show (7 : Nat) < 19 from by decide) rfl hdg kk
theorem gf_7_8 (hx : p.tables.exec = Jvm.exec) (hb : c.code = cc) (htm : ∀ x ∈ WM, x.before args s = true) (hown : s.vm.findClass own = some m.cls) (hE : DEnv D ad cI cZ cP A s) (hP : Pic D ad cI cZ cP w G V U H) (hw : w < 2) {i : Nat} (hi : i < 24) (hlink : (Cond.fieldLink own index "MailDen$Proc" "line" "I").before args s = true) (hdg : decode cc pc = .ok (.getfield index, 3)) (kk : W p l e R s m args below meth c H locs 0 0 Q (F0 m (pc + 3) ls (.int (V 7 i 8) :: rest))) : W p l e R s m args below meth c H locs 0 0 Q (F0 m pc ls (.ref (ad w 7 i) :: rest)) :=
  mgV hx hb htm hown hE hP hw (k := 7) (i := i) (by decide) hi rfl rfl ic_wsU2 8 (by decide) hlink rfl hdg kk
theorem pf_7_8 (hx : p.tables.exec = Jvm.exec) (hb : c.code = cc) (htm : ∀ x ∈ WM, x.before args s = true) (hown : s.vm.findClass own = some m.cls) (hE : DEnv D ad cI cZ cP A s) (hP : Pic D ad cI cZ cP w G V U H) (hS : va_S A H0 H locs) (hw : w < 2) {i : Nat} (hi : i < 24) (hlink : (Cond.fieldLink own index "MailDen$Proc" "line" "I").before args s = true) {x : Int32} (hdg : decode cc pc = .ok (.putfield index, 3)) (kk : ∀ (H1 : Heap) (locs1 : List Loc), Pic D ad cI cZ cP w G (pt V 7 i 8 x) U H1 → va_S A H0 H1 locs1 → W p l e R s m args below meth c H1 locs1 0 0 Q (F0 m (pc + 3) ls (rest))) : W p l e R s m args below meth c H locs 0 0 Q (F0 m pc ls (.int x :: .ref (ad w 7 i) :: rest)) :=
  mpV hx hb htm hown hE hP hS hw (k := 7) (i := i) (g := upd (V 7 i) 8 x) (by decide) hi rfl rfl ic_wsU2 tyX2 tyX2_ok nmX2 8 (by decide) hlink rfl (ty := .int) rfl rfl rfl (show (8 : Nat) < 19 from by decide) rfl hdg kk
theorem gf_7_9 (hx : p.tables.exec = Jvm.exec) (hb : c.code = cc) (htm : ∀ x ∈ WM, x.before args s = true) (hown : s.vm.findClass own = some m.cls) (hE : DEnv D ad cI cZ cP A s) (hP : Pic D ad cI cZ cP w G V U H) (hw : w < 2) {i : Nat} (hi : i < 24) (hlink : (Cond.fieldLink own index "MailDen$Proc" "until" "I").before args s = true) (hdg : decode cc pc = .ok (.getfield index, 3)) (kk : W p l e R s m args below meth c H locs 0 0 Q (F0 m (pc + 3) ls (.int (V 7 i 9) :: rest))) : W p l e R s m args below meth c H locs 0 0 Q (F0 m pc ls (.ref (ad w 7 i) :: rest)) :=
  mgV hx hb htm hown hE hP hw (k := 7) (i := i) (by decide) hi rfl rfl ic_wsU2 9 (by decide) hlink rfl hdg kk
theorem pf_7_9 (hx : p.tables.exec = Jvm.exec) (hb : c.code = cc) (htm : ∀ x ∈ WM, x.before args s = true) (hown : s.vm.findClass own = some m.cls) (hE : DEnv D ad cI cZ cP A s) (hP : Pic D ad cI cZ cP w G V U H) (hS : va_S A H0 H locs) (hw : w < 2) {i : Nat} (hi : i < 24) (hlink : (Cond.fieldLink own index "MailDen$Proc" "until" "I").before args s = true) {x : Int32} (hdg : decode cc pc = .ok (.putfield index, 3)) (kk : ∀ (H1 : Heap) (locs1 : List Loc), Pic D ad cI cZ cP w G (pt V 7 i 9 x) U H1 → va_S A H0 H1 locs1 → W p l e R s m args below meth c H1 locs1 0 0 Q (F0 m (pc + 3) ls (rest))) : W p l e R s m args below meth c H locs 0 0 Q (F0 m pc ls (.int x :: .ref (ad w 7 i) :: rest)) :=
  mpV hx hb htm hown hE hP hS hw (k := 7) (i := i) (g := upd (V 7 i) 9 x) (by decide) hi rfl rfl ic_wsU2 tyX2 tyX2_ok nmX2 9 (by decide) hlink rfl (ty := .int) rfl rfl rfl (show (9 : Nat) < 19 from by decide) rfl hdg kk
theorem gf_7_10 (hx : p.tables.exec = Jvm.exec) (hb : c.code = cc) (htm : ∀ x ∈ WM, x.before args s = true) (hown : s.vm.findClass own = some m.cls) (hE : DEnv D ad cI cZ cP A s) (hP : Pic D ad cI cZ cP w G V U H) (hw : w < 2) {i : Nat} (hi : i < 24) (hlink : (Cond.fieldLink own index "MailDen$Proc" "wait" "I").before args s = true) (hdg : decode cc pc = .ok (.getfield index, 3)) (kk : W p l e R s m args below meth c H locs 0 0 Q (F0 m (pc + 3) ls (.int (V 7 i 10) :: rest))) : W p l e R s m args below meth c H locs 0 0 Q (F0 m pc ls (.ref (ad w 7 i) :: rest)) :=
  mgV hx hb htm hown hE hP hw (k := 7) (i := i) (by decide) hi rfl rfl ic_wsU2 10 (by decide) hlink rfl hdg kk
theorem pf_7_10 (hx : p.tables.exec = Jvm.exec) (hb : c.code = cc) (htm : ∀ x ∈ WM, x.before args s = true) (hown : s.vm.findClass own = some m.cls) (hE : DEnv D ad cI cZ cP A s) (hP : Pic D ad cI cZ cP w G V U H) (hS : va_S A H0 H locs) (hw : w < 2) {i : Nat} (hi : i < 24) (hlink : (Cond.fieldLink own index "MailDen$Proc" "wait" "I").before args s = true) {x : Int32} (hdg : decode cc pc = .ok (.putfield index, 3)) (kk : ∀ (H1 : Heap) (locs1 : List Loc), Pic D ad cI cZ cP w G (pt V 7 i 10 x) U H1 → va_S A H0 H1 locs1 → W p l e R s m args below meth c H1 locs1 0 0 Q (F0 m (pc + 3) ls (rest))) : W p l e R s m args below meth c H locs 0 0 Q (F0 m pc ls (.int x :: .ref (ad w 7 i) :: rest)) :=
  mpV hx hb htm hown hE hP hS hw (k := 7) (i := i) (g := upd (V 7 i) 10 x) (by decide) hi rfl rfl ic_wsU2 tyX2 tyX2_ok nmX2 10 (by decide) hlink rfl (ty := .int) rfl rfl rfl (show (10 : Nat) < 19 from by decide) rfl hdg kk
theorem gf_7_11 (hx : p.tables.exec = Jvm.exec) (hb : c.code = cc) (htm : ∀ x ∈ WM, x.before args s = true) (hown : s.vm.findClass own = some m.cls) (hE : DEnv D ad cI cZ cP A s) (hP : Pic D ad cI cZ cP w G V U H) (hw : w < 2) {i : Nat} (hi : i < 24) (hlink : (Cond.fieldLink own index "MailDen$Proc" "ticket" "I").before args s = true) (hdg : decode cc pc = .ok (.getfield index, 3)) (kk : W p l e R s m args below meth c H locs 0 0 Q (F0 m (pc + 3) ls (.int (V 7 i 11) :: rest))) : W p l e R s m args below meth c H locs 0 0 Q (F0 m pc ls (.ref (ad w 7 i) :: rest)) :=
  mgV hx hb htm hown hE hP hw (k := 7) (i := i) (by decide) hi rfl rfl ic_wsU2 11 (by decide) hlink rfl hdg kk
theorem pf_7_11 (hx : p.tables.exec = Jvm.exec) (hb : c.code = cc) (htm : ∀ x ∈ WM, x.before args s = true) (hown : s.vm.findClass own = some m.cls) (hE : DEnv D ad cI cZ cP A s) (hP : Pic D ad cI cZ cP w G V U H) (hS : va_S A H0 H locs) (hw : w < 2) {i : Nat} (hi : i < 24) (hlink : (Cond.fieldLink own index "MailDen$Proc" "ticket" "I").before args s = true) {x : Int32} (hdg : decode cc pc = .ok (.putfield index, 3)) (kk : ∀ (H1 : Heap) (locs1 : List Loc), Pic D ad cI cZ cP w G (pt V 7 i 11 x) U H1 → va_S A H0 H1 locs1 → W p l e R s m args below meth c H1 locs1 0 0 Q (F0 m (pc + 3) ls (rest))) : W p l e R s m args below meth c H locs 0 0 Q (F0 m pc ls (.int x :: .ref (ad w 7 i) :: rest)) :=
  mpV hx hb htm hown hE hP hS hw (k := 7) (i := i) (g := upd (V 7 i) 11 x) (by decide) hi rfl rfl ic_wsU2 tyX2 tyX2_ok nmX2 11 (by decide) hlink rfl (ty := .int) rfl rfl rfl (show (11 : Nat) < 19 from by decide) rfl hdg kk
theorem gf_7_12 (hx : p.tables.exec = Jvm.exec) (hb : c.code = cc) (htm : ∀ x ∈ WM, x.before args s = true) (hown : s.vm.findClass own = some m.cls) (hE : DEnv D ad cI cZ cP A s) (hP : Pic D ad cI cZ cP w G V U H) (hw : w < 2) {i : Nat} (hi : i < 24) (hlink : (Cond.fieldLink own index "MailDen$Proc" "traps" "Z").before args s = true) (hdg : decode cc pc = .ok (.getfield index, 3)) (kk : W p l e R s m args below meth c H locs 0 0 Q (F0 m (pc + 3) ls (.int (V 7 i 12) :: rest))) : W p l e R s m args below meth c H locs 0 0 Q (F0 m pc ls (.ref (ad w 7 i) :: rest)) :=
  mgV hx hb htm hown hE hP hw (k := 7) (i := i) (by decide) hi rfl rfl ic_wsU2 12 (by decide) hlink rfl hdg kk
theorem pf_7_12 (hx : p.tables.exec = Jvm.exec) (hb : c.code = cc) (htm : ∀ x ∈ WM, x.before args s = true) (hown : s.vm.findClass own = some m.cls) (hE : DEnv D ad cI cZ cP A s) (hP : Pic D ad cI cZ cP w G V U H) (hS : va_S A H0 H locs) (hw : w < 2) {i : Nat} (hi : i < 24) (hlink : (Cond.fieldLink own index "MailDen$Proc" "traps" "Z").before args s = true) {x : Int32} (hz : x = 0 ∨ x = 1) (hdg : decode cc pc = .ok (.putfield index, 3)) (kk : ∀ (H1 : Heap) (locs1 : List Loc), Pic D ad cI cZ cP w G (pt V 7 i 12 x) U H1 → va_S A H0 H1 locs1 → W p l e R s m args below meth c H1 locs1 0 0 Q (F0 m (pc + 3) ls (rest))) : W p l e R s m args below meth c H locs 0 0 Q (F0 m pc ls (.int x :: .ref (ad w 7 i) :: rest)) :=
  mpV hx hb htm hown hE hP hS hw (k := 7) (i := i) (g := upd (V 7 i) 12 x) (by decide) hi rfl rfl ic_wsU2 tyX2 tyX2_ok nmX2 12 (by decide) hlink rfl (ty := .boolean) rfl (by rcases hz with rfl | rfl <;> rfl) (by rcases hz with rfl | rfl <;> rfl) (show (12 : Nat) < 19 from by decide) rfl hdg kk
theorem gf_7_13 (hx : p.tables.exec = Jvm.exec) (hb : c.code = cc) (htm : ∀ x ∈ WM, x.before args s = true) (hown : s.vm.findClass own = some m.cls) (hE : DEnv D ad cI cZ cP A s) (hP : Pic D ad cI cZ cP w G V U H) (hw : w < 2) {i : Nat} (hi : i < 24) (hlink : (Cond.fieldLink own index "MailDen$Proc" "links" "I").before args s = true) (hdg : decode cc pc = .ok (.getfield index, 3)) (kk : W p l e R s m args below meth c H locs 0 0 Q (F0 m (pc + 3) ls (.int (V 7 i 13) :: rest))) : W p l e R s m args below meth c H locs 0 0 Q (F0 m pc ls (.ref (ad w 7 i) :: rest)) :=
  mgV hx hb htm hown hE hP hw (k := 7) (i := i) (by decide) hi rfl rfl ic_wsU2 13 (by decide) hlink rfl hdg kk
theorem pf_7_13 (hx : p.tables.exec = Jvm.exec) (hb : c.code = cc) (htm : ∀ x ∈ WM, x.before args s = true) (hown : s.vm.findClass own = some m.cls) (hE : DEnv D ad cI cZ cP A s) (hP : Pic D ad cI cZ cP w G V U H) (hS : va_S A H0 H locs) (hw : w < 2) {i : Nat} (hi : i < 24) (hlink : (Cond.fieldLink own index "MailDen$Proc" "links" "I").before args s = true) {x : Int32} (hdg : decode cc pc = .ok (.putfield index, 3)) (kk : ∀ (H1 : Heap) (locs1 : List Loc), Pic D ad cI cZ cP w G (pt V 7 i 13 x) U H1 → va_S A H0 H1 locs1 → W p l e R s m args below meth c H1 locs1 0 0 Q (F0 m (pc + 3) ls (rest))) : W p l e R s m args below meth c H locs 0 0 Q (F0 m pc ls (.int x :: .ref (ad w 7 i) :: rest)) :=
  mpV hx hb htm hown hE hP hS hw (k := 7) (i := i) (g := upd (V 7 i) 13 x) (by decide) hi rfl rfl ic_wsU2 tyX2 tyX2_ok nmX2 13 (by decide) hlink rfl (ty := .int) rfl rfl rfl (show (13 : Nat) < 19 from by decide) rfl hdg kk
theorem gf_7_14 (hx : p.tables.exec = Jvm.exec) (hb : c.code = cc) (htm : ∀ x ∈ WM, x.before args s = true) (hown : s.vm.findClass own = some m.cls) (hE : DEnv D ad cI cZ cP A s) (hP : Pic D ad cI cZ cP w G V U H) (hw : w < 2) {i : Nat} (hi : i < 24) (hlink : (Cond.fieldLink own index "MailDen$Proc" "emptyPlaces" "I").before args s = true) (hdg : decode cc pc = .ok (.getfield index, 3)) (kk : W p l e R s m args below meth c H locs 0 0 Q (F0 m (pc + 3) ls (.int (V 7 i 14) :: rest))) : W p l e R s m args below meth c H locs 0 0 Q (F0 m pc ls (.ref (ad w 7 i) :: rest)) :=
  mgV hx hb htm hown hE hP hw (k := 7) (i := i) (by decide) hi rfl rfl ic_wsU2 14 (by decide) hlink rfl hdg kk
theorem pf_7_14 (hx : p.tables.exec = Jvm.exec) (hb : c.code = cc) (htm : ∀ x ∈ WM, x.before args s = true) (hown : s.vm.findClass own = some m.cls) (hE : DEnv D ad cI cZ cP A s) (hP : Pic D ad cI cZ cP w G V U H) (hS : va_S A H0 H locs) (hw : w < 2) {i : Nat} (hi : i < 24) (hlink : (Cond.fieldLink own index "MailDen$Proc" "emptyPlaces" "I").before args s = true) {x : Int32} (hdg : decode cc pc = .ok (.putfield index, 3)) (kk : ∀ (H1 : Heap) (locs1 : List Loc), Pic D ad cI cZ cP w G (pt V 7 i 14 x) U H1 → va_S A H0 H1 locs1 → W p l e R s m args below meth c H1 locs1 0 0 Q (F0 m (pc + 3) ls (rest))) : W p l e R s m args below meth c H locs 0 0 Q (F0 m pc ls (.int x :: .ref (ad w 7 i) :: rest)) :=
  mpV hx hb htm hown hE hP hS hw (k := 7) (i := i) (g := upd (V 7 i) 14 x) (by decide) hi rfl rfl ic_wsU2 tyX2 tyX2_ok nmX2 14 (by decide) hlink rfl (ty := .int) rfl rfl rfl (show (14 : Nat) < 19 from by decide) rfl hdg kk
theorem gf_7_15 (hx : p.tables.exec = Jvm.exec) (hb : c.code = cc) (htm : ∀ x ∈ WM, x.before args s = true) (hown : s.vm.findClass own = some m.cls) (hE : DEnv D ad cI cZ cP A s) (hP : Pic D ad cI cZ cP w G V U H) (hw : w < 2) {i : Nat} (hi : i < 24) (hlink : (Cond.fieldLink own index "MailDen$Proc" "locals" "[I").before args s = true) (hdg : decode cc pc = .ok (.getfield index, 3)) (kk : W p l e R s m args below meth c H locs 0 0 Q (F0 m (pc + 3) ls (.ref (ad w 8 i) :: rest))) : W p l e R s m args below meth c H locs 0 0 Q (F0 m pc ls (.ref (ad w 7 i) :: rest)) :=
  mgV hx hb htm hown hE hP hw (k := 7) (i := i) (by decide) hi rfl rfl ic_wsU2 15 (by decide) hlink rfl hdg kk
theorem gf_7_16 (hx : p.tables.exec = Jvm.exec) (hb : c.code = cc) (htm : ∀ x ∈ WM, x.before args s = true) (hown : s.vm.findClass own = some m.cls) (hE : DEnv D ad cI cZ cP A s) (hP : Pic D ad cI cZ cP w G V U H) (hw : w < 2) {i : Nat} (hi : i < 24) (hlink : (Cond.fieldLink own index "MailDen$Proc" "children" "[I").before args s = true) (hdg : decode cc pc = .ok (.getfield index, 3)) (kk : W p l e R s m args below meth c H locs 0 0 Q (F0 m (pc + 3) ls (.ref (ad w 9 i) :: rest))) : W p l e R s m args below meth c H locs 0 0 Q (F0 m pc ls (.ref (ad w 7 i) :: rest)) :=
  mgV hx hb htm hown hE hP hw (k := 7) (i := i) (by decide) hi rfl rfl ic_wsU2 16 (by decide) hlink rfl hdg kk
theorem gf_7_17 (hx : p.tables.exec = Jvm.exec) (hb : c.code = cc) (htm : ∀ x ∈ WM, x.before args s = true) (hown : s.vm.findClass own = some m.cls) (hE : DEnv D ad cI cZ cP A s) (hP : Pic D ad cI cZ cP w G V U H) (hw : w < 2) {i : Nat} (hi : i < 24) (hlink : (Cond.fieldLink own index "MailDen$Proc" "box" "LMailDen$Box;").before args s = true) (hdg : decode cc pc = .ok (.getfield index, 3)) (kk : W p l e R s m args below meth c H locs 0 0 Q (F0 m (pc + 3) ls (.ref (ad w 10 i) :: rest))) : W p l e R s m args below meth c H locs 0 0 Q (F0 m pc ls (.ref (ad w 7 i) :: rest)) :=
  mgV hx hb htm hown hE hP hw (k := 7) (i := i) (by decide) hi rfl rfl ic_wsU2 17 (by decide) hlink rfl hdg kk
theorem gf_7_18 (hx : p.tables.exec = Jvm.exec) (hb : c.code = cc) (htm : ∀ x ∈ WM, x.before args s = true) (hown : s.vm.findClass own = some m.cls) (hE : DEnv D ad cI cZ cP A s) (hP : Pic D ad cI cZ cP w G V U H) (hw : w < 2) {i : Nat} (hi : i < 24) (hlink : (Cond.fieldLink own index "MailDen$Proc" "watches" "LMailDen$Watches;").before args s = true) (hdg : decode cc pc = .ok (.getfield index, 3)) (kk : W p l e R s m args below meth c H locs 0 0 Q (F0 m (pc + 3) ls (.ref (ad w 13 i) :: rest))) : W p l e R s m args below meth c H locs 0 0 Q (F0 m pc ls (.ref (ad w 7 i) :: rest)) :=
  mgV hx hb htm hown hE hP hw (k := 7) (i := i) (by decide) hi rfl rfl ic_wsU2 18 (by decide) hlink rfl hdg kk
theorem al_8 (hx : p.tables.exec = Jvm.exec) (hb : c.code = cc) (htm : ∀ x ∈ WM, x.before args s = true) (hown : s.vm.findClass own = some m.cls) (hE : DEnv D ad cI cZ cP A s) (hP : Pic D ad cI cZ cP w G V U H) (hw : w < 2) {i : Nat} (hi : i < 24) {x : Int32} (hin : vp_in x 4) (hdg : decode cc pc = .ok (.iaload, 1)) (kk : W p l e R s m args below meth c H locs 0 0 Q (F0 m (pc + 1) ls (.int (V 8 i x.toNatClampNeg) :: rest))) : W p l e R s m args below meth c H locs 0 0 Q (F0 m pc ls (.int x :: .ref (ad w 8 i) :: rest)) :=
  malV hx hb htm hown hE hP hw (k := 8) (i := i) (by decide) hi rfl hin hdg kk
theorem as_8 (hx : p.tables.exec = Jvm.exec) (hb : c.code = cc) (htm : ∀ x ∈ WM, x.before args s = true) (hown : s.vm.findClass own = some m.cls) (hE : DEnv D ad cI cZ cP A s) (hP : Pic D ad cI cZ cP w G V U H) (hS : va_S A H0 H locs) (hw : w < 2) {i : Nat} (hi : i < 24) {x y : Int32} (hin : vp_in x 4) (hdg : decode cc pc = .ok (.iastore, 1)) (kk : ∀ (H1 : Heap) (locs1 : List Loc), Pic D ad cI cZ cP w G (pt V 8 i x.toNatClampNeg y) U H1 → va_S A H0 H1 locs1 → W p l e R s m args below meth c H1 locs1 0 0 Q (F0 m (pc + 1) ls (rest))) : W p l e R s m args below meth c H locs 0 0 Q (F0 m pc ls (.int y :: .int x :: .ref (ad w 8 i) :: rest)) :=
  masV hx hb htm hown hE hP hS hw (k := 8) (i := i) (by decide) hi (fun _ => rfl) hin hdg kk
theorem al_9 (hx : p.tables.exec = Jvm.exec) (hb : c.code = cc) (htm : ∀ x ∈ WM, x.before args s = true) (hown : s.vm.findClass own = some m.cls) (hE : DEnv D ad cI cZ cP A s) (hP : Pic D ad cI cZ cP w G V U H) (hw : w < 2) {i : Nat} (hi : i < 24) {x : Int32} (hin : vp_in x 4) (hdg : decode cc pc = .ok (.iaload, 1)) (kk : W p l e R s m args below meth c H locs 0 0 Q (F0 m (pc + 1) ls (.int (V 9 i x.toNatClampNeg) :: rest))) : W p l e R s m args below meth c H locs 0 0 Q (F0 m pc ls (.int x :: .ref (ad w 9 i) :: rest)) :=
  malV hx hb htm hown hE hP hw (k := 9) (i := i) (by decide) hi rfl hin hdg kk
theorem as_9 (hx : p.tables.exec = Jvm.exec) (hb : c.code = cc) (htm : ∀ x ∈ WM, x.before args s = true) (hown : s.vm.findClass own = some m.cls) (hE : DEnv D ad cI cZ cP A s) (hP : Pic D ad cI cZ cP w G V U H) (hS : va_S A H0 H locs) (hw : w < 2) {i : Nat} (hi : i < 24) {x y : Int32} (hin : vp_in x 4) (hdg : decode cc pc = .ok (.iastore, 1)) (kk : ∀ (H1 : Heap) (locs1 : List Loc), Pic D ad cI cZ cP w G (pt V 9 i x.toNatClampNeg y) U H1 → va_S A H0 H1 locs1 → W p l e R s m args below meth c H1 locs1 0 0 Q (F0 m (pc + 1) ls (rest))) : W p l e R s m args below meth c H locs 0 0 Q (F0 m pc ls (.int y :: .int x :: .ref (ad w 9 i) :: rest)) :=
  masV hx hb htm hown hE hP hS hw (k := 9) (i := i) (by decide) hi (fun _ => rfl) hin hdg kk
theorem gf_10_0 (hx : p.tables.exec = Jvm.exec) (hb : c.code = cc) (htm : ∀ x ∈ WM, x.before args s = true) (hown : s.vm.findClass own = some m.cls) (hE : DEnv D ad cI cZ cP A s) (hP : Pic D ad cI cZ cP w G V U H) (hw : w < 2) {i : Nat} (hi : i < 24) (hlink : (Cond.fieldLink own index "MailDen$Box" "tags" "[I").before args s = true) (hdg : decode cc pc = .ok (.getfield index, 3)) (kk : W p l e R s m args below meth c H locs 0 0 Q (F0 m (pc + 3) ls (.ref (ad w 11 i) :: rest))) : W p l e R s m args below meth c H locs 0 0 Q (F0 m pc ls (.ref (ad w 10 i) :: rest)) :=
  mgV hx hb htm hown hE hP hw (k := 10) (i := i) (by decide) hi rfl rfl ic_wsU0 0 (by decide) hlink rfl hdg kk
theorem gf_10_1 (hx : p.tables.exec = Jvm.exec) (hb : c.code = cc) (htm : ∀ x ∈ WM, x.before args s = true) (hown : s.vm.findClass own = some m.cls) (hE : DEnv D ad cI cZ cP A s) (hP : Pic D ad cI cZ cP w G V U H) (hw : w < 2) {i : Nat} (hi : i < 24) (hlink : (Cond.fieldLink own index "MailDen$Box" "numbers" "[I").before args s = true) (hdg : decode cc pc = .ok (.getfield index, 3)) (kk : W p l e R s m args below meth c H locs 0 0 Q (F0 m (pc + 3) ls (.ref (ad w 12 i) :: rest))) : W p l e R s m args below meth c H locs 0 0 Q (F0 m pc ls (.ref (ad w 10 i) :: rest)) :=
  mgV hx hb htm hown hE hP hw (k := 10) (i := i) (by decide) hi rfl rfl ic_wsU0 1 (by decide) hlink rfl hdg kk
theorem gf_10_2 (hx : p.tables.exec = Jvm.exec) (hb : c.code = cc) (htm : ∀ x ∈ WM, x.before args s = true) (hown : s.vm.findClass own = some m.cls) (hE : DEnv D ad cI cZ cP A s) (hP : Pic D ad cI cZ cP w G V U H) (hw : w < 2) {i : Nat} (hi : i < 24) (hlink : (Cond.fieldLink own index "MailDen$Box" "count" "I").before args s = true) (hdg : decode cc pc = .ok (.getfield index, 3)) (kk : W p l e R s m args below meth c H locs 0 0 Q (F0 m (pc + 3) ls (.int (V 10 i 2) :: rest))) : W p l e R s m args below meth c H locs 0 0 Q (F0 m pc ls (.ref (ad w 10 i) :: rest)) :=
  mgV hx hb htm hown hE hP hw (k := 10) (i := i) (by decide) hi rfl rfl ic_wsU0 2 (by decide) hlink rfl hdg kk
theorem pf_10_2 (hx : p.tables.exec = Jvm.exec) (hb : c.code = cc) (htm : ∀ x ∈ WM, x.before args s = true) (hown : s.vm.findClass own = some m.cls) (hE : DEnv D ad cI cZ cP A s) (hP : Pic D ad cI cZ cP w G V U H) (hS : va_S A H0 H locs) (hw : w < 2) {i : Nat} (hi : i < 24) (hlink : (Cond.fieldLink own index "MailDen$Box" "count" "I").before args s = true) {x : Int32} (hdg : decode cc pc = .ok (.putfield index, 3)) (kk : ∀ (H1 : Heap) (locs1 : List Loc), Pic D ad cI cZ cP w G (pt V 10 i 2 x) U H1 → va_S A H0 H1 locs1 → W p l e R s m args below meth c H1 locs1 0 0 Q (F0 m (pc + 3) ls (rest))) : W p l e R s m args below meth c H locs 0 0 Q (F0 m pc ls (.int x :: .ref (ad w 10 i) :: rest)) :=
  mpV hx hb htm hown hE hP hS hw (k := 10) (i := i) (g := upd (V 10 i) 2 x) (by decide) hi rfl rfl ic_wsU0 tyX0 tyX0_ok nmX0 2 (by decide) hlink rfl (ty := .int) rfl rfl rfl (show (2 : Nat) < 3 from by decide) rfl hdg kk
theorem al_11 (hx : p.tables.exec = Jvm.exec) (hb : c.code = cc) (htm : ∀ x ∈ WM, x.before args s = true) (hown : s.vm.findClass own = some m.cls) (hE : DEnv D ad cI cZ cP A s) (hP : Pic D ad cI cZ cP w G V U H) (hw : w < 2) {i : Nat} (hi : i < 24) {x : Int32} (hin : vp_in x 8) (hdg : decode cc pc = .ok (.iaload, 1)) (kk : W p l e R s m args below meth c H locs 0 0 Q (F0 m (pc + 1) ls (.int (V 11 i x.toNatClampNeg) :: rest))) : W p l e R s m args below meth c H locs 0 0 Q (F0 m pc ls (.int x :: .ref (ad w 11 i) :: rest)) :=
  malV hx hb htm hown hE hP hw (k := 11) (i := i) (by decide) hi rfl hin hdg kk
theorem as_11 (hx : p.tables.exec = Jvm.exec) (hb : c.code = cc) (htm : ∀ x ∈ WM, x.before args s = true) (hown : s.vm.findClass own = some m.cls) (hE : DEnv D ad cI cZ cP A s) (hP : Pic D ad cI cZ cP w G V U H) (hS : va_S A H0 H locs) (hw : w < 2) {i : Nat} (hi : i < 24) {x y : Int32} (hin : vp_in x 8) (hdg : decode cc pc = .ok (.iastore, 1)) (kk : ∀ (H1 : Heap) (locs1 : List Loc), Pic D ad cI cZ cP w G (pt V 11 i x.toNatClampNeg y) U H1 → va_S A H0 H1 locs1 → W p l e R s m args below meth c H1 locs1 0 0 Q (F0 m (pc + 1) ls (rest))) : W p l e R s m args below meth c H locs 0 0 Q (F0 m pc ls (.int y :: .int x :: .ref (ad w 11 i) :: rest)) :=
  masV hx hb htm hown hE hP hS hw (k := 11) (i := i) (by decide) hi (fun _ => rfl) hin hdg kk
theorem al_12 (hx : p.tables.exec = Jvm.exec) (hb : c.code = cc) (htm : ∀ x ∈ WM, x.before args s = true) (hown : s.vm.findClass own = some m.cls) (hE : DEnv D ad cI cZ cP A s) (hP : Pic D ad cI cZ cP w G V U H) (hw : w < 2) {i : Nat} (hi : i < 24) {x : Int32} (hin : vp_in x 8) (hdg : decode cc pc = .ok (.iaload, 1)) (kk : W p l e R s m args below meth c H locs 0 0 Q (F0 m (pc + 1) ls (.int (V 12 i x.toNatClampNeg) :: rest))) : W p l e R s m args below meth c H locs 0 0 Q (F0 m pc ls (.int x :: .ref (ad w 12 i) :: rest)) :=
  malV hx hb htm hown hE hP hw (k := 12) (i := i) (by decide) hi rfl hin hdg kk
theorem as_12 (hx : p.tables.exec = Jvm.exec) (hb : c.code = cc) (htm : ∀ x ∈ WM, x.before args s = true) (hown : s.vm.findClass own = some m.cls) (hE : DEnv D ad cI cZ cP A s) (hP : Pic D ad cI cZ cP w G V U H) (hS : va_S A H0 H locs) (hw : w < 2) {i : Nat} (hi : i < 24) {x y : Int32} (hin : vp_in x 8) (hdg : decode cc pc = .ok (.iastore, 1)) (kk : ∀ (H1 : Heap) (locs1 : List Loc), Pic D ad cI cZ cP w G (pt V 12 i x.toNatClampNeg y) U H1 → va_S A H0 H1 locs1 → W p l e R s m args below meth c H1 locs1 0 0 Q (F0 m (pc + 1) ls (rest))) : W p l e R s m args below meth c H locs 0 0 Q (F0 m pc ls (.int y :: .int x :: .ref (ad w 12 i) :: rest)) :=
  masV hx hb htm hown hE hP hS hw (k := 12) (i := i) (by decide) hi (fun _ => rfl) hin hdg kk
theorem gf_13_0 (hx : p.tables.exec = Jvm.exec) (hb : c.code = cc) (htm : ∀ x ∈ WM, x.before args s = true) (hown : s.vm.findClass own = some m.cls) (hE : DEnv D ad cI cZ cP A s) (hP : Pic D ad cI cZ cP w G V U H) (hw : w < 2) {i : Nat} (hi : i < 24) (hlink : (Cond.fieldLink own index "MailDen$Watches" "watchers" "[I").before args s = true) (hdg : decode cc pc = .ok (.getfield index, 3)) (kk : W p l e R s m args below meth c H locs 0 0 Q (F0 m (pc + 3) ls (.ref (ad w 14 i) :: rest))) : W p l e R s m args below meth c H locs 0 0 Q (F0 m pc ls (.ref (ad w 13 i) :: rest)) :=
  mgV hx hb htm hown hE hP hw (k := 13) (i := i) (by decide) hi rfl rfl ic_wsU4 0 (by decide) hlink rfl hdg kk
theorem gf_13_1 (hx : p.tables.exec = Jvm.exec) (hb : c.code = cc) (htm : ∀ x ∈ WM, x.before args s = true) (hown : s.vm.findClass own = some m.cls) (hE : DEnv D ad cI cZ cP A s) (hP : Pic D ad cI cZ cP w G V U H) (hw : w < 2) {i : Nat} (hi : i < 24) (hlink : (Cond.fieldLink own index "MailDen$Watches" "times" "[I").before args s = true) (hdg : decode cc pc = .ok (.getfield index, 3)) (kk : W p l e R s m args below meth c H locs 0 0 Q (F0 m (pc + 3) ls (.ref (ad w 15 i) :: rest))) : W p l e R s m args below meth c H locs 0 0 Q (F0 m pc ls (.ref (ad w 13 i) :: rest)) :=
  mgV hx hb htm hown hE hP hw (k := 13) (i := i) (by decide) hi rfl rfl ic_wsU4 1 (by decide) hlink rfl hdg kk
theorem gf_13_2 (hx : p.tables.exec = Jvm.exec) (hb : c.code = cc) (htm : ∀ x ∈ WM, x.before args s = true) (hown : s.vm.findClass own = some m.cls) (hE : DEnv D ad cI cZ cP A s) (hP : Pic D ad cI cZ cP w G V U H) (hw : w < 2) {i : Nat} (hi : i < 24) (hlink : (Cond.fieldLink own index "MailDen$Watches" "count" "I").before args s = true) (hdg : decode cc pc = .ok (.getfield index, 3)) (kk : W p l e R s m args below meth c H locs 0 0 Q (F0 m (pc + 3) ls (.int (V 13 i 2) :: rest))) : W p l e R s m args below meth c H locs 0 0 Q (F0 m pc ls (.ref (ad w 13 i) :: rest)) :=
  mgV hx hb htm hown hE hP hw (k := 13) (i := i) (by decide) hi rfl rfl ic_wsU4 2 (by decide) hlink rfl hdg kk
theorem pf_13_2 (hx : p.tables.exec = Jvm.exec) (hb : c.code = cc) (htm : ∀ x ∈ WM, x.before args s = true) (hown : s.vm.findClass own = some m.cls) (hE : DEnv D ad cI cZ cP A s) (hP : Pic D ad cI cZ cP w G V U H) (hS : va_S A H0 H locs) (hw : w < 2) {i : Nat} (hi : i < 24) (hlink : (Cond.fieldLink own index "MailDen$Watches" "count" "I").before args s = true) {x : Int32} (hdg : decode cc pc = .ok (.putfield index, 3)) (kk : ∀ (H1 : Heap) (locs1 : List Loc), Pic D ad cI cZ cP w G (pt V 13 i 2 x) U H1 → va_S A H0 H1 locs1 → W p l e R s m args below meth c H1 locs1 0 0 Q (F0 m (pc + 3) ls (rest))) : W p l e R s m args below meth c H locs 0 0 Q (F0 m pc ls (.int x :: .ref (ad w 13 i) :: rest)) :=
  mpV hx hb htm hown hE hP hS hw (k := 13) (i := i) (g := upd (V 13 i) 2 x) (by decide) hi rfl rfl ic_wsU4 tyX4 tyX4_ok nmX4 2 (by decide) hlink rfl (ty := .int) rfl rfl rfl (show (2 : Nat) < 3 from by decide) rfl hdg kk
theorem al_14 (hx : p.tables.exec = Jvm.exec) (hb : c.code = cc) (htm : ∀ x ∈ WM, x.before args s = true) (hown : s.vm.findClass own = some m.cls) (hE : DEnv D ad cI cZ cP A s) (hP : Pic D ad cI cZ cP w G V U H) (hw : w < 2) {i : Nat} (hi : i < 24) {x : Int32} (hin : vp_in x 24) (hdg : decode cc pc = .ok (.iaload, 1)) (kk : W p l e R s m args below meth c H locs 0 0 Q (F0 m (pc + 1) ls (.int (V 14 i x.toNatClampNeg) :: rest))) : W p l e R s m args below meth c H locs 0 0 Q (F0 m pc ls (.int x :: .ref (ad w 14 i) :: rest)) :=
  malV hx hb htm hown hE hP hw (k := 14) (i := i) (by decide) hi rfl hin hdg kk
theorem as_14 (hx : p.tables.exec = Jvm.exec) (hb : c.code = cc) (htm : ∀ x ∈ WM, x.before args s = true) (hown : s.vm.findClass own = some m.cls) (hE : DEnv D ad cI cZ cP A s) (hP : Pic D ad cI cZ cP w G V U H) (hS : va_S A H0 H locs) (hw : w < 2) {i : Nat} (hi : i < 24) {x y : Int32} (hin : vp_in x 24) (hdg : decode cc pc = .ok (.iastore, 1)) (kk : ∀ (H1 : Heap) (locs1 : List Loc), Pic D ad cI cZ cP w G (pt V 14 i x.toNatClampNeg y) U H1 → va_S A H0 H1 locs1 → W p l e R s m args below meth c H1 locs1 0 0 Q (F0 m (pc + 1) ls (rest))) : W p l e R s m args below meth c H locs 0 0 Q (F0 m pc ls (.int y :: .int x :: .ref (ad w 14 i) :: rest)) :=
  masV hx hb htm hown hE hP hS hw (k := 14) (i := i) (by decide) hi (fun _ => rfl) hin hdg kk
theorem al_15 (hx : p.tables.exec = Jvm.exec) (hb : c.code = cc) (htm : ∀ x ∈ WM, x.before args s = true) (hown : s.vm.findClass own = some m.cls) (hE : DEnv D ad cI cZ cP A s) (hP : Pic D ad cI cZ cP w G V U H) (hw : w < 2) {i : Nat} (hi : i < 24) {x : Int32} (hin : vp_in x 24) (hdg : decode cc pc = .ok (.iaload, 1)) (kk : W p l e R s m args below meth c H locs 0 0 Q (F0 m (pc + 1) ls (.int (V 15 i x.toNatClampNeg) :: rest))) : W p l e R s m args below meth c H locs 0 0 Q (F0 m pc ls (.int x :: .ref (ad w 15 i) :: rest)) :=
  malV hx hb htm hown hE hP hw (k := 15) (i := i) (by decide) hi rfl hin hdg kk
theorem as_15 (hx : p.tables.exec = Jvm.exec) (hb : c.code = cc) (htm : ∀ x ∈ WM, x.before args s = true) (hown : s.vm.findClass own = some m.cls) (hE : DEnv D ad cI cZ cP A s) (hP : Pic D ad cI cZ cP w G V U H) (hS : va_S A H0 H locs) (hw : w < 2) {i : Nat} (hi : i < 24) {x y : Int32} (hin : vp_in x 24) (hdg : decode cc pc = .ok (.iastore, 1)) (kk : ∀ (H1 : Heap) (locs1 : List Loc), Pic D ad cI cZ cP w G (pt V 15 i x.toNatClampNeg y) U H1 → va_S A H0 H1 locs1 → W p l e R s m args below meth c H1 locs1 0 0 Q (F0 m (pc + 1) ls (rest))) : W p l e R s m args below meth c H locs 0 0 Q (F0 m pc ls (.int y :: .int x :: .ref (ad w 15 i) :: rest)) :=
  masV hx hb htm hown hE hP hS hw (k := 15) (i := i) (by decide) hi (fun _ => rfl) hin hdg kk
theorem gf_16_0 (hx : p.tables.exec = Jvm.exec) (hb : c.code = cc) (htm : ∀ x ∈ WM, x.before args s = true) (hown : s.vm.findClass own = some m.cls) (hE : DEnv D ad cI cZ cP A s) (hP : Pic D ad cI cZ cP w G V U H) (hlink : (Cond.fieldLink own index "MailDen" "codes" "LMailDen$Codes;").before args s = true) (hdg : decode cc pc = .ok (.getfield index, 3)) (kk : W p l e R s m args below meth c H locs 0 0 Q (F0 m (pc + 3) ls (.ref (ad 2 17 0) :: rest))) : W p l e R s m args below meth c H locs 0 0 Q (F0 m pc ls (.ref (ad 2 16 0) :: rest)) :=
  mgG hx hb htm hown hE hP (k := 16) (by decide) (by decide) rfl rfl ic_wsU6 0 (by decide) hlink rfl hdg kk
theorem gf_16_1 (hx : p.tables.exec = Jvm.exec) (hb : c.code = cc) (htm : ∀ x ∈ WM, x.before args s = true) (hown : s.vm.findClass own = some m.cls) (hE : DEnv D ad cI cZ cP A s) (hP : Pic D ad cI cZ cP w G V U H) (hlink : (Cond.fieldLink own index "MailDen" "specs" "LMailDen$Specs;").before args s = true) (hdg : decode cc pc = .ok (.getfield index, 3)) (kk : W p l e R s m args below meth c H locs 0 0 Q (F0 m (pc + 3) ls (.ref (ad 2 22 0) :: rest))) : W p l e R s m args below meth c H locs 0 0 Q (F0 m pc ls (.ref (ad 2 16 0) :: rest)) :=
  mgG hx hb htm hown hE hP (k := 16) (by decide) (by decide) rfl rfl ic_wsU6 1 (by decide) hlink rfl hdg kk
theorem gf_16_2 (hx : p.tables.exec = Jvm.exec) (hb : c.code = cc) (htm : ∀ x ∈ WM, x.before args s = true) (hown : s.vm.findClass own = some m.cls) (hE : DEnv D ad cI cZ cP A s) (hP : Pic D ad cI cZ cP w G V U H) (hlink : (Cond.fieldLink own index "MailDen" "real" "LMailDen$World;").before args s = true) (hdg : decode cc pc = .ok (.getfield index, 3)) (kk : W p l e R s m args below meth c H locs 0 0 Q (F0 m (pc + 3) ls (.ref (ad 0 0 0) :: rest))) : W p l e R s m args below meth c H locs 0 0 Q (F0 m pc ls (.ref (ad 2 16 0) :: rest)) :=
  mgG hx hb htm hown hE hP (k := 16) (by decide) (by decide) rfl rfl ic_wsU6 2 (by decide) hlink rfl hdg kk
theorem gf_16_3 (hx : p.tables.exec = Jvm.exec) (hb : c.code = cc) (htm : ∀ x ∈ WM, x.before args s = true) (hown : s.vm.findClass own = some m.cls) (hE : DEnv D ad cI cZ cP A s) (hP : Pic D ad cI cZ cP w G V U H) (hlink : (Cond.fieldLink own index "MailDen" "trial" "LMailDen$World;").before args s = true) (hdg : decode cc pc = .ok (.getfield index, 3)) (kk : W p l e R s m args below meth c H locs 0 0 Q (F0 m (pc + 3) ls (.ref (ad 1 0 0) :: rest))) : W p l e R s m args below meth c H locs 0 0 Q (F0 m pc ls (.ref (ad 2 16 0) :: rest)) :=
  mgG hx hb htm hown hE hP (k := 16) (by decide) (by decide) rfl rfl ic_wsU6 3 (by decide) hlink rfl hdg kk
theorem gf_17_0 (hx : p.tables.exec = Jvm.exec) (hb : c.code = cc) (htm : ∀ x ∈ WM, x.before args s = true) (hown : s.vm.findClass own = some m.cls) (hE : DEnv D ad cI cZ cP A s) (hP : Pic D ad cI cZ cP w G V U H) (hlink : (Cond.fieldLink own index "MailDen$Codes" "modules" "I").before args s = true) (hdg : decode cc pc = .ok (.getfield index, 3)) (kk : W p l e R s m args below meth c H locs 0 0 Q (F0 m (pc + 3) ls (.int (G 17 0 0) :: rest))) : W p l e R s m args below meth c H locs 0 0 Q (F0 m pc ls (.ref (ad 2 17 0) :: rest)) :=
  mgG hx hb htm hown hE hP (k := 17) (by decide) (by decide) rfl rfl ic_wsU1 0 (by decide) hlink rfl hdg kk
theorem pf_17_0 (hx : p.tables.exec = Jvm.exec) (hb : c.code = cc) (htm : ∀ x ∈ WM, x.before args s = true) (hown : s.vm.findClass own = some m.cls) (hE : DEnv D ad cI cZ cP A s) (hP : Pic D ad cI cZ cP w G V U H) (hS : va_S A H0 H locs) (hlink : (Cond.fieldLink own index "MailDen$Codes" "modules" "I").before args s = true) {x : Int32} (hdg : decode cc pc = .ok (.putfield index, 3)) (kk : ∀ (H1 : Heap) (locs1 : List Loc), Pic D ad cI cZ cP w (pt G 17 0 0 x) V U H1 → va_S A H0 H1 locs1 → W p l e R s m args below meth c H1 locs1 0 0 Q (F0 m (pc + 3) ls (rest))) : W p l e R s m args below meth c H locs 0 0 Q (F0 m pc ls (.int x :: .ref (ad 2 17 0) :: rest)) :=
  mpG hx hb htm hown hE hP hS (k := 17) (g := upd (G 17 0) 0 x) (by decide) (by decide) rfl rfl ic_wsU1 tyX1 tyX1_ok nmX1 0 (by decide) hlink rfl (ty := .int) rfl rfl rfl (show (0 : Nat) < 5 from by decide) rfl hdg kk
theorem gf_17_1 (hx : p.tables.exec = Jvm.exec) (hb : c.code = cc) (htm : ∀ x ∈ WM, x.before args s = true) (hown : s.vm.findClass own = some m.cls) (hE : DEnv D ad cI cZ cP A s) (hP : Pic D ad cI cZ cP w G V U H) (hlink : (Cond.fieldLink own index "MailDen$Codes" "lineCounts" "[I").before args s = true) (hdg : decode cc pc = .ok (.getfield index, 3)) (kk : W p l e R s m args below meth c H locs 0 0 Q (F0 m (pc + 3) ls (.ref (ad 2 18 0) :: rest))) : W p l e R s m args below meth c H locs 0 0 Q (F0 m pc ls (.ref (ad 2 17 0) :: rest)) :=
  mgG hx hb htm hown hE hP (k := 17) (by decide) (by decide) rfl rfl ic_wsU1 1 (by decide) hlink rfl hdg kk
theorem gf_17_2 (hx : p.tables.exec = Jvm.exec) (hb : c.code = cc) (htm : ∀ x ∈ WM, x.before args s = true) (hown : s.vm.findClass own = some m.cls) (hE : DEnv D ad cI cZ cP A s) (hP : Pic D ad cI cZ cP w G V U H) (hlink : (Cond.fieldLink own index "MailDen$Codes" "kinds" "[I").before args s = true) (hdg : decode cc pc = .ok (.getfield index, 3)) (kk : W p l e R s m args below meth c H locs 0 0 Q (F0 m (pc + 3) ls (.ref (ad 2 19 0) :: rest))) : W p l e R s m args below meth c H locs 0 0 Q (F0 m pc ls (.ref (ad 2 17 0) :: rest)) :=
  mgG hx hb htm hown hE hP (k := 17) (by decide) (by decide) rfl rfl ic_wsU1 2 (by decide) hlink rfl hdg kk
theorem gf_17_3 (hx : p.tables.exec = Jvm.exec) (hb : c.code = cc) (htm : ∀ x ∈ WM, x.before args s = true) (hown : s.vm.findClass own = some m.cls) (hE : DEnv D ad cI cZ cP A s) (hP : Pic D ad cI cZ cP w G V U H) (hlink : (Cond.fieldLink own index "MailDen$Codes" "as" "[I").before args s = true) (hdg : decode cc pc = .ok (.getfield index, 3)) (kk : W p l e R s m args below meth c H locs 0 0 Q (F0 m (pc + 3) ls (.ref (ad 2 20 0) :: rest))) : W p l e R s m args below meth c H locs 0 0 Q (F0 m pc ls (.ref (ad 2 17 0) :: rest)) :=
  mgG hx hb htm hown hE hP (k := 17) (by decide) (by decide) rfl rfl ic_wsU1 3 (by decide) hlink rfl hdg kk
theorem gf_17_4 (hx : p.tables.exec = Jvm.exec) (hb : c.code = cc) (htm : ∀ x ∈ WM, x.before args s = true) (hown : s.vm.findClass own = some m.cls) (hE : DEnv D ad cI cZ cP A s) (hP : Pic D ad cI cZ cP w G V U H) (hlink : (Cond.fieldLink own index "MailDen$Codes" "bs" "[I").before args s = true) (hdg : decode cc pc = .ok (.getfield index, 3)) (kk : W p l e R s m args below meth c H locs 0 0 Q (F0 m (pc + 3) ls (.ref (ad 2 21 0) :: rest))) : W p l e R s m args below meth c H locs 0 0 Q (F0 m pc ls (.ref (ad 2 17 0) :: rest)) :=
  mgG hx hb htm hown hE hP (k := 17) (by decide) (by decide) rfl rfl ic_wsU1 4 (by decide) hlink rfl hdg kk
theorem al_18 (hx : p.tables.exec = Jvm.exec) (hb : c.code = cc) (htm : ∀ x ∈ WM, x.before args s = true) (hown : s.vm.findClass own = some m.cls) (hE : DEnv D ad cI cZ cP A s) (hP : Pic D ad cI cZ cP w G V U H) {x : Int32} (hin : vp_in x 16) (hdg : decode cc pc = .ok (.iaload, 1)) (kk : W p l e R s m args below meth c H locs 0 0 Q (F0 m (pc + 1) ls (.int (G 18 0 x.toNatClampNeg) :: rest))) : W p l e R s m args below meth c H locs 0 0 Q (F0 m pc ls (.int x :: .ref (ad 2 18 0) :: rest)) :=
  malG hx hb htm hown hE hP (k := 18) (by decide) (by decide) rfl hin hdg kk
theorem as_18 (hx : p.tables.exec = Jvm.exec) (hb : c.code = cc) (htm : ∀ x ∈ WM, x.before args s = true) (hown : s.vm.findClass own = some m.cls) (hE : DEnv D ad cI cZ cP A s) (hP : Pic D ad cI cZ cP w G V U H) (hS : va_S A H0 H locs) {x y : Int32} (hin : vp_in x 16) (hdg : decode cc pc = .ok (.iastore, 1)) (kk : ∀ (H1 : Heap) (locs1 : List Loc), Pic D ad cI cZ cP w (pt G 18 0 x.toNatClampNeg y) V U H1 → va_S A H0 H1 locs1 → W p l e R s m args below meth c H1 locs1 0 0 Q (F0 m (pc + 1) ls (rest))) : W p l e R s m args below meth c H locs 0 0 Q (F0 m pc ls (.int y :: .int x :: .ref (ad 2 18 0) :: rest)) :=
  masG hx hb htm hown hE hP hS (k := 18) (by decide) (by decide) (fun _ => rfl) hin hdg kk
theorem al_19 (hx : p.tables.exec = Jvm.exec) (hb : c.code = cc) (htm : ∀ x ∈ WM, x.before args s = true) (hown : s.vm.findClass own = some m.cls) (hE : DEnv D ad cI cZ cP A s) (hP : Pic D ad cI cZ cP w G V U H) {x : Int32} (hin : vp_in x 192) (hdg : decode cc pc = .ok (.iaload, 1)) (kk : W p l e R s m args below meth c H locs 0 0 Q (F0 m (pc + 1) ls (.int (G 19 0 x.toNatClampNeg) :: rest))) : W p l e R s m args below meth c H locs 0 0 Q (F0 m pc ls (.int x :: .ref (ad 2 19 0) :: rest)) :=
  malG hx hb htm hown hE hP (k := 19) (by decide) (by decide) rfl hin hdg kk
theorem as_19 (hx : p.tables.exec = Jvm.exec) (hb : c.code = cc) (htm : ∀ x ∈ WM, x.before args s = true) (hown : s.vm.findClass own = some m.cls) (hE : DEnv D ad cI cZ cP A s) (hP : Pic D ad cI cZ cP w G V U H) (hS : va_S A H0 H locs) {x y : Int32} (hin : vp_in x 192) (hdg : decode cc pc = .ok (.iastore, 1)) (kk : ∀ (H1 : Heap) (locs1 : List Loc), Pic D ad cI cZ cP w (pt G 19 0 x.toNatClampNeg y) V U H1 → va_S A H0 H1 locs1 → W p l e R s m args below meth c H1 locs1 0 0 Q (F0 m (pc + 1) ls (rest))) : W p l e R s m args below meth c H locs 0 0 Q (F0 m pc ls (.int y :: .int x :: .ref (ad 2 19 0) :: rest)) :=
  masG hx hb htm hown hE hP hS (k := 19) (by decide) (by decide) (fun _ => rfl) hin hdg kk
theorem al_20 (hx : p.tables.exec = Jvm.exec) (hb : c.code = cc) (htm : ∀ x ∈ WM, x.before args s = true) (hown : s.vm.findClass own = some m.cls) (hE : DEnv D ad cI cZ cP A s) (hP : Pic D ad cI cZ cP w G V U H) {x : Int32} (hin : vp_in x 192) (hdg : decode cc pc = .ok (.iaload, 1)) (kk : W p l e R s m args below meth c H locs 0 0 Q (F0 m (pc + 1) ls (.int (G 20 0 x.toNatClampNeg) :: rest))) : W p l e R s m args below meth c H locs 0 0 Q (F0 m pc ls (.int x :: .ref (ad 2 20 0) :: rest)) :=
  malG hx hb htm hown hE hP (k := 20) (by decide) (by decide) rfl hin hdg kk
theorem as_20 (hx : p.tables.exec = Jvm.exec) (hb : c.code = cc) (htm : ∀ x ∈ WM, x.before args s = true) (hown : s.vm.findClass own = some m.cls) (hE : DEnv D ad cI cZ cP A s) (hP : Pic D ad cI cZ cP w G V U H) (hS : va_S A H0 H locs) {x y : Int32} (hin : vp_in x 192) (hdg : decode cc pc = .ok (.iastore, 1)) (kk : ∀ (H1 : Heap) (locs1 : List Loc), Pic D ad cI cZ cP w (pt G 20 0 x.toNatClampNeg y) V U H1 → va_S A H0 H1 locs1 → W p l e R s m args below meth c H1 locs1 0 0 Q (F0 m (pc + 1) ls (rest))) : W p l e R s m args below meth c H locs 0 0 Q (F0 m pc ls (.int y :: .int x :: .ref (ad 2 20 0) :: rest)) :=
  masG hx hb htm hown hE hP hS (k := 20) (by decide) (by decide) (fun _ => rfl) hin hdg kk
theorem al_21 (hx : p.tables.exec = Jvm.exec) (hb : c.code = cc) (htm : ∀ x ∈ WM, x.before args s = true) (hown : s.vm.findClass own = some m.cls) (hE : DEnv D ad cI cZ cP A s) (hP : Pic D ad cI cZ cP w G V U H) {x : Int32} (hin : vp_in x 192) (hdg : decode cc pc = .ok (.iaload, 1)) (kk : W p l e R s m args below meth c H locs 0 0 Q (F0 m (pc + 1) ls (.int (G 21 0 x.toNatClampNeg) :: rest))) : W p l e R s m args below meth c H locs 0 0 Q (F0 m pc ls (.int x :: .ref (ad 2 21 0) :: rest)) :=
  malG hx hb htm hown hE hP (k := 21) (by decide) (by decide) rfl hin hdg kk
theorem as_21 (hx : p.tables.exec = Jvm.exec) (hb : c.code = cc) (htm : ∀ x ∈ WM, x.before args s = true) (hown : s.vm.findClass own = some m.cls) (hE : DEnv D ad cI cZ cP A s) (hP : Pic D ad cI cZ cP w G V U H) (hS : va_S A H0 H locs) {x y : Int32} (hin : vp_in x 192) (hdg : decode cc pc = .ok (.iastore, 1)) (kk : ∀ (H1 : Heap) (locs1 : List Loc), Pic D ad cI cZ cP w (pt G 21 0 x.toNatClampNeg y) V U H1 → va_S A H0 H1 locs1 → W p l e R s m args below meth c H1 locs1 0 0 Q (F0 m (pc + 1) ls (rest))) : W p l e R s m args below meth c H locs 0 0 Q (F0 m pc ls (.int y :: .int x :: .ref (ad 2 21 0) :: rest)) :=
  masG hx hb htm hown hE hP hS (k := 21) (by decide) (by decide) (fun _ => rfl) hin hdg kk
theorem gf_22_0 (hx : p.tables.exec = Jvm.exec) (hb : c.code = cc) (htm : ∀ x ∈ WM, x.before args s = true) (hown : s.vm.findClass own = some m.cls) (hE : DEnv D ad cI cZ cP A s) (hP : Pic D ad cI cZ cP w G V U H) (hlink : (Cond.fieldLink own index "MailDen$Specs" "count" "I").before args s = true) (hdg : decode cc pc = .ok (.getfield index, 3)) (kk : W p l e R s m args below meth c H locs 0 0 Q (F0 m (pc + 3) ls (.int (G 22 0 0) :: rest))) : W p l e R s m args below meth c H locs 0 0 Q (F0 m pc ls (.ref (ad 2 22 0) :: rest)) :=
  mgG hx hb htm hown hE hP (k := 22) (by decide) (by decide) rfl rfl ic_wsU3 0 (by decide) hlink rfl hdg kk
theorem pf_22_0 (hx : p.tables.exec = Jvm.exec) (hb : c.code = cc) (htm : ∀ x ∈ WM, x.before args s = true) (hown : s.vm.findClass own = some m.cls) (hE : DEnv D ad cI cZ cP A s) (hP : Pic D ad cI cZ cP w G V U H) (hS : va_S A H0 H locs) (hlink : (Cond.fieldLink own index "MailDen$Specs" "count" "I").before args s = true) {x : Int32} (hdg : decode cc pc = .ok (.putfield index, 3)) (kk : ∀ (H1 : Heap) (locs1 : List Loc), Pic D ad cI cZ cP w (pt G 22 0 0 x) V U H1 → va_S A H0 H1 locs1 → W p l e R s m args below meth c H1 locs1 0 0 Q (F0 m (pc + 3) ls (rest))) : W p l e R s m args below meth c H locs 0 0 Q (F0 m pc ls (.int x :: .ref (ad 2 22 0) :: rest)) :=
  mpG hx hb htm hown hE hP hS (k := 22) (g := upd (G 22 0) 0 x) (by decide) (by decide) rfl rfl ic_wsU3 tyX3 tyX3_ok nmX3 0 (by decide) hlink rfl (ty := .int) rfl rfl rfl (show (0 : Nat) < 8 from by decide) rfl hdg kk
theorem gf_22_1 (hx : p.tables.exec = Jvm.exec) (hb : c.code = cc) (htm : ∀ x ∈ WM, x.before args s = true) (hown : s.vm.findClass own = some m.cls) (hE : DEnv D ad cI cZ cP A s) (hP : Pic D ad cI cZ cP w G V U H) (hlink : (Cond.fieldLink own index "MailDen$Specs" "strategies" "[I").before args s = true) (hdg : decode cc pc = .ok (.getfield index, 3)) (kk : W p l e R s m args below meth c H locs 0 0 Q (F0 m (pc + 3) ls (.ref (ad 2 23 0) :: rest))) : W p l e R s m args below meth c H locs 0 0 Q (F0 m pc ls (.ref (ad 2 22 0) :: rest)) :=
  mgG hx hb htm hown hE hP (k := 22) (by decide) (by decide) rfl rfl ic_wsU3 1 (by decide) hlink rfl hdg kk
theorem gf_22_2 (hx : p.tables.exec = Jvm.exec) (hb : c.code = cc) (htm : ∀ x ∈ WM, x.before args s = true) (hown : s.vm.findClass own = some m.cls) (hE : DEnv D ad cI cZ cP A s) (hP : Pic D ad cI cZ cP w G V U H) (hlink : (Cond.fieldLink own index "MailDen$Specs" "mosts" "[I").before args s = true) (hdg : decode cc pc = .ok (.getfield index, 3)) (kk : W p l e R s m args below meth c H locs 0 0 Q (F0 m (pc + 3) ls (.ref (ad 2 24 0) :: rest))) : W p l e R s m args below meth c H locs 0 0 Q (F0 m pc ls (.ref (ad 2 22 0) :: rest)) :=
  mgG hx hb htm hown hE hP (k := 22) (by decide) (by decide) rfl rfl ic_wsU3 2 (by decide) hlink rfl hdg kk
theorem gf_22_3 (hx : p.tables.exec = Jvm.exec) (hb : c.code = cc) (htm : ∀ x ∈ WM, x.before args s = true) (hown : s.vm.findClass own = some m.cls) (hE : DEnv D ad cI cZ cP A s) (hP : Pic D ad cI cZ cP w G V U H) (hlink : (Cond.fieldLink own index "MailDen$Specs" "withins" "[I").before args s = true) (hdg : decode cc pc = .ok (.getfield index, 3)) (kk : W p l e R s m args below meth c H locs 0 0 Q (F0 m (pc + 3) ls (.ref (ad 2 25 0) :: rest))) : W p l e R s m args below meth c H locs 0 0 Q (F0 m pc ls (.ref (ad 2 22 0) :: rest)) :=
  mgG hx hb htm hown hE hP (k := 22) (by decide) (by decide) rfl rfl ic_wsU3 3 (by decide) hlink rfl hdg kk
theorem gf_22_4 (hx : p.tables.exec = Jvm.exec) (hb : c.code = cc) (htm : ∀ x ∈ WM, x.before args s = true) (hown : s.vm.findClass own = some m.cls) (hE : DEnv D ad cI cZ cP A s) (hP : Pic D ad cI cZ cP w G V U H) (hlink : (Cond.fieldLink own index "MailDen$Specs" "placeCounts" "[I").before args s = true) (hdg : decode cc pc = .ok (.getfield index, 3)) (kk : W p l e R s m args below meth c H locs 0 0 Q (F0 m (pc + 3) ls (.ref (ad 2 26 0) :: rest))) : W p l e R s m args below meth c H locs 0 0 Q (F0 m pc ls (.ref (ad 2 22 0) :: rest)) :=
  mgG hx hb htm hown hE hP (k := 22) (by decide) (by decide) rfl rfl ic_wsU3 4 (by decide) hlink rfl hdg kk
theorem gf_22_5 (hx : p.tables.exec = Jvm.exec) (hb : c.code = cc) (htm : ∀ x ∈ WM, x.before args s = true) (hown : s.vm.findClass own = some m.cls) (hE : DEnv D ad cI cZ cP A s) (hP : Pic D ad cI cZ cP w G V U H) (hlink : (Cond.fieldLink own index "MailDen$Specs" "ofSpecs" "[Z").before args s = true) (hdg : decode cc pc = .ok (.getfield index, 3)) (kk : W p l e R s m args below meth c H locs 0 0 Q (F0 m (pc + 3) ls (.ref (ad 2 27 0) :: rest))) : W p l e R s m args below meth c H locs 0 0 Q (F0 m pc ls (.ref (ad 2 22 0) :: rest)) :=
  mgG hx hb htm hown hE hP (k := 22) (by decide) (by decide) rfl rfl ic_wsU3 5 (by decide) hlink rfl hdg kk
theorem gf_22_6 (hx : p.tables.exec = Jvm.exec) (hb : c.code = cc) (htm : ∀ x ∈ WM, x.before args s = true) (hown : s.vm.findClass own = some m.cls) (hE : DEnv D ad cI cZ cP A s) (hP : Pic D ad cI cZ cP w G V U H) (hlink : (Cond.fieldLink own index "MailDen$Specs" "numbers" "[I").before args s = true) (hdg : decode cc pc = .ok (.getfield index, 3)) (kk : W p l e R s m args below meth c H locs 0 0 Q (F0 m (pc + 3) ls (.ref (ad 2 28 0) :: rest))) : W p l e R s m args below meth c H locs 0 0 Q (F0 m pc ls (.ref (ad 2 22 0) :: rest)) :=
  mgG hx hb htm hown hE hP (k := 22) (by decide) (by decide) rfl rfl ic_wsU3 6 (by decide) hlink rfl hdg kk
theorem gf_22_7 (hx : p.tables.exec = Jvm.exec) (hb : c.code = cc) (htm : ∀ x ∈ WM, x.before args s = true) (hown : s.vm.findClass own = some m.cls) (hE : DEnv D ad cI cZ cP A s) (hP : Pic D ad cI cZ cP w G V U H) (hlink : (Cond.fieldLink own index "MailDen$Specs" "modes" "[I").before args s = true) (hdg : decode cc pc = .ok (.getfield index, 3)) (kk : W p l e R s m args below meth c H locs 0 0 Q (F0 m (pc + 3) ls (.ref (ad 2 29 0) :: rest))) : W p l e R s m args below meth c H locs 0 0 Q (F0 m pc ls (.ref (ad 2 22 0) :: rest)) :=
  mgG hx hb htm hown hE hP (k := 22) (by decide) (by decide) rfl rfl ic_wsU3 7 (by decide) hlink rfl hdg kk
theorem al_23 (hx : p.tables.exec = Jvm.exec) (hb : c.code = cc) (htm : ∀ x ∈ WM, x.before args s = true) (hown : s.vm.findClass own = some m.cls) (hE : DEnv D ad cI cZ cP A s) (hP : Pic D ad cI cZ cP w G V U H) {x : Int32} (hin : vp_in x 5) (hdg : decode cc pc = .ok (.iaload, 1)) (kk : W p l e R s m args below meth c H locs 0 0 Q (F0 m (pc + 1) ls (.int (G 23 0 x.toNatClampNeg) :: rest))) : W p l e R s m args below meth c H locs 0 0 Q (F0 m pc ls (.int x :: .ref (ad 2 23 0) :: rest)) :=
  malG hx hb htm hown hE hP (k := 23) (by decide) (by decide) rfl hin hdg kk
theorem as_23 (hx : p.tables.exec = Jvm.exec) (hb : c.code = cc) (htm : ∀ x ∈ WM, x.before args s = true) (hown : s.vm.findClass own = some m.cls) (hE : DEnv D ad cI cZ cP A s) (hP : Pic D ad cI cZ cP w G V U H) (hS : va_S A H0 H locs) {x y : Int32} (hin : vp_in x 5) (hdg : decode cc pc = .ok (.iastore, 1)) (kk : ∀ (H1 : Heap) (locs1 : List Loc), Pic D ad cI cZ cP w (pt G 23 0 x.toNatClampNeg y) V U H1 → va_S A H0 H1 locs1 → W p l e R s m args below meth c H1 locs1 0 0 Q (F0 m (pc + 1) ls (rest))) : W p l e R s m args below meth c H locs 0 0 Q (F0 m pc ls (.int y :: .int x :: .ref (ad 2 23 0) :: rest)) :=
  masG hx hb htm hown hE hP hS (k := 23) (by decide) (by decide) (fun _ => rfl) hin hdg kk
theorem al_24 (hx : p.tables.exec = Jvm.exec) (hb : c.code = cc) (htm : ∀ x ∈ WM, x.before args s = true) (hown : s.vm.findClass own = some m.cls) (hE : DEnv D ad cI cZ cP A s) (hP : Pic D ad cI cZ cP w G V U H) {x : Int32} (hin : vp_in x 5) (hdg : decode cc pc = .ok (.iaload, 1)) (kk : W p l e R s m args below meth c H locs 0 0 Q (F0 m (pc + 1) ls (.int (G 24 0 x.toNatClampNeg) :: rest))) : W p l e R s m args below meth c H locs 0 0 Q (F0 m pc ls (.int x :: .ref (ad 2 24 0) :: rest)) :=
  malG hx hb htm hown hE hP (k := 24) (by decide) (by decide) rfl hin hdg kk
theorem as_24 (hx : p.tables.exec = Jvm.exec) (hb : c.code = cc) (htm : ∀ x ∈ WM, x.before args s = true) (hown : s.vm.findClass own = some m.cls) (hE : DEnv D ad cI cZ cP A s) (hP : Pic D ad cI cZ cP w G V U H) (hS : va_S A H0 H locs) {x y : Int32} (hin : vp_in x 5) (hdg : decode cc pc = .ok (.iastore, 1)) (kk : ∀ (H1 : Heap) (locs1 : List Loc), Pic D ad cI cZ cP w (pt G 24 0 x.toNatClampNeg y) V U H1 → va_S A H0 H1 locs1 → W p l e R s m args below meth c H1 locs1 0 0 Q (F0 m (pc + 1) ls (rest))) : W p l e R s m args below meth c H locs 0 0 Q (F0 m pc ls (.int y :: .int x :: .ref (ad 2 24 0) :: rest)) :=
  masG hx hb htm hown hE hP hS (k := 24) (by decide) (by decide) (fun _ => rfl) hin hdg kk
theorem al_25 (hx : p.tables.exec = Jvm.exec) (hb : c.code = cc) (htm : ∀ x ∈ WM, x.before args s = true) (hown : s.vm.findClass own = some m.cls) (hE : DEnv D ad cI cZ cP A s) (hP : Pic D ad cI cZ cP w G V U H) {x : Int32} (hin : vp_in x 5) (hdg : decode cc pc = .ok (.iaload, 1)) (kk : W p l e R s m args below meth c H locs 0 0 Q (F0 m (pc + 1) ls (.int (G 25 0 x.toNatClampNeg) :: rest))) : W p l e R s m args below meth c H locs 0 0 Q (F0 m pc ls (.int x :: .ref (ad 2 25 0) :: rest)) :=
  malG hx hb htm hown hE hP (k := 25) (by decide) (by decide) rfl hin hdg kk
theorem as_25 (hx : p.tables.exec = Jvm.exec) (hb : c.code = cc) (htm : ∀ x ∈ WM, x.before args s = true) (hown : s.vm.findClass own = some m.cls) (hE : DEnv D ad cI cZ cP A s) (hP : Pic D ad cI cZ cP w G V U H) (hS : va_S A H0 H locs) {x y : Int32} (hin : vp_in x 5) (hdg : decode cc pc = .ok (.iastore, 1)) (kk : ∀ (H1 : Heap) (locs1 : List Loc), Pic D ad cI cZ cP w (pt G 25 0 x.toNatClampNeg y) V U H1 → va_S A H0 H1 locs1 → W p l e R s m args below meth c H1 locs1 0 0 Q (F0 m (pc + 1) ls (rest))) : W p l e R s m args below meth c H locs 0 0 Q (F0 m pc ls (.int y :: .int x :: .ref (ad 2 25 0) :: rest)) :=
  masG hx hb htm hown hE hP hS (k := 25) (by decide) (by decide) (fun _ => rfl) hin hdg kk
theorem al_26 (hx : p.tables.exec = Jvm.exec) (hb : c.code = cc) (htm : ∀ x ∈ WM, x.before args s = true) (hown : s.vm.findClass own = some m.cls) (hE : DEnv D ad cI cZ cP A s) (hP : Pic D ad cI cZ cP w G V U H) {x : Int32} (hin : vp_in x 5) (hdg : decode cc pc = .ok (.iaload, 1)) (kk : W p l e R s m args below meth c H locs 0 0 Q (F0 m (pc + 1) ls (.int (G 26 0 x.toNatClampNeg) :: rest))) : W p l e R s m args below meth c H locs 0 0 Q (F0 m pc ls (.int x :: .ref (ad 2 26 0) :: rest)) :=
  malG hx hb htm hown hE hP (k := 26) (by decide) (by decide) rfl hin hdg kk
theorem as_26 (hx : p.tables.exec = Jvm.exec) (hb : c.code = cc) (htm : ∀ x ∈ WM, x.before args s = true) (hown : s.vm.findClass own = some m.cls) (hE : DEnv D ad cI cZ cP A s) (hP : Pic D ad cI cZ cP w G V U H) (hS : va_S A H0 H locs) {x y : Int32} (hin : vp_in x 5) (hdg : decode cc pc = .ok (.iastore, 1)) (kk : ∀ (H1 : Heap) (locs1 : List Loc), Pic D ad cI cZ cP w (pt G 26 0 x.toNatClampNeg y) V U H1 → va_S A H0 H1 locs1 → W p l e R s m args below meth c H1 locs1 0 0 Q (F0 m (pc + 1) ls (rest))) : W p l e R s m args below meth c H locs 0 0 Q (F0 m pc ls (.int y :: .int x :: .ref (ad 2 26 0) :: rest)) :=
  masG hx hb htm hown hE hP hS (k := 26) (by decide) (by decide) (fun _ => rfl) hin hdg kk
theorem al_28 (hx : p.tables.exec = Jvm.exec) (hb : c.code = cc) (htm : ∀ x ∈ WM, x.before args s = true) (hown : s.vm.findClass own = some m.cls) (hE : DEnv D ad cI cZ cP A s) (hP : Pic D ad cI cZ cP w G V U H) {x : Int32} (hin : vp_in x 20) (hdg : decode cc pc = .ok (.iaload, 1)) (kk : W p l e R s m args below meth c H locs 0 0 Q (F0 m (pc + 1) ls (.int (G 28 0 x.toNatClampNeg) :: rest))) : W p l e R s m args below meth c H locs 0 0 Q (F0 m pc ls (.int x :: .ref (ad 2 28 0) :: rest)) :=
  malG hx hb htm hown hE hP (k := 28) (by decide) (by decide) rfl hin hdg kk
theorem as_28 (hx : p.tables.exec = Jvm.exec) (hb : c.code = cc) (htm : ∀ x ∈ WM, x.before args s = true) (hown : s.vm.findClass own = some m.cls) (hE : DEnv D ad cI cZ cP A s) (hP : Pic D ad cI cZ cP w G V U H) (hS : va_S A H0 H locs) {x y : Int32} (hin : vp_in x 20) (hdg : decode cc pc = .ok (.iastore, 1)) (kk : ∀ (H1 : Heap) (locs1 : List Loc), Pic D ad cI cZ cP w (pt G 28 0 x.toNatClampNeg y) V U H1 → va_S A H0 H1 locs1 → W p l e R s m args below meth c H1 locs1 0 0 Q (F0 m (pc + 1) ls (rest))) : W p l e R s m args below meth c H locs 0 0 Q (F0 m pc ls (.int y :: .int x :: .ref (ad 2 28 0) :: rest)) :=
  masG hx hb htm hown hE hP hS (k := 28) (by decide) (by decide) (fun _ => rfl) hin hdg kk
theorem al_29 (hx : p.tables.exec = Jvm.exec) (hb : c.code = cc) (htm : ∀ x ∈ WM, x.before args s = true) (hown : s.vm.findClass own = some m.cls) (hE : DEnv D ad cI cZ cP A s) (hP : Pic D ad cI cZ cP w G V U H) {x : Int32} (hin : vp_in x 20) (hdg : decode cc pc = .ok (.iaload, 1)) (kk : W p l e R s m args below meth c H locs 0 0 Q (F0 m (pc + 1) ls (.int (G 29 0 x.toNatClampNeg) :: rest))) : W p l e R s m args below meth c H locs 0 0 Q (F0 m pc ls (.int x :: .ref (ad 2 29 0) :: rest)) :=
  malG hx hb htm hown hE hP (k := 29) (by decide) (by decide) rfl hin hdg kk
theorem as_29 (hx : p.tables.exec = Jvm.exec) (hb : c.code = cc) (htm : ∀ x ∈ WM, x.before args s = true) (hown : s.vm.findClass own = some m.cls) (hE : DEnv D ad cI cZ cP A s) (hP : Pic D ad cI cZ cP w G V U H) (hS : va_S A H0 H locs) {x y : Int32} (hin : vp_in x 20) (hdg : decode cc pc = .ok (.iastore, 1)) (kk : ∀ (H1 : Heap) (locs1 : List Loc), Pic D ad cI cZ cP w (pt G 29 0 x.toNatClampNeg y) V U H1 → va_S A H0 H1 locs1 → W p l e R s m args below meth c H1 locs1 0 0 Q (F0 m (pc + 1) ls (rest))) : W p l e R s m args below meth c H locs 0 0 Q (F0 m pc ls (.int y :: .int x :: .ref (ad 2 29 0) :: rest)) :=
  masG hx hb htm hown hE hP hS (k := 29) (by decide) (by decide) (fun _ => rfl) hin hdg kk
theorem rc_0 (hE : DEnv D ad cI cZ cP A s) (hP : Pic D ad cI cZ cP w G V U H) (hw : w < 2) : ∃ cell : Cell, H[ad w 0 0]? = some cell ∧ cell.vm.isStatics = false ∧ s.vm.findClass RX5 = some cell.cls :=
  va_recv (q0 := 0) hE.1 (va_P.one (hP.at (k := 0) (i := 0) hw (by decide) (by decide))) (ci := 5) rfl rfl
theorem rc_7 (hE : DEnv D ad cI cZ cP A s) (hP : Pic D ad cI cZ cP w G V U H) (hw : w < 2) {i : Nat} (hi : i < 24) : ∃ cell : Cell, H[ad w 7 i]? = some cell ∧ cell.vm.isStatics = false ∧ s.vm.findClass RX2 = some cell.cls :=
  va_recv (q0 := 0) hE.1 (va_P.one (hP.at (k := 7) (i := i) hw (by decide) hi)) (ci := 2) rfl rfl
theorem rc_10 (hE : DEnv D ad cI cZ cP A s) (hP : Pic D ad cI cZ cP w G V U H) (hw : w < 2) {i : Nat} (hi : i < 24) : ∃ cell : Cell, H[ad w 10 i]? = some cell ∧ cell.vm.isStatics = false ∧ s.vm.findClass RX0 = some cell.cls :=
  va_recv (q0 := 0) hE.1 (va_P.one (hP.at (k := 10) (i := i) hw (by decide) hi)) (ci := 0) rfl rfl
theorem rc_13 (hE : DEnv D ad cI cZ cP A s) (hP : Pic D ad cI cZ cP w G V U H) (hw : w < 2) {i : Nat} (hi : i < 24) : ∃ cell : Cell, H[ad w 13 i]? = some cell ∧ cell.vm.isStatics = false ∧ s.vm.findClass RX4 = some cell.cls :=
  va_recv (q0 := 0) hE.1 (va_P.one (hP.at (k := 13) (i := i) hw (by decide) hi)) (ci := 4) rfl rfl
theorem rc_16 (hE : DEnv D ad cI cZ cP A s) (hP : Pic D ad cI cZ cP w G V U H) : ∃ cell : Cell, H[ad 2 16 0]? = some cell ∧ cell.vm.isStatics = false ∧ s.vm.findClass RX6 = some cell.cls :=
  va_recv (q0 := 0) hE.1 (va_P.one (hP.atG (k := 16) (by decide) (by decide))) (ci := 6) rfl rfl
theorem rc_17 (hE : DEnv D ad cI cZ cP A s) (hP : Pic D ad cI cZ cP w G V U H) : ∃ cell : Cell, H[ad 2 17 0]? = some cell ∧ cell.vm.isStatics = false ∧ s.vm.findClass RX1 = some cell.cls :=
  va_recv (q0 := 0) hE.1 (va_P.one (hP.atG (k := 17) (by decide) (by decide))) (ci := 1) rfl rfl
theorem rc_22 (hE : DEnv D ad cI cZ cP A s) (hP : Pic D ad cI cZ cP w G V U H) : ∃ cell : Cell, H[ad 2 22 0]? = some cell ∧ cell.vm.isStatics = false ∧ s.vm.findClass RX3 = some cell.cls :=
  va_recv (q0 := 0) hE.1 (va_P.one (hP.atG (k := 22) (by decide) (by decide))) (ci := 3) rfl rfl
end
end
section
/-! a method over the memory of a den: its entry, its ends, its calls -/
theorem gWM {ws : List Cond} (h : ∀ w ∈ ws, w ∈ WM) : GoodIn WM ws := fun w hw => ⟨h w hw, good_of_word (gd_WM w (h w hw))⟩
abbrev MX (p : Program) (s : State) (m : MethodId) (args : Array Value) (meth : Method) (c : Code) (cc : ByteArray) (own : String) (nL : Nat) (rt : Option FieldType) (D : va_G) (ad : Nat → Nat → Nat → Nat) (cI cZ cP : ClassId) (A : Nat → Prop) : Prop :=
  p.tables.exec = Jvm.exec ∧ c.code = cc ∧ c.maxLocals = nL ∧ s.vm.findClass own = some m.cls ∧ (∀ x ∈ WM, x.before args s = true) ∧ meth.sig.returnType = rt ∧ meth.locks = false ∧ DEnv D ad cI cZ cP A s
abbrev PcM (D : va_G) (ad : Nat → Nat → Nat → Nat) (cI cZ cP : ClassId) (A : Nat → Prop) (av : List Value) (P : Heap → Prop) : Array Value → State → Prop := va_Pc av (fun U => DEnv D ad cI cZ cP A U ∧ P U.heap)
abbrev QcI (A : Nat → Prop) (r : Int32) (P : Heap → Prop) : Array Value → State → Outcome → State → Prop := va_Qi (fun r' (_ : Unit) => r' = r) (fun _ t => P t.heap) A
abbrev QcL (A : Nat → Prop) (r : Int64) (P : Heap → Prop) : Array Value → State → Outcome → State → Prop := va_Ql (fun r' (_ : Unit) => r' = r) (fun _ t => P t.heap) A
abbrev QcV (A : Nat → Prop) (P : Heap → Prop) : Array Value → State → Outcome → State → Prop := va_Qv (fun (_ : Unit) => True) (fun _ t => P t.heap) A
abbrev QcQ (A : Nat → Prop) (r : Option Nat) (P : Heap → Prop) : Array Value → State → Outcome → State → Prop := va_Qq (fun r' (_ : Unit) => r' = r) (fun _ t => P t.heap) A
theorem m_entry {l : Launch} {y : MethodName} {cc : ByteArray} {nL : Nat} {rt : Option FieldType} {rm : Room} {D : va_G} {ad : Nat → Nat → Nat → Nat} {cI cZ cP : ClassId} {A : Nat → Prop} {av : List Value} {P : Heap → Prop} {Qc : Array Value → State → Outcome → State → Prop} (hy : plainName y.cls = true) (hsz : (lg_sl av).length ≤ nL)
    (body : ∀ (p : Program) (e : Env) (s : State) (m : MethodId) (below : List Frame) (meth : Method) (c : Code) (ls : Array Slot), MX p s m av.toArray meth c cc y.cls nL rt D ad cI cZ cP A → P s.heap → va_S A s.heap s.heap [] → lv_has ls nL (lv_args 0 av) → W p l e rm s m av.toArray below meth c s.heap [] 0 0 (MQ below Qc av.toArray s 0 0 A) (F0 m 0 ls [])) : Met l y (.code y cc nL rt :: WM) rm (PcM D ad cI cZ cP A av P) Qc 0 0 A := by
  refine Met.ofW (cc := cc) (maxL := nL) (ret := rt) hy rfl ?_
  intro p e s m args below meth c s₁ B hml hv
  obtain ⟨rfl, hE, hP⟩ := hv
  have hts := atoms_spec (ws := .code y cc nL rt :: WM) B.pre
  have hown : s.vm.findClass y.cls = some m.cls := findClass_of_methodNamed B.named
  have hl := lv_entry av (n := nL) hsz
  rw [lg_entry_eq]
  exact body p e s m below meth c _ ⟨B.exec, B.bytes, hml, hown, fun x hx => hts x (List.mem_cons_of_mem _ hx), B.returns, B.notSynchronized, hE⟩ hP va_S.rf hl
section
variable {p : Program} {l : Launch} {e : Env} {R : Room} {s : State} {m : MethodId} {args : Array Value} {below : List Frame} {meth : Method} {c : Code} {H : Heap} {locs : List Loc} {Q : State → Prop}
variable {cc : ByteArray} {pc nL : Nat} {rt : Option FieldType} {ls : Array Slot} {rest st0 : List Value} {D : va_G} {ad : Nat → Nat → Nat → Nat} {cI cZ cP : ClassId} {A : Nat → Prop} {H0 : Heap} {own : String} {index : Nat}
theorem m_iret (X : MX p s m args meth c cc own nL (some .int) D ad cI cZ cP A) (hS : va_S A s.heap H locs) {r x : Int32} {P : Heap → Prop} (hP : P H) (hv : x = r) (hdg : decode cc pc = .ok (.ireturn, 1)) : W p l e R s m args below meth c H locs 0 0 (MQ below (QcI A r P) args s 0 0 A) (F0 m pc ls [.int x]) := by
  obtain ⟨hx, hb, hml, hown, htm, hr, hlk, hE⟩ := X
  exact W.iret hx hb hr (fun t ht _ => ⟨⟨x, (), rfl, hv, by show P t.heap; rw [ht]; exact hP⟩, hS.F ht⟩) hS.2.2 hdg hlk
theorem m_zret (X : MX p s m args meth c cc own nL (some .boolean) D ad cI cZ cP A) (hS : va_S A s.heap H locs) {r x : Int32} {P : Heap → Prop} (hP : P H) (hv : x = r) (hz : x = 0 ∨ x = 1) (hdg : decode cc pc = .ok (.ireturn, 1)) : W p l e R s m args below meth c H locs 0 0 (MQ below (QcI A r P) args s 0 0 A) (F0 m pc ls [.int x]) := by
  obtain ⟨hx, hb, hml, hown, htm, hr, hlk, hE⟩ := X
  exact W.zret hx hb hr (by rcases hz with rfl | rfl <;> rfl) (fun t ht _ => ⟨⟨x, (), rfl, hv, by show P t.heap; rw [ht]; exact hP⟩, hS.F ht⟩) hS.2.2 hdg hlk
theorem m_lret (X : MX p s m args meth c cc own nL (some .long) D ad cI cZ cP A) (hS : va_S A s.heap H locs) {r x : Int64} {P : Heap → Prop} (hP : P H) (hv : x = r) (hdg : decode cc pc = .ok (.lreturn, 1)) : W p l e R s m args below meth c H locs 0 0 (MQ below (QcL A r P) args s 0 0 A) (F0 m pc ls [.long x]) := by
  obtain ⟨hx, hb, hml, hown, htm, hr, hlk, hE⟩ := X
  exact W.lret hx hb hr (fun t ht _ => ⟨⟨x, (), rfl, hv, by show P t.heap; rw [ht]; exact hP⟩, hS.F ht⟩) hS.2.2 hdg hlk
theorem m_vret (X : MX p s m args meth c cc own nL none D ad cI cZ cP A) (hS : va_S A s.heap H locs) {P : Heap → Prop} (hP : P H) (hdg : decode cc pc = .ok (.return_, 1)) : W p l e R s m args below meth c H locs 0 0 (MQ below (QcV A P) args s 0 0 A) (F0 m pc ls []) := by
  obtain ⟨hx, hb, hml, hown, htm, hr, hlk, hE⟩ := X
  exact W.vret hx hb hr (fun t ht _ => ⟨⟨(), rfl, trivial, by show P t.heap; rw [ht]; exact hP⟩, hS.F ht⟩) hS.2.2 hdg hlk
theorem m_aretR (X : MX p s m args meth c cc own nL (some (.object "MailDen$Proc")) D ad cI cZ cP A) (hS : va_S A s.heap H locs) {r : Option Nat} {x : Nat} {P : Heap → Prop} (hP : P H) (hv : some x = r) (hdg : decode cc pc = .ok (.areturn, 1)) : W p l e R s m args below meth c H locs 0 0 (MQ below (QcQ A r P) args s 0 0 A) (F0 m pc ls [.ref x]) := by
  obtain ⟨hx, hb, hml, hown, htm, hr, hlk, hE⟩ := X
  exact W.aret hx hb hr (Or.inl ⟨_, rfl⟩) (Or.inr ⟨x, rfl⟩) (fun t ht _ => ⟨⟨some x, (), rfl, hv, by show P t.heap; rw [ht]; exact hP⟩, hS.F ht⟩) hS.2.2 hdg hlk
theorem m_aretN (X : MX p s m args meth c cc own nL (some (.object "MailDen$Proc")) D ad cI cZ cP A) (hS : va_S A s.heap H locs) {r : Option Nat} {P : Heap → Prop} (hP : P H) (hv : none = r) (hdg : decode cc pc = .ok (.areturn, 1)) : W p l e R s m args below meth c H locs 0 0 (MQ below (QcQ A r P) args s 0 0 A) (F0 m pc ls [.null]) := by
  obtain ⟨hx, hb, hml, hown, htm, hr, hlk, hE⟩ := X
  exact W.aret hx hb hr (Or.inl ⟨_, rfl⟩) (Or.inl rfl) (fun t ht _ => ⟨⟨none, (), rfl, hv, by show P t.heap; rw [ht]; exact hP⟩, hS.F ht⟩) hS.2.2 hdg hlk
/-- the words of a callee -/
abbrev VW (C : String) (y : MethodName) (b : ByteArray) (n1 : Nat) (rt : Option FieldType) (n : Nat) : Prop := Cond.instanceMethod y ∈ WM ∧ Cond.selects C y y ∈ WM ∧ Cond.initialized C ∈ WM ∧ Cond.code y b n1 rt ∈ WM ∧ (y.cls = C ∧ y.cls ≠ "java/lang/invoke/MethodHandle" ∧ y.cls ≠ "java/lang/invoke/VarHandle" ∧ (parseMethodDescriptor y.desc).map (fun d => d.parameters.length) = some n)
abbrev SW (C : String) (y : MethodName) (b : ByteArray) (n1 : Nat) (rt : Option FieldType) (n : Nat) : Prop := Cond.static y ∈ WM ∧ Cond.initialized C ∈ WM ∧ Cond.code y b n1 rt ∈ WM ∧ (y.cls = C ∧ y.cls ≠ "java/lang/invoke/MethodHandle" ∧ y.cls ≠ "java/lang/invoke/VarHandle" ∧ (parseMethodDescriptor y.desc).map (fun d => d.parameters.length) = some n)
theorem gVW {C : String} {y : MethodName} {b : ByteArray} {n1 n : Nat} {rt : Option FieldType} (h : VW C y b n1 rt n) (hlk : Cond.methodLink own index y ∈ WM) : GoodIn WM (wsV own index C y (.code y b n1 rt :: WM)) := by
  refine gWM (fun w hw => ?_)
  unfold wsV at hw
  rcases List.mem_append.mp hw with h1 | h1
  · simp only [List.mem_cons, List.not_mem_nil, or_false] at h1
    rcases h1 with rfl | rfl | rfl | rfl
    · exact hlk
    · exact h.1
    · exact h.2.1
    · exact h.2.2.1
  · rcases List.mem_cons.mp h1 with rfl | h1
    · exact h.2.2.2.1
    · exact h1
theorem gSW {y : MethodName} {b : ByteArray} {n1 n : Nat} {rt : Option FieldType} (h : SW own y b n1 rt n) (hlk : Cond.methodLink own index y ∈ WM) : GoodIn WM (wsS own index y (.code y b n1 rt :: WM)) := by
  refine gWM (fun w hw => ?_)
  unfold wsS at hw
  rcases List.mem_append.mp hw with h1 | h1
  · simp only [List.mem_cons, List.not_mem_nil, or_false] at h1
    rcases h1 with rfl | rfl | rfl
    · exact hlk
    · exact h.1
    · exact h.2.1
  · rcases List.mem_cons.mp h1 with rfl | h1
    · exact h.2.2.1
    · exact h1
theorem gNW {C : String} {y : MethodName} {b : ByteArray} {n1 n : Nat} {rt : Option FieldType} (h : SW C y b n1 rt n) : GoodIn WM (.code y b n1 rt :: WM) := by
  refine gWM (fun w hw => ?_)
  rcases List.mem_cons.mp hw with rfl | h1
  · exact h.2.2.1
  · exact h1
theorem m_blind {av : List Value} {P : Heap → Prop} : FrameBlind (PcM D ad cI cZ cP A av P) := fun _ _ _ _ q => ⟨q.1, q.2.1.same rfl, q.2.2⟩

theorem m_cVi (X : MX p s m args meth c cc own nL rt D ad cI cZ cP A) (hS : va_S A H0 H locs) {y : MethodName} {b : ByteArray} {n1 n : Nat} {rt1 : Option FieldType} {rm : Room} {As : List Value} {P P1 : Heap → Prop} {C : String} {a : Nat} {r : Int32} (hV : VW C y b n1 rt1 n) (hlk : Cond.methodLink own index y ∈ WM) (hM : Met l y (.code y b n1 rt1 :: WM) rm (PcM D ad cI cZ cP A (.ref a :: As) P) (QcI A r P1) 0 0 A) (hrm : rm.cells = 0 ∧ rm.slots = 0) (hR : rm.frames + 1 ≤ R.frames ∧ 8 + (n1 + 11) + rm.locals ≤ R.locals) (hrc : ∃ cell : Cell, H[a]? = some cell ∧ cell.vm.isStatics = false ∧ s.vm.findClass C = some cell.cls) (hP : P H) (hn : As.length = n) (hl : ls.size = nL) (hst : st0 = As.reverse ++ .ref a :: rest) (hrest : (rest.map fun v => v.category).sum ≤ 8) (hdg : decode cc pc = .ok (.invokevirtual index, 3)) (kk : ∀ (H1 : Heap) (locs1 : List Loc), P1 H1 → va_S A H0 H1 locs1 → W p l e R s m args below meth c H1 locs1 0 0 Q (F0 m (pc + 3) ls (.int r :: rest))) : W p l e R s m args below meth c H locs 0 0 Q (F0 m pc ls st0) := by
  obtain ⟨hx, hb, hml, hown, htm, hr, hlk2, hE⟩ := X
  refine va_calli (A1 := A) (va_runV (As := As) (rest := rest) ⟨hx, hb, hml, hown, htm⟩ hM (cwV n htm (gVW hV hlk) rfl hrm.1 hrm.2 hV.2.2.2.2 hR) ⟨m_blind, hrc, fun U hU hW => ⟨rfl, hE.warm hW, by rw [hU]; exact hP⟩⟩ rfl hn hl hst (lv_room hrest) hdg ⟨Nat.zero_le _, Nat.zero_le _⟩) hS (fun q _ h => h) (fun q h => h) (fun r1 u t H1 locs1 ht hvm hp hB _ _ hS1 => ?_)
  subst hp; rw [ht] at hB; exact kk H1 locs1 hB hS1
theorem m_cVl (X : MX p s m args meth c cc own nL rt D ad cI cZ cP A) (hS : va_S A H0 H locs) {y : MethodName} {b : ByteArray} {n1 n : Nat} {rt1 : Option FieldType} {rm : Room} {As : List Value} {P P1 : Heap → Prop} {C : String} {a : Nat} {r : Int64} (hV : VW C y b n1 rt1 n) (hlk : Cond.methodLink own index y ∈ WM) (hM : Met l y (.code y b n1 rt1 :: WM) rm (PcM D ad cI cZ cP A (.ref a :: As) P) (QcL A r P1) 0 0 A) (hrm : rm.cells = 0 ∧ rm.slots = 0) (hR : rm.frames + 1 ≤ R.frames ∧ 8 + (n1 + 11) + rm.locals ≤ R.locals) (hrc : ∃ cell : Cell, H[a]? = some cell ∧ cell.vm.isStatics = false ∧ s.vm.findClass C = some cell.cls) (hP : P H) (hn : As.length = n) (hl : ls.size = nL) (hst : st0 = As.reverse ++ .ref a :: rest) (hrest : (rest.map fun v => v.category).sum ≤ 8) (hdg : decode cc pc = .ok (.invokevirtual index, 3)) (kk : ∀ (H1 : Heap) (locs1 : List Loc), P1 H1 → va_S A H0 H1 locs1 → W p l e R s m args below meth c H1 locs1 0 0 Q (F0 m (pc + 3) ls (.long r :: rest))) : W p l e R s m args below meth c H locs 0 0 Q (F0 m pc ls st0) := by
  obtain ⟨hx, hb, hml, hown, htm, hr, hlk2, hE⟩ := X
  refine va_calll (A1 := A) (va_runV (As := As) (rest := rest) ⟨hx, hb, hml, hown, htm⟩ hM (cwV n htm (gVW hV hlk) rfl hrm.1 hrm.2 hV.2.2.2.2 hR) ⟨m_blind, hrc, fun U hU hW => ⟨rfl, hE.warm hW, by rw [hU]; exact hP⟩⟩ rfl hn hl hst (lv_room hrest) hdg ⟨Nat.zero_le _, Nat.zero_le _⟩) hS (fun q _ h => h) (fun q h => h) (fun r1 u t H1 locs1 ht hvm hp hB _ _ hS1 => ?_)
  subst hp; rw [ht] at hB; exact kk H1 locs1 hB hS1
theorem m_cVv (X : MX p s m args meth c cc own nL rt D ad cI cZ cP A) (hS : va_S A H0 H locs) {y : MethodName} {b : ByteArray} {n1 n : Nat} {rt1 : Option FieldType} {rm : Room} {As : List Value} {P P1 : Heap → Prop} {C : String} {a : Nat}  (hV : VW C y b n1 rt1 n) (hlk : Cond.methodLink own index y ∈ WM) (hM : Met l y (.code y b n1 rt1 :: WM) rm (PcM D ad cI cZ cP A (.ref a :: As) P) (QcV A P1) 0 0 A) (hrm : rm.cells = 0 ∧ rm.slots = 0) (hR : rm.frames + 1 ≤ R.frames ∧ 8 + (n1 + 11) + rm.locals ≤ R.locals) (hrc : ∃ cell : Cell, H[a]? = some cell ∧ cell.vm.isStatics = false ∧ s.vm.findClass C = some cell.cls) (hP : P H) (hn : As.length = n) (hl : ls.size = nL) (hst : st0 = As.reverse ++ .ref a :: rest) (hrest : (rest.map fun v => v.category).sum ≤ 8) (hdg : decode cc pc = .ok (.invokevirtual index, 3)) (kk : ∀ (H1 : Heap) (locs1 : List Loc), P1 H1 → va_S A H0 H1 locs1 → W p l e R s m args below meth c H1 locs1 0 0 Q (F0 m (pc + 3) ls (rest))) : W p l e R s m args below meth c H locs 0 0 Q (F0 m pc ls st0) := by
  obtain ⟨hx, hb, hml, hown, htm, hr, hlk2, hE⟩ := X
  refine va_callv (A1 := A) (va_runV (As := As) (rest := rest) ⟨hx, hb, hml, hown, htm⟩ hM (cwV n htm (gVW hV hlk) rfl hrm.1 hrm.2 hV.2.2.2.2 hR) ⟨m_blind, hrc, fun U hU hW => ⟨rfl, hE.warm hW, by rw [hU]; exact hP⟩⟩ rfl hn hl hst (lv_room hrest) hdg ⟨Nat.zero_le _, Nat.zero_le _⟩) hS (fun q _ h => h) (fun q h => h) (fun u t H1 locs1 ht hvm hp hB _ _ hS1 => ?_)
  rw [ht] at hB; exact kk H1 locs1 hB hS1
theorem m_cVq (X : MX p s m args meth c cc own nL rt D ad cI cZ cP A) (hS : va_S A H0 H locs) {y : MethodName} {b : ByteArray} {n1 n : Nat} {rt1 : Option FieldType} {rm : Room} {As : List Value} {P P1 : Heap → Prop} {C : String} {a : Nat} {r : Option Nat} (hV : VW C y b n1 rt1 n) (hlk : Cond.methodLink own index y ∈ WM) (hM : Met l y (.code y b n1 rt1 :: WM) rm (PcM D ad cI cZ cP A (.ref a :: As) P) (QcQ A r P1) 0 0 A) (hrm : rm.cells = 0 ∧ rm.slots = 0) (hR : rm.frames + 1 ≤ R.frames ∧ 8 + (n1 + 11) + rm.locals ≤ R.locals) (hrc : ∃ cell : Cell, H[a]? = some cell ∧ cell.vm.isStatics = false ∧ s.vm.findClass C = some cell.cls) (hP : P H) (hn : As.length = n) (hl : ls.size = nL) (hst : st0 = As.reverse ++ .ref a :: rest) (hrest : (rest.map fun v => v.category).sum ≤ 8) (hdg : decode cc pc = .ok (.invokevirtual index, 3)) (kk : ∀ (H1 : Heap) (locs1 : List Loc), P1 H1 → va_S A H0 H1 locs1 → W p l e R s m args below meth c H1 locs1 0 0 Q (F0 m (pc + 3) ls (va_rf r :: rest))) : W p l e R s m args below meth c H locs 0 0 Q (F0 m pc ls st0) := by
  obtain ⟨hx, hb, hml, hown, htm, hr, hlk2, hE⟩ := X
  refine va_callq (A1 := A) (va_runV (As := As) (rest := rest) ⟨hx, hb, hml, hown, htm⟩ hM (cwV n htm (gVW hV hlk) rfl hrm.1 hrm.2 hV.2.2.2.2 hR) ⟨m_blind, hrc, fun U hU hW => ⟨rfl, hE.warm hW, by rw [hU]; exact hP⟩⟩ rfl hn hl hst (lv_room hrest) hdg ⟨Nat.zero_le _, Nat.zero_le _⟩) hS (fun q _ h => h) (fun q h => h) (fun r1 u t H1 locs1 ht hvm hp hB _ _ hS1 => ?_)
  subst hp; rw [ht] at hB; exact kk H1 locs1 hB hS1
theorem m_cSi (X : MX p s m args meth c cc own nL rt D ad cI cZ cP A) (hS : va_S A H0 H locs) {y : MethodName} {b : ByteArray} {n1 n : Nat} {rt1 : Option FieldType} {rm : Room} {As : List Value} {P P1 : Heap → Prop}  {r : Int32} (hV : SW own y b n1 rt1 n) (hlk : Cond.methodLink own index y ∈ WM) (hM : Met l y (.code y b n1 rt1 :: WM) rm (PcM D ad cI cZ cP A As P) (QcI A r P1) 0 0 A) (hrm : rm.cells = 0 ∧ rm.slots = 0) (hR : rm.frames + 1 ≤ R.frames ∧ 8 + (n1 + 11) + rm.locals ≤ R.locals) (hP : P H) (hn : As.length = n) (hl : ls.size = nL) (hst : st0 = As.reverse ++ rest) (hrest : (rest.map fun v => v.category).sum ≤ 8) (hdg : decode cc pc = .ok (.invokestatic index, 3)) (kk : ∀ (H1 : Heap) (locs1 : List Loc), P1 H1 → va_S A H0 H1 locs1 → W p l e R s m args below meth c H1 locs1 0 0 Q (F0 m (pc + 3) ls (.int r :: rest))) : W p l e R s m args below meth c H locs 0 0 Q (F0 m pc ls st0) := by
  obtain ⟨hx, hb, hml, hown, htm, hr, hlk2, hE⟩ := X
  refine va_calli (A1 := A) (va_runS (As := As) (rest := rest) ⟨hx, hb, hml, hown, htm⟩ hM (cwS n htm (gSW hV hlk) rfl hrm.1 hrm.2 hV.2.2.2 hR) ⟨m_blind, fun U hU hW => ⟨rfl, hE.warm hW, by rw [hU]; exact hP⟩⟩ rfl hn hl hst (lv_room hrest) hdg ⟨Nat.zero_le _, Nat.zero_le _⟩) hS (fun q _ h => h) (fun q h => h) (fun r1 u t H1 locs1 ht hvm hp hB _ _ hS1 => ?_)
  subst hp; rw [ht] at hB; exact kk H1 locs1 hB hS1
theorem m_cSl (X : MX p s m args meth c cc own nL rt D ad cI cZ cP A) (hS : va_S A H0 H locs) {y : MethodName} {b : ByteArray} {n1 n : Nat} {rt1 : Option FieldType} {rm : Room} {As : List Value} {P P1 : Heap → Prop}  {r : Int64} (hV : SW own y b n1 rt1 n) (hlk : Cond.methodLink own index y ∈ WM) (hM : Met l y (.code y b n1 rt1 :: WM) rm (PcM D ad cI cZ cP A As P) (QcL A r P1) 0 0 A) (hrm : rm.cells = 0 ∧ rm.slots = 0) (hR : rm.frames + 1 ≤ R.frames ∧ 8 + (n1 + 11) + rm.locals ≤ R.locals) (hP : P H) (hn : As.length = n) (hl : ls.size = nL) (hst : st0 = As.reverse ++ rest) (hrest : (rest.map fun v => v.category).sum ≤ 8) (hdg : decode cc pc = .ok (.invokestatic index, 3)) (kk : ∀ (H1 : Heap) (locs1 : List Loc), P1 H1 → va_S A H0 H1 locs1 → W p l e R s m args below meth c H1 locs1 0 0 Q (F0 m (pc + 3) ls (.long r :: rest))) : W p l e R s m args below meth c H locs 0 0 Q (F0 m pc ls st0) := by
  obtain ⟨hx, hb, hml, hown, htm, hr, hlk2, hE⟩ := X
  refine va_calll (A1 := A) (va_runS (As := As) (rest := rest) ⟨hx, hb, hml, hown, htm⟩ hM (cwS n htm (gSW hV hlk) rfl hrm.1 hrm.2 hV.2.2.2 hR) ⟨m_blind, fun U hU hW => ⟨rfl, hE.warm hW, by rw [hU]; exact hP⟩⟩ rfl hn hl hst (lv_room hrest) hdg ⟨Nat.zero_le _, Nat.zero_le _⟩) hS (fun q _ h => h) (fun q h => h) (fun r1 u t H1 locs1 ht hvm hp hB _ _ hS1 => ?_)
  subst hp; rw [ht] at hB; exact kk H1 locs1 hB hS1
theorem m_cSv (X : MX p s m args meth c cc own nL rt D ad cI cZ cP A) (hS : va_S A H0 H locs) {y : MethodName} {b : ByteArray} {n1 n : Nat} {rt1 : Option FieldType} {rm : Room} {As : List Value} {P P1 : Heap → Prop}   (hV : SW own y b n1 rt1 n) (hlk : Cond.methodLink own index y ∈ WM) (hM : Met l y (.code y b n1 rt1 :: WM) rm (PcM D ad cI cZ cP A As P) (QcV A P1) 0 0 A) (hrm : rm.cells = 0 ∧ rm.slots = 0) (hR : rm.frames + 1 ≤ R.frames ∧ 8 + (n1 + 11) + rm.locals ≤ R.locals) (hP : P H) (hn : As.length = n) (hl : ls.size = nL) (hst : st0 = As.reverse ++ rest) (hrest : (rest.map fun v => v.category).sum ≤ 8) (hdg : decode cc pc = .ok (.invokestatic index, 3)) (kk : ∀ (H1 : Heap) (locs1 : List Loc), P1 H1 → va_S A H0 H1 locs1 → W p l e R s m args below meth c H1 locs1 0 0 Q (F0 m (pc + 3) ls (rest))) : W p l e R s m args below meth c H locs 0 0 Q (F0 m pc ls st0) := by
  obtain ⟨hx, hb, hml, hown, htm, hr, hlk2, hE⟩ := X
  refine va_callv (A1 := A) (va_runS (As := As) (rest := rest) ⟨hx, hb, hml, hown, htm⟩ hM (cwS n htm (gSW hV hlk) rfl hrm.1 hrm.2 hV.2.2.2 hR) ⟨m_blind, fun U hU hW => ⟨rfl, hE.warm hW, by rw [hU]; exact hP⟩⟩ rfl hn hl hst (lv_room hrest) hdg ⟨Nat.zero_le _, Nat.zero_le _⟩) hS (fun q _ h => h) (fun q h => h) (fun u t H1 locs1 ht hvm hp hB _ _ hS1 => ?_)
  rw [ht] at hB; exact kk H1 locs1 hB hS1
theorem m_cSq (X : MX p s m args meth c cc own nL rt D ad cI cZ cP A) (hS : va_S A H0 H locs) {y : MethodName} {b : ByteArray} {n1 n : Nat} {rt1 : Option FieldType} {rm : Room} {As : List Value} {P P1 : Heap → Prop}  {r : Option Nat} (hV : SW own y b n1 rt1 n) (hlk : Cond.methodLink own index y ∈ WM) (hM : Met l y (.code y b n1 rt1 :: WM) rm (PcM D ad cI cZ cP A As P) (QcQ A r P1) 0 0 A) (hrm : rm.cells = 0 ∧ rm.slots = 0) (hR : rm.frames + 1 ≤ R.frames ∧ 8 + (n1 + 11) + rm.locals ≤ R.locals) (hP : P H) (hn : As.length = n) (hl : ls.size = nL) (hst : st0 = As.reverse ++ rest) (hrest : (rest.map fun v => v.category).sum ≤ 8) (hdg : decode cc pc = .ok (.invokestatic index, 3)) (kk : ∀ (H1 : Heap) (locs1 : List Loc), P1 H1 → va_S A H0 H1 locs1 → W p l e R s m args below meth c H1 locs1 0 0 Q (F0 m (pc + 3) ls (va_rf r :: rest))) : W p l e R s m args below meth c H locs 0 0 Q (F0 m pc ls st0) := by
  obtain ⟨hx, hb, hml, hown, htm, hr, hlk2, hE⟩ := X
  refine va_callq (A1 := A) (va_runS (As := As) (rest := rest) ⟨hx, hb, hml, hown, htm⟩ hM (cwS n htm (gSW hV hlk) rfl hrm.1 hrm.2 hV.2.2.2 hR) ⟨m_blind, fun U hU hW => ⟨rfl, hE.warm hW, by rw [hU]; exact hP⟩⟩ rfl hn hl hst (lv_room hrest) hdg ⟨Nat.zero_le _, Nat.zero_le _⟩) hS (fun q _ h => h) (fun q h => h) (fun r1 u t H1 locs1 ht hvm hp hB _ _ hS1 => ?_)
  subst hp; rw [ht] at hB; exact kk H1 locs1 hB hS1
theorem m_cNi (X : MX p s m args meth c cc own nL rt D ad cI cZ cP A) (hS : va_S A H0 H locs) {y : MethodName} {b : ByteArray} {n1 n : Nat} {rt1 : Option FieldType} {rm : Room} {As : List Value} {P P1 : Heap → Prop} {C host : String} {r : Int32} (hV : SW C y b n1 rt1 n) (hlk : (own, index, y, host) ∈ nestL) (hM : Met l y (.code y b n1 rt1 :: WM) rm (PcM D ad cI cZ cP A As P) (QcI A r P1) 0 0 A) (hrm : rm.cells = 0 ∧ rm.slots = 0) (hR : rm.frames + 1 ≤ R.frames ∧ 8 + (n1 + 11) + rm.locals ≤ R.locals) (hP : P H) (hn : As.length = n) (hl : ls.size = nL) (hst : st0 = As.reverse ++ rest) (hrest : (rest.map fun v => v.category).sum ≤ 8) (hdg : decode cc pc = .ok (.invokestatic index, 3)) (kk : ∀ (H1 : Heap) (locs1 : List Loc), P1 H1 → va_S A H0 H1 locs1 → W p l e R s m args below meth c H1 locs1 0 0 Q (F0 m (pc + 3) ls (.int r :: rest))) : W p l e R s m args below meth c H locs 0 0 Q (F0 m pc ls st0) := by
  obtain ⟨hx, hb, hml, hown, htm, hr, hlk2, hE⟩ := X
  refine va_calli (A1 := A) (va_runSN (As := As) (rest := rest) (host := host) ⟨hx, hb, hml, hown, htm⟩ hM ⟨va_cnB n htm (gNW hV) rfl hrm.1 hrm.2 (hE.2.1 _ hlk) (by rw [hV.2.2.2.1]; exact htm _ hV.2.1) hV.2.2.2.2 hR, htm _ hV.1, trivial⟩ ⟨m_blind, fun U hU hW => ⟨rfl, hE.warm hW, by rw [hU]; exact hP⟩⟩ rfl hn hl hst (lv_room hrest) hdg ⟨Nat.zero_le _, Nat.zero_le _⟩) hS (fun q _ h => h) (fun q h => h) (fun r1 u t H1 locs1 ht hvm hp hB _ _ hS1 => ?_)
  subst hp; rw [ht] at hB; exact kk H1 locs1 hB hS1
theorem m_cNl (X : MX p s m args meth c cc own nL rt D ad cI cZ cP A) (hS : va_S A H0 H locs) {y : MethodName} {b : ByteArray} {n1 n : Nat} {rt1 : Option FieldType} {rm : Room} {As : List Value} {P P1 : Heap → Prop} {C host : String} {r : Int64} (hV : SW C y b n1 rt1 n) (hlk : (own, index, y, host) ∈ nestL) (hM : Met l y (.code y b n1 rt1 :: WM) rm (PcM D ad cI cZ cP A As P) (QcL A r P1) 0 0 A) (hrm : rm.cells = 0 ∧ rm.slots = 0) (hR : rm.frames + 1 ≤ R.frames ∧ 8 + (n1 + 11) + rm.locals ≤ R.locals) (hP : P H) (hn : As.length = n) (hl : ls.size = nL) (hst : st0 = As.reverse ++ rest) (hrest : (rest.map fun v => v.category).sum ≤ 8) (hdg : decode cc pc = .ok (.invokestatic index, 3)) (kk : ∀ (H1 : Heap) (locs1 : List Loc), P1 H1 → va_S A H0 H1 locs1 → W p l e R s m args below meth c H1 locs1 0 0 Q (F0 m (pc + 3) ls (.long r :: rest))) : W p l e R s m args below meth c H locs 0 0 Q (F0 m pc ls st0) := by
  obtain ⟨hx, hb, hml, hown, htm, hr, hlk2, hE⟩ := X
  refine va_calll (A1 := A) (va_runSN (As := As) (rest := rest) (host := host) ⟨hx, hb, hml, hown, htm⟩ hM ⟨va_cnB n htm (gNW hV) rfl hrm.1 hrm.2 (hE.2.1 _ hlk) (by rw [hV.2.2.2.1]; exact htm _ hV.2.1) hV.2.2.2.2 hR, htm _ hV.1, trivial⟩ ⟨m_blind, fun U hU hW => ⟨rfl, hE.warm hW, by rw [hU]; exact hP⟩⟩ rfl hn hl hst (lv_room hrest) hdg ⟨Nat.zero_le _, Nat.zero_le _⟩) hS (fun q _ h => h) (fun q h => h) (fun r1 u t H1 locs1 ht hvm hp hB _ _ hS1 => ?_)
  subst hp; rw [ht] at hB; exact kk H1 locs1 hB hS1
theorem m_cNv (X : MX p s m args meth c cc own nL rt D ad cI cZ cP A) (hS : va_S A H0 H locs) {y : MethodName} {b : ByteArray} {n1 n : Nat} {rt1 : Option FieldType} {rm : Room} {As : List Value} {P P1 : Heap → Prop} {C host : String}  (hV : SW C y b n1 rt1 n) (hlk : (own, index, y, host) ∈ nestL) (hM : Met l y (.code y b n1 rt1 :: WM) rm (PcM D ad cI cZ cP A As P) (QcV A P1) 0 0 A) (hrm : rm.cells = 0 ∧ rm.slots = 0) (hR : rm.frames + 1 ≤ R.frames ∧ 8 + (n1 + 11) + rm.locals ≤ R.locals) (hP : P H) (hn : As.length = n) (hl : ls.size = nL) (hst : st0 = As.reverse ++ rest) (hrest : (rest.map fun v => v.category).sum ≤ 8) (hdg : decode cc pc = .ok (.invokestatic index, 3)) (kk : ∀ (H1 : Heap) (locs1 : List Loc), P1 H1 → va_S A H0 H1 locs1 → W p l e R s m args below meth c H1 locs1 0 0 Q (F0 m (pc + 3) ls (rest))) : W p l e R s m args below meth c H locs 0 0 Q (F0 m pc ls st0) := by
  obtain ⟨hx, hb, hml, hown, htm, hr, hlk2, hE⟩ := X
  refine va_callv (A1 := A) (va_runSN (As := As) (rest := rest) (host := host) ⟨hx, hb, hml, hown, htm⟩ hM ⟨va_cnB n htm (gNW hV) rfl hrm.1 hrm.2 (hE.2.1 _ hlk) (by rw [hV.2.2.2.1]; exact htm _ hV.2.1) hV.2.2.2.2 hR, htm _ hV.1, trivial⟩ ⟨m_blind, fun U hU hW => ⟨rfl, hE.warm hW, by rw [hU]; exact hP⟩⟩ rfl hn hl hst (lv_room hrest) hdg ⟨Nat.zero_le _, Nat.zero_le _⟩) hS (fun q _ h => h) (fun q h => h) (fun u t H1 locs1 ht hvm hp hB _ _ hS1 => ?_)
  rw [ht] at hB; exact kk H1 locs1 hB hS1
theorem m_cNq (X : MX p s m args meth c cc own nL rt D ad cI cZ cP A) (hS : va_S A H0 H locs) {y : MethodName} {b : ByteArray} {n1 n : Nat} {rt1 : Option FieldType} {rm : Room} {As : List Value} {P P1 : Heap → Prop} {C host : String} {r : Option Nat} (hV : SW C y b n1 rt1 n) (hlk : (own, index, y, host) ∈ nestL) (hM : Met l y (.code y b n1 rt1 :: WM) rm (PcM D ad cI cZ cP A As P) (QcQ A r P1) 0 0 A) (hrm : rm.cells = 0 ∧ rm.slots = 0) (hR : rm.frames + 1 ≤ R.frames ∧ 8 + (n1 + 11) + rm.locals ≤ R.locals) (hP : P H) (hn : As.length = n) (hl : ls.size = nL) (hst : st0 = As.reverse ++ rest) (hrest : (rest.map fun v => v.category).sum ≤ 8) (hdg : decode cc pc = .ok (.invokestatic index, 3)) (kk : ∀ (H1 : Heap) (locs1 : List Loc), P1 H1 → va_S A H0 H1 locs1 → W p l e R s m args below meth c H1 locs1 0 0 Q (F0 m (pc + 3) ls (va_rf r :: rest))) : W p l e R s m args below meth c H locs 0 0 Q (F0 m pc ls st0) := by
  obtain ⟨hx, hb, hml, hown, htm, hr, hlk2, hE⟩ := X
  refine va_callq (A1 := A) (va_runSN (As := As) (rest := rest) (host := host) ⟨hx, hb, hml, hown, htm⟩ hM ⟨va_cnB n htm (gNW hV) rfl hrm.1 hrm.2 (hE.2.1 _ hlk) (by rw [hV.2.2.2.1]; exact htm _ hV.2.1) hV.2.2.2.2 hR, htm _ hV.1, trivial⟩ ⟨m_blind, fun U hU hW => ⟨rfl, hE.warm hW, by rw [hU]; exact hP⟩⟩ rfl hn hl hst (lv_room hrest) hdg ⟨Nat.zero_le _, Nat.zero_le _⟩) hS (fun q _ h => h) (fun q h => h) (fun r1 u t H1 locs1 ht hvm hp hB _ _ hS1 => ?_)
  subst hp; rw [ht] at hB; exact kk H1 locs1 hB hS1
theorem m_cOi (X : MX p s m args meth c cc own nL rt D ad cI cZ cP A) (hS : va_S A H0 H locs) {y : MethodName} {b : ByteArray} {n1 n : Nat} {rt1 : Option FieldType} {rm : Room} {As : List Value} {P P1 : Heap → Prop} {C : String} {r : Int32} (hV : SW C y b n1 rt1 n) (hlk : Cond.methodLink own index y ∈ WM) (hM : Met l y (.code y b n1 rt1 :: WM) rm (PcM D ad cI cZ cP A As P) (QcI A r P1) 0 0 A) (hrm : rm.cells = 0 ∧ rm.slots = 0) (hR : rm.frames + 1 ≤ R.frames ∧ 8 + (n1 + 11) + rm.locals ≤ R.locals) (hP : P H) (hn : As.length = n) (hl : ls.size = nL) (hst : st0 = As.reverse ++ rest) (hrest : (rest.map fun v => v.category).sum ≤ 8) (hdg : decode cc pc = .ok (.invokestatic index, 3)) (kk : ∀ (H1 : Heap) (locs1 : List Loc), P1 H1 → va_S A H0 H1 locs1 → W p l e R s m args below meth c H1 locs1 0 0 Q (F0 m (pc + 3) ls (.int r :: rest))) : W p l e R s m args below meth c H locs 0 0 Q (F0 m pc ls st0) := by
  obtain ⟨hx, hb, hml, hown, htm, hr, hlk2, hE⟩ := X
  refine va_calli (A1 := A) (va_runS (As := As) (rest := rest) ⟨hx, hb, hml, hown, htm⟩ hM ⟨callB_of n htm (gNW hV) rfl hrm.1 hrm.2 (by rw [hV.2.2.2.1]; exact htm _ hV.2.1) (htm _ hlk) hV.2.2.2.2 hR, htm _ hV.1⟩ ⟨m_blind, fun U hU hW => ⟨rfl, hE.warm hW, by rw [hU]; exact hP⟩⟩ rfl hn hl hst (lv_room hrest) hdg ⟨Nat.zero_le _, Nat.zero_le _⟩) hS (fun q _ h => h) (fun q h => h) (fun r1 u t H1 locs1 ht hvm hp hB _ _ hS1 => ?_)
  subst hp; rw [ht] at hB; exact kk H1 locs1 hB hS1
theorem m_cOl (X : MX p s m args meth c cc own nL rt D ad cI cZ cP A) (hS : va_S A H0 H locs) {y : MethodName} {b : ByteArray} {n1 n : Nat} {rt1 : Option FieldType} {rm : Room} {As : List Value} {P P1 : Heap → Prop} {C : String} {r : Int64} (hV : SW C y b n1 rt1 n) (hlk : Cond.methodLink own index y ∈ WM) (hM : Met l y (.code y b n1 rt1 :: WM) rm (PcM D ad cI cZ cP A As P) (QcL A r P1) 0 0 A) (hrm : rm.cells = 0 ∧ rm.slots = 0) (hR : rm.frames + 1 ≤ R.frames ∧ 8 + (n1 + 11) + rm.locals ≤ R.locals) (hP : P H) (hn : As.length = n) (hl : ls.size = nL) (hst : st0 = As.reverse ++ rest) (hrest : (rest.map fun v => v.category).sum ≤ 8) (hdg : decode cc pc = .ok (.invokestatic index, 3)) (kk : ∀ (H1 : Heap) (locs1 : List Loc), P1 H1 → va_S A H0 H1 locs1 → W p l e R s m args below meth c H1 locs1 0 0 Q (F0 m (pc + 3) ls (.long r :: rest))) : W p l e R s m args below meth c H locs 0 0 Q (F0 m pc ls st0) := by
  obtain ⟨hx, hb, hml, hown, htm, hr, hlk2, hE⟩ := X
  refine va_calll (A1 := A) (va_runS (As := As) (rest := rest) ⟨hx, hb, hml, hown, htm⟩ hM ⟨callB_of n htm (gNW hV) rfl hrm.1 hrm.2 (by rw [hV.2.2.2.1]; exact htm _ hV.2.1) (htm _ hlk) hV.2.2.2.2 hR, htm _ hV.1⟩ ⟨m_blind, fun U hU hW => ⟨rfl, hE.warm hW, by rw [hU]; exact hP⟩⟩ rfl hn hl hst (lv_room hrest) hdg ⟨Nat.zero_le _, Nat.zero_le _⟩) hS (fun q _ h => h) (fun q h => h) (fun r1 u t H1 locs1 ht hvm hp hB _ _ hS1 => ?_)
  subst hp; rw [ht] at hB; exact kk H1 locs1 hB hS1
theorem m_cOv (X : MX p s m args meth c cc own nL rt D ad cI cZ cP A) (hS : va_S A H0 H locs) {y : MethodName} {b : ByteArray} {n1 n : Nat} {rt1 : Option FieldType} {rm : Room} {As : List Value} {P P1 : Heap → Prop} {C : String}  (hV : SW C y b n1 rt1 n) (hlk : Cond.methodLink own index y ∈ WM) (hM : Met l y (.code y b n1 rt1 :: WM) rm (PcM D ad cI cZ cP A As P) (QcV A P1) 0 0 A) (hrm : rm.cells = 0 ∧ rm.slots = 0) (hR : rm.frames + 1 ≤ R.frames ∧ 8 + (n1 + 11) + rm.locals ≤ R.locals) (hP : P H) (hn : As.length = n) (hl : ls.size = nL) (hst : st0 = As.reverse ++ rest) (hrest : (rest.map fun v => v.category).sum ≤ 8) (hdg : decode cc pc = .ok (.invokestatic index, 3)) (kk : ∀ (H1 : Heap) (locs1 : List Loc), P1 H1 → va_S A H0 H1 locs1 → W p l e R s m args below meth c H1 locs1 0 0 Q (F0 m (pc + 3) ls (rest))) : W p l e R s m args below meth c H locs 0 0 Q (F0 m pc ls st0) := by
  obtain ⟨hx, hb, hml, hown, htm, hr, hlk2, hE⟩ := X
  refine va_callv (A1 := A) (va_runS (As := As) (rest := rest) ⟨hx, hb, hml, hown, htm⟩ hM ⟨callB_of n htm (gNW hV) rfl hrm.1 hrm.2 (by rw [hV.2.2.2.1]; exact htm _ hV.2.1) (htm _ hlk) hV.2.2.2.2 hR, htm _ hV.1⟩ ⟨m_blind, fun U hU hW => ⟨rfl, hE.warm hW, by rw [hU]; exact hP⟩⟩ rfl hn hl hst (lv_room hrest) hdg ⟨Nat.zero_le _, Nat.zero_le _⟩) hS (fun q _ h => h) (fun q h => h) (fun u t H1 locs1 ht hvm hp hB _ _ hS1 => ?_)
  rw [ht] at hB; exact kk H1 locs1 hB hS1
theorem m_cOq (X : MX p s m args meth c cc own nL rt D ad cI cZ cP A) (hS : va_S A H0 H locs) {y : MethodName} {b : ByteArray} {n1 n : Nat} {rt1 : Option FieldType} {rm : Room} {As : List Value} {P P1 : Heap → Prop} {C : String} {r : Option Nat} (hV : SW C y b n1 rt1 n) (hlk : Cond.methodLink own index y ∈ WM) (hM : Met l y (.code y b n1 rt1 :: WM) rm (PcM D ad cI cZ cP A As P) (QcQ A r P1) 0 0 A) (hrm : rm.cells = 0 ∧ rm.slots = 0) (hR : rm.frames + 1 ≤ R.frames ∧ 8 + (n1 + 11) + rm.locals ≤ R.locals) (hP : P H) (hn : As.length = n) (hl : ls.size = nL) (hst : st0 = As.reverse ++ rest) (hrest : (rest.map fun v => v.category).sum ≤ 8) (hdg : decode cc pc = .ok (.invokestatic index, 3)) (kk : ∀ (H1 : Heap) (locs1 : List Loc), P1 H1 → va_S A H0 H1 locs1 → W p l e R s m args below meth c H1 locs1 0 0 Q (F0 m (pc + 3) ls (va_rf r :: rest))) : W p l e R s m args below meth c H locs 0 0 Q (F0 m pc ls st0) := by
  obtain ⟨hx, hb, hml, hown, htm, hr, hlk2, hE⟩ := X
  refine va_callq (A1 := A) (va_runS (As := As) (rest := rest) ⟨hx, hb, hml, hown, htm⟩ hM ⟨callB_of n htm (gNW hV) rfl hrm.1 hrm.2 (by rw [hV.2.2.2.1]; exact htm _ hV.2.1) (htm _ hlk) hV.2.2.2.2 hR, htm _ hV.1⟩ ⟨m_blind, fun U hU hW => ⟨rfl, hE.warm hW, by rw [hU]; exact hP⟩⟩ rfl hn hl hst (lv_room hrest) hdg ⟨Nat.zero_le _, Nat.zero_le _⟩) hS (fun q _ h => h) (fun q h => h) (fun r1 u t H1 locs1 ht hvm hp hB _ _ hS1 => ?_)
  subst hp; rw [ht] at hB; exact kk H1 locs1 hB hS1
end
theorem ite_T {α : Type} {c : Prop} [Decidable c] {a b r : α} (h : c) (e : (if c then a else b) = r) : a = r := by rw [if_pos h] at e; exact e
theorem ite_F {α : Type} {c : Prop} [Decidable c] {a b r : α} (h : ¬ c) (e : (if c then a else b) = r) : b = r := by rw [if_neg h] at e; exact e
theorem ite_S {α : Type} {c : Prop} [Decidable c] {a : Option α} {r : α} (e : (if c then a else none) = some r) : c ∧ a = some r := by
  by_cases h : c
  · rw [if_pos h] at e; exact ⟨h, e⟩
  · rw [if_neg h] at e; cases e
theorem ob_S {α β : Type} {o : Option α} {k : α → Option β} {r : β} (e : o.bind k = some r) : ∃ a, o = some a ∧ k a = some r := by
  cases o with
  | none => cases e
  | some a => exact ⟨a, rfl, e⟩
theorem ns_S {α : Type} {r : α} {P : Prop} (e : (none : Option α) = some r) : P := by cases e
end
section
/-! arrays are copied out of the other world; two things are one -/
section
variable {p : Program} {l : Launch} {e : Env} {R : Room} {s : State} {m : MethodId} {args : Array Value} {below : List Frame} {meth : Method} {c : Code} {H : Heap} {locs : List Loc} {Q : State → Prop}
variable {cc : ByteArray} {pc : Nat} {ls : Array Slot} {rest : List Value} {D : va_G} {ad : Nat → Nat → Nat → Nat} {cI cZ cP : ClassId} {A : Nat → Prop} {w : Nat} {G V U : Nat → Nat → Nat → Int32} {H0 : Heap} {own : String} {index : Nat}

theorem Pic.spotU {w' k i : Nat} (hww : w + w' = 1) (hk : k < 16) (hi : i < cnt k) : ∃ q : Nat, (wsA ad (oe ad cI cZ cP (Mm w G V U)))[q]? = some (ad w' k i, ob ad cI cZ cP w' k i (U k i)) := by
  obtain ⟨q, hq⟩ := wsA_at (ad := ad) (e := oe ad cI cZ cP (Mm w G V U)) (rl_in (w := w') (Or.inl ⟨hk, by omega, hi⟩))
  unfold oe at hq
  rw [show Mm w G V U (w', k, i) = U k i by unfold Mm; rw [if_neg (by show ¬ 16 ≤ k; omega), if_neg (by show ¬ w' = w; omega)]] at hq
  exact ⟨q, hq⟩
theorem ac_eq (hL : Lay ad A) (hw : w < 2) {i j : Nat} (hi : i < 24) (hj : j < 24) (h : some (ad w 7 i) = some (ad w 7 j)) : i = j := by
  have := hL.ne (w := w) (k := 7) (i := i) (w' := w) (k' := 7) (i' := j) (Or.inl ⟨by decide, hw, hi⟩) (Or.inl ⟨by decide, hw, hj⟩) (Option.some.inj h)
  simp only [Prod.mk.injEq] at this
  exact this.2.2
theorem ac_ne {i j : Nat} (h : ¬ some (ad w 7 i) = some (ad w 7 j)) : ¬ i = j := fun q => h (by rw [q])
theorem mcpy (hx : p.tables.exec = Jvm.exec) (hb : c.code = cc) (hml : c.maxLocals = ls.size) (hown : s.vm.findClass own = some m.cls) (htm : ∀ x ∈ WM, x.before args s = true) (hE : DEnv D ad cI cZ cP A s) (hP : Pic D ad cI cZ cP w G V U H) (hS : va_S A H0 H locs) {w' : Nat} (hw : w < 2) (hw' : w' < 2) (hww : w + w' = 1) {k i i' n : Nat} {nn : Int32} (hk : k < 16) (hi : i < cnt k) (hi' : i' < cnt k) (ho : ∀ w i g, ob ad cI cZ cP w k i g = .inl (cI, n, .inl g)) (hn0 : ¬ nn < 0) (hn : nn.toNatClampNeg = n) (hlink : (Cond.methodLink own index arraycopyName).before args s = true) (hframes : 1 ≤ R.frames) (hlocals : (rest.map fun v => v.category).sum + (nativeFrameWords "java/lang/System" "arraycopy" 5 + 11) ≤ R.locals) (hdg : decode cc pc = .ok (.invokestatic index, 3)) (kk : ∀ (H1 : Heap) (locs1 : List Loc), Pic D ad cI cZ cP w G (ct V k i (U k i') n) U H1 → va_S A H0 H1 locs1 → W p l e R s m args below meth c H1 locs1 0 0 Q (F0 m (pc + 3) ls (rest))) : W p l e R s m args below meth c H locs 0 0 Q (F0 m pc ls (.int nn :: .int 0 :: .ref (ad w k i) :: .int 0 :: .ref (ad w' k i') :: rest)) := by
  obtain ⟨q, hq⟩ := Pic.spot (ad := ad) (cI := cI) (cZ := cZ) (cP := cP) (G := G) (V := V) (U := U) hw hk hi
  obtain ⟨q2, hq2⟩ := Pic.spotU (ad := ad) (cI := cI) (cZ := cZ) (cP := cP) (G := G) (V := V) (U := U) hww hk hi'
  have hq1 := hq
  rw [ho] at hq1 hq2
  subst hn
  have z0 : (0 : Int32).toNatClampNeg = 0 := by decide
  refine va_copyi hx hb hml hown hlink (htm _ qw_10) (htm _ qw_11) (htm _ qw_12) hE.1 hP (hE.2.2 _) hS q2 q 0 0 hq2 hq1 rfl rfl rfl (by decide) (by decide) hn0 (by rw [z0, Nat.zero_add]; exact Nat.le_refl _) (by rw [z0, Nat.zero_add]; exact Nat.le_refl _) (fun _ _ => rfl) hframes hlocals hdg (fun H1 locs1 hP1 _ hS1 => kk H1 locs1 (Pic.set hE.2.2 hw hk hi hq ?_) hS1)
  rw [ho]
  rw [z0] at hP1
  exact hP1
theorem cp_1 (hx : p.tables.exec = Jvm.exec) (hb : c.code = cc) (hml : c.maxLocals = ls.size) (hown : s.vm.findClass own = some m.cls) (htm : ∀ x ∈ WM, x.before args s = true) (hE : DEnv D ad cI cZ cP A s) (hP : Pic D ad cI cZ cP w G V U H) (hS : va_S A H0 H locs) {w' : Nat} (hw : w < 2) (hw' : w' < 2) (hww : w + w' = 1) (hlink : (Cond.methodLink own index arraycopyName).before args s = true) (hframes : 1 ≤ R.frames) (hlocals : (rest.map fun v => v.category).sum + (nativeFrameWords "java/lang/System" "arraycopy" 5 + 11) ≤ R.locals) (hdg : decode cc pc = .ok (.invokestatic index, 3)) (kk : ∀ (H1 : Heap) (locs1 : List Loc), Pic D ad cI cZ cP w G (ct V 1 0 (U 1 0) 4) U H1 → va_S A H0 H1 locs1 → W p l e R s m args below meth c H1 locs1 0 0 Q (F0 m (pc + 3) ls (rest))) : W p l e R s m args below meth c H locs 0 0 Q (F0 m pc ls (.int 4 :: .int 0 :: .ref (ad w 1 0) :: .int 0 :: .ref (ad w' 1 0) :: rest)) :=
  mcpy hx hb hml hown htm hE hP hS hw hw' hww (k := 1) (n := 4) (by decide) (by decide) (by decide) (fun _ _ _ => rfl) (by decide) (by decide) hlink hframes hlocals hdg kk
theorem cp_2 (hx : p.tables.exec = Jvm.exec) (hb : c.code = cc) (hml : c.maxLocals = ls.size) (hown : s.vm.findClass own = some m.cls) (htm : ∀ x ∈ WM, x.before args s = true) (hE : DEnv D ad cI cZ cP A s) (hP : Pic D ad cI cZ cP w G V U H) (hS : va_S A H0 H locs) {w' : Nat} (hw : w < 2) (hw' : w' < 2) (hww : w + w' = 1) (hlink : (Cond.methodLink own index arraycopyName).before args s = true) (hframes : 1 ≤ R.frames) (hlocals : (rest.map fun v => v.category).sum + (nativeFrameWords "java/lang/System" "arraycopy" 5 + 11) ≤ R.locals) (hdg : decode cc pc = .ok (.invokestatic index, 3)) (kk : ∀ (H1 : Heap) (locs1 : List Loc), Pic D ad cI cZ cP w G (ct V 2 0 (U 2 0) 4) U H1 → va_S A H0 H1 locs1 → W p l e R s m args below meth c H1 locs1 0 0 Q (F0 m (pc + 3) ls (rest))) : W p l e R s m args below meth c H locs 0 0 Q (F0 m pc ls (.int 4 :: .int 0 :: .ref (ad w 2 0) :: .int 0 :: .ref (ad w' 2 0) :: rest)) :=
  mcpy hx hb hml hown htm hE hP hS hw hw' hww (k := 2) (n := 4) (by decide) (by decide) (by decide) (fun _ _ _ => rfl) (by decide) (by decide) hlink hframes hlocals hdg kk
theorem cp_4 (hx : p.tables.exec = Jvm.exec) (hb : c.code = cc) (hml : c.maxLocals = ls.size) (hown : s.vm.findClass own = some m.cls) (htm : ∀ x ∈ WM, x.before args s = true) (hE : DEnv D ad cI cZ cP A s) (hP : Pic D ad cI cZ cP w G V U H) (hS : va_S A H0 H locs) {w' : Nat} (hw : w < 2) (hw' : w' < 2) (hww : w + w' = 1) (hlink : (Cond.methodLink own index arraycopyName).before args s = true) (hframes : 1 ≤ R.frames) (hlocals : (rest.map fun v => v.category).sum + (nativeFrameWords "java/lang/System" "arraycopy" 5 + 11) ≤ R.locals) (hdg : decode cc pc = .ok (.invokestatic index, 3)) (kk : ∀ (H1 : Heap) (locs1 : List Loc), Pic D ad cI cZ cP w G (ct V 4 0 (U 4 0) 24) U H1 → va_S A H0 H1 locs1 → W p l e R s m args below meth c H1 locs1 0 0 Q (F0 m (pc + 3) ls (rest))) : W p l e R s m args below meth c H locs 0 0 Q (F0 m pc ls (.int 24 :: .int 0 :: .ref (ad w 4 0) :: .int 0 :: .ref (ad w' 4 0) :: rest)) :=
  mcpy hx hb hml hown htm hE hP hS hw hw' hww (k := 4) (n := 24) (by decide) (by decide) (by decide) (fun _ _ _ => rfl) (by decide) (by decide) hlink hframes hlocals hdg kk
theorem cp_5 (hx : p.tables.exec = Jvm.exec) (hb : c.code = cc) (hml : c.maxLocals = ls.size) (hown : s.vm.findClass own = some m.cls) (htm : ∀ x ∈ WM, x.before args s = true) (hE : DEnv D ad cI cZ cP A s) (hP : Pic D ad cI cZ cP w G V U H) (hS : va_S A H0 H locs) {w' : Nat} (hw : w < 2) (hw' : w' < 2) (hww : w + w' = 1) (hlink : (Cond.methodLink own index arraycopyName).before args s = true) (hframes : 1 ≤ R.frames) (hlocals : (rest.map fun v => v.category).sum + (nativeFrameWords "java/lang/System" "arraycopy" 5 + 11) ≤ R.locals) (hdg : decode cc pc = .ok (.invokestatic index, 3)) (kk : ∀ (H1 : Heap) (locs1 : List Loc), Pic D ad cI cZ cP w G (ct V 5 0 (U 5 0) 48) U H1 → va_S A H0 H1 locs1 → W p l e R s m args below meth c H1 locs1 0 0 Q (F0 m (pc + 3) ls (rest))) : W p l e R s m args below meth c H locs 0 0 Q (F0 m pc ls (.int 48 :: .int 0 :: .ref (ad w 5 0) :: .int 0 :: .ref (ad w' 5 0) :: rest)) :=
  mcpy hx hb hml hown htm hE hP hS hw hw' hww (k := 5) (n := 48) (by decide) (by decide) (by decide) (fun _ _ _ => rfl) (by decide) (by decide) hlink hframes hlocals hdg kk
theorem cp_6 (hx : p.tables.exec = Jvm.exec) (hb : c.code = cc) (hml : c.maxLocals = ls.size) (hown : s.vm.findClass own = some m.cls) (htm : ∀ x ∈ WM, x.before args s = true) (hE : DEnv D ad cI cZ cP A s) (hP : Pic D ad cI cZ cP w G V U H) (hS : va_S A H0 H locs) {w' : Nat} (hw : w < 2) (hw' : w' < 2) (hww : w + w' = 1) (hlink : (Cond.methodLink own index arraycopyName).before args s = true) (hframes : 1 ≤ R.frames) (hlocals : (rest.map fun v => v.category).sum + (nativeFrameWords "java/lang/System" "arraycopy" 5 + 11) ≤ R.locals) (hdg : decode cc pc = .ok (.invokestatic index, 3)) (kk : ∀ (H1 : Heap) (locs1 : List Loc), Pic D ad cI cZ cP w G (ct V 6 0 (U 6 0) 48) U H1 → va_S A H0 H1 locs1 → W p l e R s m args below meth c H1 locs1 0 0 Q (F0 m (pc + 3) ls (rest))) : W p l e R s m args below meth c H locs 0 0 Q (F0 m pc ls (.int 48 :: .int 0 :: .ref (ad w 6 0) :: .int 0 :: .ref (ad w' 6 0) :: rest)) :=
  mcpy hx hb hml hown htm hE hP hS hw hw' hww (k := 6) (n := 48) (by decide) (by decide) (by decide) (fun _ _ _ => rfl) (by decide) (by decide) hlink hframes hlocals hdg kk
theorem cp_8 (hx : p.tables.exec = Jvm.exec) (hb : c.code = cc) (hml : c.maxLocals = ls.size) (hown : s.vm.findClass own = some m.cls) (htm : ∀ x ∈ WM, x.before args s = true) (hE : DEnv D ad cI cZ cP A s) (hP : Pic D ad cI cZ cP w G V U H) (hS : va_S A H0 H locs) {w' : Nat} (hw : w < 2) (hw' : w' < 2) (hww : w + w' = 1) {i i' : Nat} (hi : i < 24) (hi' : i' < 24) (hlink : (Cond.methodLink own index arraycopyName).before args s = true) (hframes : 1 ≤ R.frames) (hlocals : (rest.map fun v => v.category).sum + (nativeFrameWords "java/lang/System" "arraycopy" 5 + 11) ≤ R.locals) (hdg : decode cc pc = .ok (.invokestatic index, 3)) (kk : ∀ (H1 : Heap) (locs1 : List Loc), Pic D ad cI cZ cP w G (ct V 8 i (U 8 i') 4) U H1 → va_S A H0 H1 locs1 → W p l e R s m args below meth c H1 locs1 0 0 Q (F0 m (pc + 3) ls (rest))) : W p l e R s m args below meth c H locs 0 0 Q (F0 m pc ls (.int 4 :: .int 0 :: .ref (ad w 8 i) :: .int 0 :: .ref (ad w' 8 i') :: rest)) :=
  mcpy hx hb hml hown htm hE hP hS hw hw' hww (k := 8) (n := 4) (by decide) hi hi' (fun _ _ _ => rfl) (by decide) (by decide) hlink hframes hlocals hdg kk
theorem cp_9 (hx : p.tables.exec = Jvm.exec) (hb : c.code = cc) (hml : c.maxLocals = ls.size) (hown : s.vm.findClass own = some m.cls) (htm : ∀ x ∈ WM, x.before args s = true) (hE : DEnv D ad cI cZ cP A s) (hP : Pic D ad cI cZ cP w G V U H) (hS : va_S A H0 H locs) {w' : Nat} (hw : w < 2) (hw' : w' < 2) (hww : w + w' = 1) {i i' : Nat} (hi : i < 24) (hi' : i' < 24) (hlink : (Cond.methodLink own index arraycopyName).before args s = true) (hframes : 1 ≤ R.frames) (hlocals : (rest.map fun v => v.category).sum + (nativeFrameWords "java/lang/System" "arraycopy" 5 + 11) ≤ R.locals) (hdg : decode cc pc = .ok (.invokestatic index, 3)) (kk : ∀ (H1 : Heap) (locs1 : List Loc), Pic D ad cI cZ cP w G (ct V 9 i (U 9 i') 4) U H1 → va_S A H0 H1 locs1 → W p l e R s m args below meth c H1 locs1 0 0 Q (F0 m (pc + 3) ls (rest))) : W p l e R s m args below meth c H locs 0 0 Q (F0 m pc ls (.int 4 :: .int 0 :: .ref (ad w 9 i) :: .int 0 :: .ref (ad w' 9 i') :: rest)) :=
  mcpy hx hb hml hown htm hE hP hS hw hw' hww (k := 9) (n := 4) (by decide) hi hi' (fun _ _ _ => rfl) (by decide) (by decide) hlink hframes hlocals hdg kk
theorem cp_11 (hx : p.tables.exec = Jvm.exec) (hb : c.code = cc) (hml : c.maxLocals = ls.size) (hown : s.vm.findClass own = some m.cls) (htm : ∀ x ∈ WM, x.before args s = true) (hE : DEnv D ad cI cZ cP A s) (hP : Pic D ad cI cZ cP w G V U H) (hS : va_S A H0 H locs) {w' : Nat} (hw : w < 2) (hw' : w' < 2) (hww : w + w' = 1) {i i' : Nat} (hi : i < 24) (hi' : i' < 24) (hlink : (Cond.methodLink own index arraycopyName).before args s = true) (hframes : 1 ≤ R.frames) (hlocals : (rest.map fun v => v.category).sum + (nativeFrameWords "java/lang/System" "arraycopy" 5 + 11) ≤ R.locals) (hdg : decode cc pc = .ok (.invokestatic index, 3)) (kk : ∀ (H1 : Heap) (locs1 : List Loc), Pic D ad cI cZ cP w G (ct V 11 i (U 11 i') 8) U H1 → va_S A H0 H1 locs1 → W p l e R s m args below meth c H1 locs1 0 0 Q (F0 m (pc + 3) ls (rest))) : W p l e R s m args below meth c H locs 0 0 Q (F0 m pc ls (.int 8 :: .int 0 :: .ref (ad w 11 i) :: .int 0 :: .ref (ad w' 11 i') :: rest)) :=
  mcpy hx hb hml hown htm hE hP hS hw hw' hww (k := 11) (n := 8) (by decide) hi hi' (fun _ _ _ => rfl) (by decide) (by decide) hlink hframes hlocals hdg kk
theorem cp_12 (hx : p.tables.exec = Jvm.exec) (hb : c.code = cc) (hml : c.maxLocals = ls.size) (hown : s.vm.findClass own = some m.cls) (htm : ∀ x ∈ WM, x.before args s = true) (hE : DEnv D ad cI cZ cP A s) (hP : Pic D ad cI cZ cP w G V U H) (hS : va_S A H0 H locs) {w' : Nat} (hw : w < 2) (hw' : w' < 2) (hww : w + w' = 1) {i i' : Nat} (hi : i < 24) (hi' : i' < 24) (hlink : (Cond.methodLink own index arraycopyName).before args s = true) (hframes : 1 ≤ R.frames) (hlocals : (rest.map fun v => v.category).sum + (nativeFrameWords "java/lang/System" "arraycopy" 5 + 11) ≤ R.locals) (hdg : decode cc pc = .ok (.invokestatic index, 3)) (kk : ∀ (H1 : Heap) (locs1 : List Loc), Pic D ad cI cZ cP w G (ct V 12 i (U 12 i') 8) U H1 → va_S A H0 H1 locs1 → W p l e R s m args below meth c H1 locs1 0 0 Q (F0 m (pc + 3) ls (rest))) : W p l e R s m args below meth c H locs 0 0 Q (F0 m pc ls (.int 8 :: .int 0 :: .ref (ad w 12 i) :: .int 0 :: .ref (ad w' 12 i') :: rest)) :=
  mcpy hx hb hml hown htm hE hP hS hw hw' hww (k := 12) (n := 8) (by decide) hi hi' (fun _ _ _ => rfl) (by decide) (by decide) hlink hframes hlocals hdg kk
theorem cp_14 (hx : p.tables.exec = Jvm.exec) (hb : c.code = cc) (hml : c.maxLocals = ls.size) (hown : s.vm.findClass own = some m.cls) (htm : ∀ x ∈ WM, x.before args s = true) (hE : DEnv D ad cI cZ cP A s) (hP : Pic D ad cI cZ cP w G V U H) (hS : va_S A H0 H locs) {w' : Nat} (hw : w < 2) (hw' : w' < 2) (hww : w + w' = 1) {i i' : Nat} (hi : i < 24) (hi' : i' < 24) (hlink : (Cond.methodLink own index arraycopyName).before args s = true) (hframes : 1 ≤ R.frames) (hlocals : (rest.map fun v => v.category).sum + (nativeFrameWords "java/lang/System" "arraycopy" 5 + 11) ≤ R.locals) (hdg : decode cc pc = .ok (.invokestatic index, 3)) (kk : ∀ (H1 : Heap) (locs1 : List Loc), Pic D ad cI cZ cP w G (ct V 14 i (U 14 i') 24) U H1 → va_S A H0 H1 locs1 → W p l e R s m args below meth c H1 locs1 0 0 Q (F0 m (pc + 3) ls (rest))) : W p l e R s m args below meth c H locs 0 0 Q (F0 m pc ls (.int 24 :: .int 0 :: .ref (ad w 14 i) :: .int 0 :: .ref (ad w' 14 i') :: rest)) :=
  mcpy hx hb hml hown htm hE hP hS hw hw' hww (k := 14) (n := 24) (by decide) hi hi' (fun _ _ _ => rfl) (by decide) (by decide) hlink hframes hlocals hdg kk
theorem cp_15 (hx : p.tables.exec = Jvm.exec) (hb : c.code = cc) (hml : c.maxLocals = ls.size) (hown : s.vm.findClass own = some m.cls) (htm : ∀ x ∈ WM, x.before args s = true) (hE : DEnv D ad cI cZ cP A s) (hP : Pic D ad cI cZ cP w G V U H) (hS : va_S A H0 H locs) {w' : Nat} (hw : w < 2) (hw' : w' < 2) (hww : w + w' = 1) {i i' : Nat} (hi : i < 24) (hi' : i' < 24) (hlink : (Cond.methodLink own index arraycopyName).before args s = true) (hframes : 1 ≤ R.frames) (hlocals : (rest.map fun v => v.category).sum + (nativeFrameWords "java/lang/System" "arraycopy" 5 + 11) ≤ R.locals) (hdg : decode cc pc = .ok (.invokestatic index, 3)) (kk : ∀ (H1 : Heap) (locs1 : List Loc), Pic D ad cI cZ cP w G (ct V 15 i (U 15 i') 24) U H1 → va_S A H0 H1 locs1 → W p l e R s m args below meth c H1 locs1 0 0 Q (F0 m (pc + 3) ls (rest))) : W p l e R s m args below meth c H locs 0 0 Q (F0 m pc ls (.int 24 :: .int 0 :: .ref (ad w 15 i) :: .int 0 :: .ref (ad w' 15 i') :: rest)) :=
  mcpy hx hb hml hown htm hE hP hS hw hw' hww (k := 15) (n := 24) (by decide) hi hi' (fun _ _ _ => rfl) (by decide) (by decide) hlink hframes hlocals hdg kk
end
theorem nst_1 : (RX1, 32, yX6_isWithin, RX6) ∈ nestL := List.mem_of_getElem? (i := 0) rfl
theorem nst_5 : (RX5, 103, yX6_isWithin, RX6) ∈ nestL := List.mem_of_getElem? (i := 1) rfl
theorem nst_2 : (RX2, 98, yX6_isWithin, RX6) ∈ nestL := List.mem_of_getElem? (i := 2) rfl
theorem nst_0 : (RX0, 22, yX6_isWithin, RX6) ∈ nestL := List.mem_of_getElem? (i := 3) rfl
def oc {α : Type} (o : Option Nat) (a : α) (f : Nat → α) : α := match o with | none => a | some i => f i
def us (x y : Int32) : Int32 := (x.toUInt32 >>> (y.toUInt32 &&& Int32.toUInt32 31)).toInt32
abbrev MT : Type := Nat → Nat → Nat → Int32
end
section
theorem sw_X6_isWithin : SW RX6 yX6_isWithin cX6_isWithin 3 (some .boolean) 3 := ⟨qw_6, qw_7, qw_5, ⟨rfl, by decide, by decide, by decide +kernel⟩⟩
theorem sw_X6_checkIndex : SW RX6 yX6_checkIndex cX6_checkIndex 1 none 1 := ⟨qw_360, qw_7, qw_356, ⟨rfl, by decide, by decide, by decide +kernel⟩⟩
theorem sw_X6_checkArgument : SW RX6 yX6_checkArgument cX6_checkArgument 1 none 1 := ⟨qw_369, qw_7, qw_357, ⟨rfl, by decide, by decide, by decide +kernel⟩⟩
theorem sw_X6_checkState : SW RX6 yX6_checkState cX6_checkState 1 none 1 := ⟨qw_354, qw_7, qw_351, ⟨rfl, by decide, by decide, by decide +kernel⟩⟩
theorem sw_X5_goesOut : SW RX5 yX5_goesOut cX5_goesOut 1 (some .boolean) 1 := ⟨qw_322, qw_177, qw_270, ⟨rfl, by decide, by decide, by decide +kernel⟩⟩
theorem sw_J6_bitCount_0f7a4 : SW RJ6 yJ6_bitCount_0f7a4 cJ6_bitCount_0f7a4 1 (some .int) 1 := ⟨qw_339, qw_340, qw_341, ⟨rfl, by decide, by decide, by decide +kernel⟩⟩
def f_X6_isWithin (x0 : Int32) (x1 : Int32) (x2 : Int32) : Option (Int32) :=
  if x0 < x1 then (some 0) else (if x2 < x0 then (some 0) else (some 1))
def rm_X6_isWithin : Room := { frames := 0, cells := 0, slots := 0, locals := 0 }
set_option maxRecDepth 20000 in
set_option maxHeartbeats 4000000 in
theorem c_X6_isWithin {l : Launch} {D : va_G} {ad : Nat → Nat → Nat → Nat} {cI cZ cP : ClassId} {A : Nat → Prop} {w : Nat} {G V U : MT} {x0 : Int32} {x1 : Int32} {x2 : Int32} {r : Int32}  (hF : f_X6_isWithin x0 x1 x2 = some r) : Met l yX6_isWithin (.code yX6_isWithin cX6_isWithin 3 (some .boolean) :: WM) rm_X6_isWithin (PcM D ad cI cZ cP A [.int x0, .int x1, .int x2] (Pic D ad cI cZ cP w G V U)) (QcI A r (Pic D ad cI cZ cP w G V U)) 0 0 A := by
  refine m_entry (by decide) (Nat.le_of_ble_eq_true rfl) (fun p e s m below meth c ls X hP hS hl => ?_)
  have X : MX p s m _ meth c cX6_isWithin RX6 3 (some .boolean) D ad cI cZ cP A := X
  obtain ⟨hx, hb, hml, hown, htm, hr, hlk, hE⟩ := id X
  have hl : lv_has ls 3 [(0, .int x0), (1, .int x1), (2, .int x2)] := hl
  refine lv_iload_n hx hb dX6_isWithin_0 rfl (lv_at hl 0 rfl) ?_
  refine lv_iload_n hx hb dX6_isWithin_1 rfl (lv_at hl 1 rfl) ?_
  refine lv_icmp_lt (tgt := 14) hx hb dX6_isWithin_2 (by decide) (fun c1 => ?_) (fun c1 => ?_)
  · have hF := ite_T c1 hF
    refine lv_iconst (v := 0) hx hb dX6_isWithin_14 (by decide) ?_
    cases hF
    exact m_zret X hS hP rfl (Or.inl rfl) dX6_isWithin_15
  · have hF := ite_F c1 hF
    refine lv_iload_n hx hb dX6_isWithin_5 rfl (lv_at hl 0 rfl) ?_
    refine lv_iload_n hx hb dX6_isWithin_6 rfl (lv_at hl 2 rfl) ?_
    refine lv_icmp_gt (tgt := 14) hx hb dX6_isWithin_7 (by decide) (fun c2 => ?_) (fun c2 => ?_)
    · have hF := ite_T c2 hF
      refine lv_iconst (v := 0) hx hb dX6_isWithin_14 (by decide) ?_
      cases hF
      exact m_zret X hS hP rfl (Or.inl rfl) dX6_isWithin_15
    · have hF := ite_F c2 hF
      refine lv_iconst (v := 1) hx hb dX6_isWithin_10 (by decide) ?_
      refine lv_goto (tgt := 15) hx hb dX6_isWithin_11 (by decide) ?_
      cases hF
      exact m_zret X hS hP rfl (Or.inr rfl) dX6_isWithin_15
def f_X6_checkIndex (x0 : Int32) : Option (Unit) :=
  if x0 = 0 then (none) else (some ())
def rm_X6_checkIndex : Room := { frames := 0, cells := 0, slots := 0, locals := 0 }
set_option maxRecDepth 20000 in
set_option maxHeartbeats 4000000 in
theorem c_X6_checkIndex {l : Launch} {D : va_G} {ad : Nat → Nat → Nat → Nat} {cI cZ cP : ClassId} {A : Nat → Prop} {w : Nat} {G V U : MT} {x0 : Int32}  (hF : f_X6_checkIndex x0 = some ()) : Met l yX6_checkIndex (.code yX6_checkIndex cX6_checkIndex 1 none :: WM) rm_X6_checkIndex (PcM D ad cI cZ cP A [.int x0] (Pic D ad cI cZ cP w G V U)) (QcV A (Pic D ad cI cZ cP w G V U)) 0 0 A := by
  refine m_entry (by decide) (Nat.le_of_ble_eq_true rfl) (fun p e s m below meth c ls X hP hS hl => ?_)
  have X : MX p s m _ meth c cX6_checkIndex RX6 1 none D ad cI cZ cP A := X
  obtain ⟨hx, hb, hml, hown, htm, hr, hlk, hE⟩ := id X
  have hl : lv_has ls 1 [(0, .int x0)] := hl
  refine lv_iload_n hx hb dX6_checkIndex_0 rfl (lv_at hl 0 rfl) ?_
  refine lv_if_ne (tgt := 12) hx hb dX6_checkIndex_1 (by decide) (fun c1 => ?_) (fun c1 => ?_)
  · have hF := ite_F c1 hF
    exact m_vret X hS hP dX6_checkIndex_12
  · have hF := ite_T c1 hF
    exact ns_S hF
def f_X6_checkArgument (x0 : Int32) : Option (Unit) :=
  if x0 = 0 then (none) else (some ())
def rm_X6_checkArgument : Room := { frames := 0, cells := 0, slots := 0, locals := 0 }
set_option maxRecDepth 20000 in
set_option maxHeartbeats 4000000 in
theorem c_X6_checkArgument {l : Launch} {D : va_G} {ad : Nat → Nat → Nat → Nat} {cI cZ cP : ClassId} {A : Nat → Prop} {w : Nat} {G V U : MT} {x0 : Int32}  (hF : f_X6_checkArgument x0 = some ()) : Met l yX6_checkArgument (.code yX6_checkArgument cX6_checkArgument 1 none :: WM) rm_X6_checkArgument (PcM D ad cI cZ cP A [.int x0] (Pic D ad cI cZ cP w G V U)) (QcV A (Pic D ad cI cZ cP w G V U)) 0 0 A := by
  refine m_entry (by decide) (Nat.le_of_ble_eq_true rfl) (fun p e s m below meth c ls X hP hS hl => ?_)
  have X : MX p s m _ meth c cX6_checkArgument RX6 1 none D ad cI cZ cP A := X
  obtain ⟨hx, hb, hml, hown, htm, hr, hlk, hE⟩ := id X
  have hl : lv_has ls 1 [(0, .int x0)] := hl
  refine lv_iload_n hx hb dX6_checkArgument_0 rfl (lv_at hl 0 rfl) ?_
  refine lv_if_ne (tgt := 12) hx hb dX6_checkArgument_1 (by decide) (fun c1 => ?_) (fun c1 => ?_)
  · have hF := ite_F c1 hF
    exact m_vret X hS hP dX6_checkArgument_12
  · have hF := ite_T c1 hF
    exact ns_S hF
def f_X6_checkState (x0 : Int32) : Option (Unit) :=
  if x0 = 0 then (none) else (some ())
def rm_X6_checkState : Room := { frames := 0, cells := 0, slots := 0, locals := 0 }
set_option maxRecDepth 20000 in
set_option maxHeartbeats 4000000 in
theorem c_X6_checkState {l : Launch} {D : va_G} {ad : Nat → Nat → Nat → Nat} {cI cZ cP : ClassId} {A : Nat → Prop} {w : Nat} {G V U : MT} {x0 : Int32}  (hF : f_X6_checkState x0 = some ()) : Met l yX6_checkState (.code yX6_checkState cX6_checkState 1 none :: WM) rm_X6_checkState (PcM D ad cI cZ cP A [.int x0] (Pic D ad cI cZ cP w G V U)) (QcV A (Pic D ad cI cZ cP w G V U)) 0 0 A := by
  refine m_entry (by decide) (Nat.le_of_ble_eq_true rfl) (fun p e s m below meth c ls X hP hS hl => ?_)
  have X : MX p s m _ meth c cX6_checkState RX6 1 none D ad cI cZ cP A := X
  obtain ⟨hx, hb, hml, hown, htm, hr, hlk, hE⟩ := id X
  have hl : lv_has ls 1 [(0, .int x0)] := hl
  refine lv_iload_n hx hb dX6_checkState_0 rfl (lv_at hl 0 rfl) ?_
  refine lv_if_ne (tgt := 12) hx hb dX6_checkState_1 (by decide) (fun c1 => ?_) (fun c1 => ?_)
  · have hF := ite_F c1 hF
    exact m_vret X hS hP dX6_checkState_12
  · have hF := ite_T c1 hF
    exact ns_S hF
def f_X5_goesOut (x0 : Int32) : Option (Int32) :=
  if x0 = 6 then (some 1) else (if x0 = 7 then (some 1) else (if x0 = 8 then (some 1) else (if x0 = 9 then (some 1) else (if x0 = 10 then (some 0) else (if x0 = 11 then (some 1) else (if x0 = 12 then (some 1) else (if x0 = 13 then (some 1) else (if x0 = 14 then (some 0) else (if x0 = 15 then (some 0) else (if x0 = 16 then (some 0) else (if x0 = 17 then (some 1) else (some 0))))))))))))
def rm_X5_goesOut : Room := { frames := 0, cells := 0, slots := 0, locals := 0 }
set_option maxRecDepth 20000 in
set_option maxHeartbeats 4000000 in
theorem c_X5_goesOut {l : Launch} {D : va_G} {ad : Nat → Nat → Nat → Nat} {cI cZ cP : ClassId} {A : Nat → Prop} {w : Nat} {G V U : MT} {x0 : Int32} {r : Int32}  (hF : f_X5_goesOut x0 = some r) : Met l yX5_goesOut (.code yX5_goesOut cX5_goesOut 1 (some .boolean) :: WM) rm_X5_goesOut (PcM D ad cI cZ cP A [.int x0] (Pic D ad cI cZ cP w G V U)) (QcI A r (Pic D ad cI cZ cP w G V U)) 0 0 A := by
  refine m_entry (by decide) (Nat.le_of_ble_eq_true rfl) (fun p e s m below meth c ls X hP hS hl => ?_)
  have X : MX p s m _ meth c cX5_goesOut RX5 1 (some .boolean) D ad cI cZ cP A := X
  obtain ⟨hx, hb, hml, hown, htm, hr, hlk, hE⟩ := id X
  have hl : lv_has ls 1 [(0, .int x0)] := hl
  refine lv_iload_n hx hb dX5_goesOut_0 rfl (lv_at hl 0 rfl) ?_
  by_cases c1 : x0 = 6
  · have hF := ite_T c1 hF
    refine lv_tableIn (off := 63) (tgt := 64) hx hb dX5_goesOut_1 (by rw [c1]; decide) (by rw [c1]; decide) (by rw [c1]; rfl) (by decide) ?_
    refine lv_iconst (v := 1) hx hb dX5_goesOut_64 (by decide) ?_
    cases hF
    exact m_zret X hS hP rfl (Or.inr rfl) dX5_goesOut_65
  have hF := ite_F c1 hF
  by_cases c2 : x0 = 7
  · have hF := ite_T c2 hF
    refine lv_tableIn (off := 63) (tgt := 64) hx hb dX5_goesOut_1 (by rw [c2]; decide) (by rw [c2]; decide) (by rw [c2]; rfl) (by decide) ?_
    refine lv_iconst (v := 1) hx hb dX5_goesOut_64 (by decide) ?_
    cases hF
    exact m_zret X hS hP rfl (Or.inr rfl) dX5_goesOut_65
  have hF := ite_F c2 hF
  by_cases c3 : x0 = 8
  · have hF := ite_T c3 hF
    refine lv_tableIn (off := 63) (tgt := 64) hx hb dX5_goesOut_1 (by rw [c3]; decide) (by rw [c3]; decide) (by rw [c3]; rfl) (by decide) ?_
    refine lv_iconst (v := 1) hx hb dX5_goesOut_64 (by decide) ?_
    cases hF
    exact m_zret X hS hP rfl (Or.inr rfl) dX5_goesOut_65
  have hF := ite_F c3 hF
  by_cases c4 : x0 = 9
  · have hF := ite_T c4 hF
    refine lv_tableIn (off := 63) (tgt := 64) hx hb dX5_goesOut_1 (by rw [c4]; decide) (by rw [c4]; decide) (by rw [c4]; rfl) (by decide) ?_
    refine lv_iconst (v := 1) hx hb dX5_goesOut_64 (by decide) ?_
    cases hF
    exact m_zret X hS hP rfl (Or.inr rfl) dX5_goesOut_65
  have hF := ite_F c4 hF
  by_cases c5 : x0 = 10
  · have hF := ite_T c5 hF
    refine lv_tableIn (off := 65) (tgt := 66) hx hb dX5_goesOut_1 (by rw [c5]; decide) (by rw [c5]; decide) (by rw [c5]; rfl) (by decide) ?_
    refine lv_iconst (v := 0) hx hb dX5_goesOut_66 (by decide) ?_
    cases hF
    exact m_zret X hS hP rfl (Or.inl rfl) dX5_goesOut_67
  have hF := ite_F c5 hF
  by_cases c6 : x0 = 11
  · have hF := ite_T c6 hF
    refine lv_tableIn (off := 63) (tgt := 64) hx hb dX5_goesOut_1 (by rw [c6]; decide) (by rw [c6]; decide) (by rw [c6]; rfl) (by decide) ?_
    refine lv_iconst (v := 1) hx hb dX5_goesOut_64 (by decide) ?_
    cases hF
    exact m_zret X hS hP rfl (Or.inr rfl) dX5_goesOut_65
  have hF := ite_F c6 hF
  by_cases c7 : x0 = 12
  · have hF := ite_T c7 hF
    refine lv_tableIn (off := 63) (tgt := 64) hx hb dX5_goesOut_1 (by rw [c7]; decide) (by rw [c7]; decide) (by rw [c7]; rfl) (by decide) ?_
    refine lv_iconst (v := 1) hx hb dX5_goesOut_64 (by decide) ?_
    cases hF
    exact m_zret X hS hP rfl (Or.inr rfl) dX5_goesOut_65
  have hF := ite_F c7 hF
  by_cases c8 : x0 = 13
  · have hF := ite_T c8 hF
    refine lv_tableIn (off := 63) (tgt := 64) hx hb dX5_goesOut_1 (by rw [c8]; decide) (by rw [c8]; decide) (by rw [c8]; rfl) (by decide) ?_
    refine lv_iconst (v := 1) hx hb dX5_goesOut_64 (by decide) ?_
    cases hF
    exact m_zret X hS hP rfl (Or.inr rfl) dX5_goesOut_65
  have hF := ite_F c8 hF
  by_cases c9 : x0 = 14
  · have hF := ite_T c9 hF
    refine lv_tableIn (off := 65) (tgt := 66) hx hb dX5_goesOut_1 (by rw [c9]; decide) (by rw [c9]; decide) (by rw [c9]; rfl) (by decide) ?_
    refine lv_iconst (v := 0) hx hb dX5_goesOut_66 (by decide) ?_
    cases hF
    exact m_zret X hS hP rfl (Or.inl rfl) dX5_goesOut_67
  have hF := ite_F c9 hF
  by_cases c10 : x0 = 15
  · have hF := ite_T c10 hF
    refine lv_tableIn (off := 65) (tgt := 66) hx hb dX5_goesOut_1 (by rw [c10]; decide) (by rw [c10]; decide) (by rw [c10]; rfl) (by decide) ?_
    refine lv_iconst (v := 0) hx hb dX5_goesOut_66 (by decide) ?_
    cases hF
    exact m_zret X hS hP rfl (Or.inl rfl) dX5_goesOut_67
  have hF := ite_F c10 hF
  by_cases c11 : x0 = 16
  · have hF := ite_T c11 hF
    refine lv_tableIn (off := 65) (tgt := 66) hx hb dX5_goesOut_1 (by rw [c11]; decide) (by rw [c11]; decide) (by rw [c11]; rfl) (by decide) ?_
    refine lv_iconst (v := 0) hx hb dX5_goesOut_66 (by decide) ?_
    cases hF
    exact m_zret X hS hP rfl (Or.inl rfl) dX5_goesOut_67
  have hF := ite_F c11 hF
  by_cases c12 : x0 = 17
  · have hF := ite_T c12 hF
    refine lv_tableIn (off := 63) (tgt := 64) hx hb dX5_goesOut_1 (by rw [c12]; decide) (by rw [c12]; decide) (by rw [c12]; rfl) (by decide) ?_
    refine lv_iconst (v := 1) hx hb dX5_goesOut_64 (by decide) ?_
    cases hF
    exact m_zret X hS hP rfl (Or.inr rfl) dX5_goesOut_65
  have hF := ite_F c12 hF
  refine lv_tableOut (tgt := 66) hx hb dX5_goesOut_1 (by have hc1 := lv_neT c1 (a := 6) rfl; have hc2 := lv_neT c2 (a := 7) rfl; have hc3 := lv_neT c3 (a := 8) rfl; have hc4 := lv_neT c4 (a := 9) rfl; have hc5 := lv_neT c5 (a := 10) rfl; have hc6 := lv_neT c6 (a := 11) rfl; have hc7 := lv_neT c7 (a := 12) rfl; have hc8 := lv_neT c8 (a := 13) rfl; have hc9 := lv_neT c9 (a := 14) rfl; have hc10 := lv_neT c10 (a := 15) rfl; have hc11 := lv_neT c11 (a := 16) rfl; have hc12 := lv_neT c12 (a := 17) rfl; omega) (by decide) ?_
  refine lv_iconst (v := 0) hx hb dX5_goesOut_66 (by decide) ?_
  cases hF
  exact m_zret X hS hP rfl (Or.inl rfl) dX5_goesOut_67
def f_J6_bitCount_0f7a4 (x0 : Int32) : Option (Int32) :=
  some ((((((((x0 - ((us x0 1) &&& 1431655765)) &&& 858993459) + ((us (x0 - ((us x0 1) &&& 1431655765)) 2) &&& 858993459)) + (us (((x0 - ((us x0 1) &&& 1431655765)) &&& 858993459) + ((us (x0 - ((us x0 1) &&& 1431655765)) 2) &&& 858993459)) 4)) &&& 252645135) + (us (((((x0 - ((us x0 1) &&& 1431655765)) &&& 858993459) + ((us (x0 - ((us x0 1) &&& 1431655765)) 2) &&& 858993459)) + (us (((x0 - ((us x0 1) &&& 1431655765)) &&& 858993459) + ((us (x0 - ((us x0 1) &&& 1431655765)) 2) &&& 858993459)) 4)) &&& 252645135) 8)) + (us ((((((x0 - ((us x0 1) &&& 1431655765)) &&& 858993459) + ((us (x0 - ((us x0 1) &&& 1431655765)) 2) &&& 858993459)) + (us (((x0 - ((us x0 1) &&& 1431655765)) &&& 858993459) + ((us (x0 - ((us x0 1) &&& 1431655765)) 2) &&& 858993459)) 4)) &&& 252645135) + (us (((((x0 - ((us x0 1) &&& 1431655765)) &&& 858993459) + ((us (x0 - ((us x0 1) &&& 1431655765)) 2) &&& 858993459)) + (us (((x0 - ((us x0 1) &&& 1431655765)) &&& 858993459) + ((us (x0 - ((us x0 1) &&& 1431655765)) 2) &&& 858993459)) 4)) &&& 252645135) 8)) 16)) &&& 63)
def rm_J6_bitCount_0f7a4 : Room := { frames := 0, cells := 0, slots := 0, locals := 0 }
set_option maxRecDepth 20000 in
set_option maxHeartbeats 4000000 in
theorem c_J6_bitCount_0f7a4 {l : Launch} {D : va_G} {ad : Nat → Nat → Nat → Nat} {cI cZ cP : ClassId} {A : Nat → Prop} {w : Nat} {G V U : MT} {x0 : Int32} {r : Int32}  (hF : f_J6_bitCount_0f7a4 x0 = some r) : Met l yJ6_bitCount_0f7a4 (.code yJ6_bitCount_0f7a4 cJ6_bitCount_0f7a4 1 (some .int) :: WM) rm_J6_bitCount_0f7a4 (PcM D ad cI cZ cP A [.int x0] (Pic D ad cI cZ cP w G V U)) (QcI A r (Pic D ad cI cZ cP w G V U)) 0 0 A := by
  refine m_entry (by decide) (Nat.le_of_ble_eq_true rfl) (fun p e s m below meth c ls X hP hS hl => ?_)
  have X : MX p s m _ meth c cJ6_bitCount_0f7a4 RJ6 1 (some .int) D ad cI cZ cP A := X
  obtain ⟨hx, hb, hml, hown, htm, hr, hlk, hE⟩ := id X
  have hl : lv_has ls 1 [(0, .int x0)] := hl
  refine lv_iload_n hx hb dJ6_bitCount_0f7a4_0 rfl (lv_at hl 0 rfl) ?_
  refine lv_iload_n hx hb dJ6_bitCount_0f7a4_1 rfl (lv_at hl 0 rfl) ?_
  refine lv_iconst (v := 1) hx hb dJ6_bitCount_0f7a4_2 (by decide) ?_
  refine lv_iushr (v := us x0 1) hx hb dJ6_bitCount_0f7a4_3 rfl ?_
  refine lv_ldcw (v := 1431655765) hx hb hown (htm _ qw_342) dJ6_bitCount_0f7a4_4 ?_
  refine lv_iand hx hb dJ6_bitCount_0f7a4_7 ?_
  refine lv_isub hx hb dJ6_bitCount_0f7a4_8 ?_
  refine lv_istore_n (lv' := [(0, .int (x0 - ((us x0 1) &&& 1431655765)))]) hx hb dJ6_bitCount_0f7a4_9 rfl hl (by decide) rfl (fun ls hl => ?_)
  refine lv_iload_n hx hb dJ6_bitCount_0f7a4_10 rfl (lv_at hl 0 rfl) ?_
  refine lv_ldcw (v := 858993459) hx hb hown (htm _ qw_343) dJ6_bitCount_0f7a4_11 ?_
  refine lv_iand hx hb dJ6_bitCount_0f7a4_14 ?_
  refine lv_iload_n hx hb dJ6_bitCount_0f7a4_15 rfl (lv_at hl 0 rfl) ?_
  refine lv_iconst (v := 2) hx hb dJ6_bitCount_0f7a4_16 (by decide) ?_
  refine lv_iushr (v := us (x0 - ((us x0 1) &&& 1431655765)) 2) hx hb dJ6_bitCount_0f7a4_17 rfl ?_
  refine lv_ldcw (v := 858993459) hx hb hown (htm _ qw_343) dJ6_bitCount_0f7a4_18 ?_
  refine lv_iand hx hb dJ6_bitCount_0f7a4_21 ?_
  refine lv_iadd hx hb dJ6_bitCount_0f7a4_22 ?_
  refine lv_istore_n (lv' := [(0, .int (((x0 - ((us x0 1) &&& 1431655765)) &&& 858993459) + ((us (x0 - ((us x0 1) &&& 1431655765)) 2) &&& 858993459)))]) hx hb dJ6_bitCount_0f7a4_23 rfl hl (by decide) rfl (fun ls hl => ?_)
  refine lv_iload_n hx hb dJ6_bitCount_0f7a4_24 rfl (lv_at hl 0 rfl) ?_
  refine lv_iload_n hx hb dJ6_bitCount_0f7a4_25 rfl (lv_at hl 0 rfl) ?_
  refine lv_iconst (v := 4) hx hb dJ6_bitCount_0f7a4_26 (by decide) ?_
  refine lv_iushr (v := us (((x0 - ((us x0 1) &&& 1431655765)) &&& 858993459) + ((us (x0 - ((us x0 1) &&& 1431655765)) 2) &&& 858993459)) 4) hx hb dJ6_bitCount_0f7a4_27 rfl ?_
  refine lv_iadd hx hb dJ6_bitCount_0f7a4_28 ?_
  refine lv_ldcw (v := 252645135) hx hb hown (htm _ qw_344) dJ6_bitCount_0f7a4_29 ?_
  refine lv_iand hx hb dJ6_bitCount_0f7a4_32 ?_
  refine lv_istore_n (lv' := [(0, .int (((((x0 - ((us x0 1) &&& 1431655765)) &&& 858993459) + ((us (x0 - ((us x0 1) &&& 1431655765)) 2) &&& 858993459)) + (us (((x0 - ((us x0 1) &&& 1431655765)) &&& 858993459) + ((us (x0 - ((us x0 1) &&& 1431655765)) 2) &&& 858993459)) 4)) &&& 252645135))]) hx hb dJ6_bitCount_0f7a4_33 rfl hl (by decide) rfl (fun ls hl => ?_)
  refine lv_iload_n hx hb dJ6_bitCount_0f7a4_34 rfl (lv_at hl 0 rfl) ?_
  refine lv_iload_n hx hb dJ6_bitCount_0f7a4_35 rfl (lv_at hl 0 rfl) ?_
  refine lv_bipush (v := 8) hx hb dJ6_bitCount_0f7a4_36 (by decide) ?_
  refine lv_iushr (v := us (((((x0 - ((us x0 1) &&& 1431655765)) &&& 858993459) + ((us (x0 - ((us x0 1) &&& 1431655765)) 2) &&& 858993459)) + (us (((x0 - ((us x0 1) &&& 1431655765)) &&& 858993459) + ((us (x0 - ((us x0 1) &&& 1431655765)) 2) &&& 858993459)) 4)) &&& 252645135) 8) hx hb dJ6_bitCount_0f7a4_38 rfl ?_
  refine lv_iadd hx hb dJ6_bitCount_0f7a4_39 ?_
  refine lv_istore_n (lv' := [(0, .int ((((((x0 - ((us x0 1) &&& 1431655765)) &&& 858993459) + ((us (x0 - ((us x0 1) &&& 1431655765)) 2) &&& 858993459)) + (us (((x0 - ((us x0 1) &&& 1431655765)) &&& 858993459) + ((us (x0 - ((us x0 1) &&& 1431655765)) 2) &&& 858993459)) 4)) &&& 252645135) + (us (((((x0 - ((us x0 1) &&& 1431655765)) &&& 858993459) + ((us (x0 - ((us x0 1) &&& 1431655765)) 2) &&& 858993459)) + (us (((x0 - ((us x0 1) &&& 1431655765)) &&& 858993459) + ((us (x0 - ((us x0 1) &&& 1431655765)) 2) &&& 858993459)) 4)) &&& 252645135) 8)))]) hx hb dJ6_bitCount_0f7a4_40 rfl hl (by decide) rfl (fun ls hl => ?_)
  refine lv_iload_n hx hb dJ6_bitCount_0f7a4_41 rfl (lv_at hl 0 rfl) ?_
  refine lv_iload_n hx hb dJ6_bitCount_0f7a4_42 rfl (lv_at hl 0 rfl) ?_
  refine lv_bipush (v := 16) hx hb dJ6_bitCount_0f7a4_43 (by decide) ?_
  refine lv_iushr (v := us ((((((x0 - ((us x0 1) &&& 1431655765)) &&& 858993459) + ((us (x0 - ((us x0 1) &&& 1431655765)) 2) &&& 858993459)) + (us (((x0 - ((us x0 1) &&& 1431655765)) &&& 858993459) + ((us (x0 - ((us x0 1) &&& 1431655765)) 2) &&& 858993459)) 4)) &&& 252645135) + (us (((((x0 - ((us x0 1) &&& 1431655765)) &&& 858993459) + ((us (x0 - ((us x0 1) &&& 1431655765)) 2) &&& 858993459)) + (us (((x0 - ((us x0 1) &&& 1431655765)) &&& 858993459) + ((us (x0 - ((us x0 1) &&& 1431655765)) 2) &&& 858993459)) 4)) &&& 252645135) 8)) 16) hx hb dJ6_bitCount_0f7a4_45 rfl ?_
  refine lv_iadd hx hb dJ6_bitCount_0f7a4_46 ?_
  refine lv_istore_n (lv' := [(0, .int (((((((x0 - ((us x0 1) &&& 1431655765)) &&& 858993459) + ((us (x0 - ((us x0 1) &&& 1431655765)) 2) &&& 858993459)) + (us (((x0 - ((us x0 1) &&& 1431655765)) &&& 858993459) + ((us (x0 - ((us x0 1) &&& 1431655765)) 2) &&& 858993459)) 4)) &&& 252645135) + (us (((((x0 - ((us x0 1) &&& 1431655765)) &&& 858993459) + ((us (x0 - ((us x0 1) &&& 1431655765)) 2) &&& 858993459)) + (us (((x0 - ((us x0 1) &&& 1431655765)) &&& 858993459) + ((us (x0 - ((us x0 1) &&& 1431655765)) 2) &&& 858993459)) 4)) &&& 252645135) 8)) + (us ((((((x0 - ((us x0 1) &&& 1431655765)) &&& 858993459) + ((us (x0 - ((us x0 1) &&& 1431655765)) 2) &&& 858993459)) + (us (((x0 - ((us x0 1) &&& 1431655765)) &&& 858993459) + ((us (x0 - ((us x0 1) &&& 1431655765)) 2) &&& 858993459)) 4)) &&& 252645135) + (us (((((x0 - ((us x0 1) &&& 1431655765)) &&& 858993459) + ((us (x0 - ((us x0 1) &&& 1431655765)) 2) &&& 858993459)) + (us (((x0 - ((us x0 1) &&& 1431655765)) &&& 858993459) + ((us (x0 - ((us x0 1) &&& 1431655765)) 2) &&& 858993459)) 4)) &&& 252645135) 8)) 16)))]) hx hb dJ6_bitCount_0f7a4_47 rfl hl (by decide) rfl (fun ls hl => ?_)
  refine lv_iload_n hx hb dJ6_bitCount_0f7a4_48 rfl (lv_at hl 0 rfl) ?_
  refine lv_bipush (v := 63) hx hb dJ6_bitCount_0f7a4_49 (by decide) ?_
  refine lv_iand hx hb dJ6_bitCount_0f7a4_51 ?_
  cases hF
  exact m_iret X hS hP rfl dJ6_bitCount_0f7a4_52
end
section
theorem vw_X3_hasSpec : VW RX3 yX3_hasSpec cX3_hasSpec 2 (some .boolean) 1 := ⟨qw_111, qw_112, qw_113, qw_109, ⟨rfl, by decide, by decide, by decide +kernel⟩⟩
theorem vw_X3_placesOf : VW RX3 yX3_placesOf cX3_placesOf 2 (some .int) 1 := ⟨qw_393, qw_394, qw_113, qw_114, ⟨rfl, by decide, by decide, by decide +kernel⟩⟩
theorem vw_X3_placeAt : VW RX3 yX3_placeAt cX3_placeAt 3 (some .int) 2 := ⟨qw_169, qw_170, qw_113, qw_115, ⟨rfl, by decide, by decide, by decide +kernel⟩⟩
theorem vw_X3_addSpec : VW RX3 yX3_addSpec cX3_addSpec 5 (some .int) 3 := ⟨qw_385, qw_386, qw_113, qw_116, ⟨rfl, by decide, by decide, by decide +kernel⟩⟩
theorem vw_X3_addPlace : VW RX3 yX3_addPlace cX3_addPlace 7 (some .int) 4 := ⟨qw_396, qw_397, qw_113, qw_117, ⟨rfl, by decide, by decide, by decide +kernel⟩⟩
theorem vw_X4_add : VW RX4 yX4_add cX4_add 3 none 1 := ⟨qw_288, qw_289, qw_46, qw_118, ⟨rfl, by decide, by decide, by decide +kernel⟩⟩
theorem vw_X4_copyFrom : VW RX4 yX4_copyFrom cX4_copyFrom 2 none 1 := ⟨qw_67, qw_68, qw_46, qw_55, ⟨rfl, by decide, by decide, by decide +kernel⟩⟩
theorem vw_X0_put : VW RX0 yX0_put cX0_put 3 (some .boolean) 2 := ⟨qw_198, qw_199, qw_44, qw_3, ⟨rfl, by decide, by decide, by decide +kernel⟩⟩
theorem vw_X0_firstOf : VW RX0 yX0_firstOf cX0_firstOf 3 (some .int) 1 := ⟨qw_84, qw_85, qw_44, qw_4, ⟨rfl, by decide, by decide, by decide +kernel⟩⟩
theorem vw_X0_takeOut : VW RX0 yX0_takeOut cX0_takeOut 4 (some .int) 1 := ⟨qw_87, qw_88, qw_44, qw_8, ⟨rfl, by decide, by decide, by decide +kernel⟩⟩
theorem vw_X0_copyFrom : VW RX0 yX0_copyFrom cX0_copyFrom 2 none 1 := ⟨qw_64, qw_65, qw_44, qw_13, ⟨rfl, by decide, by decide, by decide +kernel⟩⟩
theorem vw_X1_hasModule : VW RX1 yX1_hasModule cX1_hasModule 2 (some .boolean) 1 := ⟨qw_21, qw_22, qw_23, qw_19, ⟨rfl, by decide, by decide, by decide +kernel⟩⟩
theorem vw_X1_rowOf : VW RX1 yX1_rowOf cX1_rowOf 3 (some .int) 2 := ⟨qw_26, qw_27, qw_23, qw_24, ⟨rfl, by decide, by decide, by decide +kernel⟩⟩
theorem vw_X1_linesOf : VW RX1 yX1_linesOf cX1_linesOf 4 (some .int) 2 := ⟨qw_363, qw_364, qw_23, qw_28, ⟨rfl, by decide, by decide, by decide +kernel⟩⟩
theorem vw_X1_lineAt : VW RX1 yX1_lineAt cX1_lineAt 5 (some .int) 3 := ⟨qw_319, qw_320, qw_23, qw_29, ⟨rfl, by decide, by decide, by decide +kernel⟩⟩
theorem vw_X1_addLine : VW RX1 yX1_addLine cX1_addLine 9 (some .int) 5 := ⟨qw_374, qw_375, qw_23, qw_31, ⟨rfl, by decide, by decide, by decide +kernel⟩⟩
def f_X3_hasSpec (G : MT) (x1 : Int32) : Option (Int32) :=
  if x1 < 0 then (some 0) else (if G 22 0 0 ≤ x1 then (some 0) else (if 5 ≤ x1 then (some 0) else (some 1)))
def rm_X3_hasSpec : Room := { frames := 0, cells := 0, slots := 0, locals := 0 }
set_option maxRecDepth 20000 in
set_option maxHeartbeats 4000000 in
theorem c_X3_hasSpec {l : Launch} {D : va_G} {ad : Nat → Nat → Nat → Nat} {cI cZ cP : ClassId} {A : Nat → Prop} {w : Nat} (hw : w < 2) {G V U : MT} {x1 : Int32} {r : Int32}  (hF : f_X3_hasSpec G x1 = some r) : Met l yX3_hasSpec (.code yX3_hasSpec cX3_hasSpec 2 (some .boolean) :: WM) rm_X3_hasSpec (PcM D ad cI cZ cP A [.ref (ad 2 22 0), .int x1] (Pic D ad cI cZ cP w G V U)) (QcI A r (Pic D ad cI cZ cP w G V U)) 0 0 A := by
  refine m_entry (by decide) (Nat.le_of_ble_eq_true rfl) (fun p e s m below meth c ls X hP hS hl => ?_)
  have X : MX p s m _ meth c cX3_hasSpec RX3 2 (some .boolean) D ad cI cZ cP A := X
  obtain ⟨hx, hb, hml, hown, htm, hr, hlk, hE⟩ := id X
  have hl : lv_has ls 2 [(0, .ref (ad 2 22 0)), (1, .int x1)] := hl
  refine lv_iload_n hx hb dX3_hasSpec_0 rfl (lv_at hl 1 rfl) ?_
  refine lv_if_lt (tgt := 21) hx hb dX3_hasSpec_1 (by decide) (fun c1 => ?_) (fun c1 => ?_)
  · have hF := ite_T c1 hF
    refine lv_iconst (v := 0) hx hb dX3_hasSpec_21 (by decide) ?_
    cases hF
    exact m_zret X hS hP rfl (Or.inl rfl) dX3_hasSpec_22
  · have hF := ite_F c1 hF
    refine lv_iload_n hx hb dX3_hasSpec_4 rfl (lv_at hl 1 rfl) ?_
    refine lv_aload_n hx hb dX3_hasSpec_5 rfl (lv_at hl 0 rfl) ?_
    refine gf_22_0 hx hb htm hown hE hP (htm _ qw_108) dX3_hasSpec_6 ?_
    refine lv_icmp_ge (tgt := 21) hx hb dX3_hasSpec_9 (by decide) (fun c2 => ?_) (fun c2 => ?_)
    · have hF := ite_T c2 hF
      refine lv_iconst (v := 0) hx hb dX3_hasSpec_21 (by decide) ?_
      cases hF
      exact m_zret X hS hP rfl (Or.inl rfl) dX3_hasSpec_22
    · have hF := ite_F c2 hF
      refine lv_iload_n hx hb dX3_hasSpec_12 rfl (lv_at hl 1 rfl) ?_
      refine lv_iconst (v := 5) hx hb dX3_hasSpec_13 (by decide) ?_
      refine lv_icmp_ge (tgt := 21) hx hb dX3_hasSpec_14 (by decide) (fun c3 => ?_) (fun c3 => ?_)
      · have hF := ite_T c3 hF
        refine lv_iconst (v := 0) hx hb dX3_hasSpec_21 (by decide) ?_
        cases hF
        exact m_zret X hS hP rfl (Or.inl rfl) dX3_hasSpec_22
      · have hF := ite_F c3 hF
        refine lv_iconst (v := 1) hx hb dX3_hasSpec_17 (by decide) ?_
        refine lv_goto (tgt := 22) hx hb dX3_hasSpec_18 (by decide) ?_
        cases hF
        exact m_zret X hS hP rfl (Or.inr rfl) dX3_hasSpec_22
def f_X3_placesOf (G : MT) (x1 : Int32) : Option (Int32) :=
  (f_X3_hasSpec G x1).bind (fun q1_ => if q1_ = 0 then (some 0) else (if ¬ (x1 < 0 ∨ 5 ≤ Int32.toNatClampNeg x1) then (some (G 26 0 (Int32.toNatClampNeg x1))) else none))
def rm_X3_placesOf : Room := { frames := 1, cells := 0, slots := 0, locals := 21 }
set_option maxRecDepth 20000 in
set_option maxHeartbeats 4000000 in
theorem c_X3_placesOf {l : Launch} {D : va_G} {ad : Nat → Nat → Nat → Nat} {cI cZ cP : ClassId} {A : Nat → Prop} {w : Nat} (hw : w < 2) {G V U : MT} {x1 : Int32} {r : Int32}  (hF : f_X3_placesOf G x1 = some r) : Met l yX3_placesOf (.code yX3_placesOf cX3_placesOf 2 (some .int) :: WM) rm_X3_placesOf (PcM D ad cI cZ cP A [.ref (ad 2 22 0), .int x1] (Pic D ad cI cZ cP w G V U)) (QcI A r (Pic D ad cI cZ cP w G V U)) 0 0 A := by
  refine m_entry (by decide) (Nat.le_of_ble_eq_true rfl) (fun p e s m below meth c ls X hP hS hl => ?_)
  have X : MX p s m _ meth c cX3_placesOf RX3 2 (some .int) D ad cI cZ cP A := X
  obtain ⟨hx, hb, hml, hown, htm, hr, hlk, hE⟩ := id X
  have hl : lv_has ls 2 [(0, .ref (ad 2 22 0)), (1, .int x1)] := hl
  refine lv_aload_n hx hb dX3_placesOf_0 rfl (lv_at hl 0 rfl) ?_
  refine lv_iload_n hx hb dX3_placesOf_1 rfl (lv_at hl 1 rfl) ?_
  obtain ⟨r1, hc1, hF⟩ := ob_S hF
  refine m_cVi X hS vw_X3_hasSpec qw_110 (c_X3_hasSpec hw hc1) ⟨rfl, rfl⟩ ⟨Nat.le_of_ble_eq_true rfl, Nat.le_of_ble_eq_true rfl⟩ (rc_22 hE hP) hP rfl hl.1 (rest := []) rfl (Nat.le_of_ble_eq_true rfl) dX3_placesOf_2 (fun H locs hP hS => ?_)
  refine lv_if_eq (tgt := 17) hx hb dX3_placesOf_5 (by decide) (fun c2 => ?_) (fun c2 => ?_)
  · have hF := ite_T c2 hF
    refine lv_iconst (v := 0) hx hb dX3_placesOf_17 (by decide) ?_
    cases hF
    exact m_iret X hS hP rfl dX3_placesOf_18
  · have hF := ite_F c2 hF
    refine lv_aload_n hx hb dX3_placesOf_8 rfl (lv_at hl 0 rfl) ?_
    refine gf_22_4 hx hb htm hown hE hP (htm _ qw_104) dX3_placesOf_9 ?_
    refine lv_iload_n hx hb dX3_placesOf_12 rfl (lv_at hl 1 rfl) ?_
    obtain ⟨hn3, hF⟩ := ite_S hF
    refine al_26 hx hb htm hown hE hP hn3 dX3_placesOf_13 ?_
    refine lv_goto (tgt := 18) hx hb dX3_placesOf_14 (by decide) ?_
    cases hF
    exact m_iret X hS hP rfl dX3_placesOf_18
def f_X3_placeAt (G : MT) (x1 : Int32) (x2 : Int32) : Option (Int32) :=
  if x1 < 0 then (some (-1)) else (if G 22 0 0 ≤ x1 then (some (-1)) else (if x1 < 5 then (if x2 < 0 then (some (-1)) else (if ¬ (x1 < 0 ∨ 5 ≤ Int32.toNatClampNeg x1) then (if G 26 0 (Int32.toNatClampNeg x1) ≤ x2 then (some (-1)) else (if x2 < 4 then (some ((x1 * 4) + x2)) else (some (-1)))) else none)) else (some (-1))))
def rm_X3_placeAt : Room := { frames := 0, cells := 0, slots := 0, locals := 0 }
set_option maxRecDepth 20000 in
set_option maxHeartbeats 4000000 in
theorem c_X3_placeAt {l : Launch} {D : va_G} {ad : Nat → Nat → Nat → Nat} {cI cZ cP : ClassId} {A : Nat → Prop} {w : Nat} (hw : w < 2) {G V U : MT} {x1 : Int32} {x2 : Int32} {r : Int32}  (hF : f_X3_placeAt G x1 x2 = some r) : Met l yX3_placeAt (.code yX3_placeAt cX3_placeAt 3 (some .int) :: WM) rm_X3_placeAt (PcM D ad cI cZ cP A [.ref (ad 2 22 0), .int x1, .int x2] (Pic D ad cI cZ cP w G V U)) (QcI A r (Pic D ad cI cZ cP w G V U)) 0 0 A := by
  refine m_entry (by decide) (Nat.le_of_ble_eq_true rfl) (fun p e s m below meth c ls X hP hS hl => ?_)
  have X : MX p s m _ meth c cX3_placeAt RX3 3 (some .int) D ad cI cZ cP A := X
  obtain ⟨hx, hb, hml, hown, htm, hr, hlk, hE⟩ := id X
  have hl : lv_has ls 3 [(0, .ref (ad 2 22 0)), (1, .int x1), (2, .int x2)] := hl
  refine lv_iload_n hx hb dX3_placeAt_0 rfl (lv_at hl 1 rfl) ?_
  refine lv_if_lt (tgt := 17) hx hb dX3_placeAt_1 (by decide) (fun c1 => ?_) (fun c1 => ?_)
  · have hF := ite_T c1 hF
    refine lv_iconst (v := (-1)) hx hb dX3_placeAt_17 (by decide) ?_
    cases hF
    exact m_iret X hS hP rfl dX3_placeAt_18
  · have hF := ite_F c1 hF
    refine lv_iload_n hx hb dX3_placeAt_4 rfl (lv_at hl 1 rfl) ?_
    refine lv_aload_n hx hb dX3_placeAt_5 rfl (lv_at hl 0 rfl) ?_
    refine gf_22_0 hx hb htm hown hE hP (htm _ qw_108) dX3_placeAt_6 ?_
    refine lv_icmp_ge (tgt := 17) hx hb dX3_placeAt_9 (by decide) (fun c2 => ?_) (fun c2 => ?_)
    · have hF := ite_T c2 hF
      refine lv_iconst (v := (-1)) hx hb dX3_placeAt_17 (by decide) ?_
      cases hF
      exact m_iret X hS hP rfl dX3_placeAt_18
    · have hF := ite_F c2 hF
      refine lv_iload_n hx hb dX3_placeAt_12 rfl (lv_at hl 1 rfl) ?_
      refine lv_iconst (v := 5) hx hb dX3_placeAt_13 (by decide) ?_
      refine lv_icmp_lt (tgt := 19) hx hb dX3_placeAt_14 (by decide) (fun c3 => ?_) (fun c3 => ?_)
      · have hF := ite_T c3 hF
        refine lv_iload_n hx hb dX3_placeAt_19 rfl (lv_at hl 2 rfl) ?_
        refine lv_if_lt (tgt := 38) hx hb dX3_placeAt_20 (by decide) (fun c4 => ?_) (fun c4 => ?_)
        · have hF := ite_T c4 hF
          refine lv_iconst (v := (-1)) hx hb dX3_placeAt_38 (by decide) ?_
          cases hF
          exact m_iret X hS hP rfl dX3_placeAt_39
        · have hF := ite_F c4 hF
          refine lv_iload_n hx hb dX3_placeAt_23 rfl (lv_at hl 2 rfl) ?_
          refine lv_aload_n hx hb dX3_placeAt_24 rfl (lv_at hl 0 rfl) ?_
          refine gf_22_4 hx hb htm hown hE hP (htm _ qw_104) dX3_placeAt_25 ?_
          refine lv_iload_n hx hb dX3_placeAt_28 rfl (lv_at hl 1 rfl) ?_
          obtain ⟨hn5, hF⟩ := ite_S hF
          refine al_26 hx hb htm hown hE hP hn5 dX3_placeAt_29 ?_
          refine lv_icmp_ge (tgt := 38) hx hb dX3_placeAt_30 (by decide) (fun c6 => ?_) (fun c6 => ?_)
          · have hF := ite_T c6 hF
            refine lv_iconst (v := (-1)) hx hb dX3_placeAt_38 (by decide) ?_
            cases hF
            exact m_iret X hS hP rfl dX3_placeAt_39
          · have hF := ite_F c6 hF
            refine lv_iload_n hx hb dX3_placeAt_33 rfl (lv_at hl 2 rfl) ?_
            refine lv_iconst (v := 4) hx hb dX3_placeAt_34 (by decide) ?_
            refine lv_icmp_lt (tgt := 40) hx hb dX3_placeAt_35 (by decide) (fun c7 => ?_) (fun c7 => ?_)
            · have hF := ite_T c7 hF
              refine lv_iload_n hx hb dX3_placeAt_40 rfl (lv_at hl 1 rfl) ?_
              refine lv_iconst (v := 4) hx hb dX3_placeAt_41 (by decide) ?_
              refine lv_imul hx hb dX3_placeAt_42 ?_
              refine lv_iload_n hx hb dX3_placeAt_43 rfl (lv_at hl 2 rfl) ?_
              refine lv_iadd hx hb dX3_placeAt_44 ?_
              cases hF
              exact m_iret X hS hP rfl dX3_placeAt_45
            · have hF := ite_F c7 hF
              refine lv_iconst (v := (-1)) hx hb dX3_placeAt_38 (by decide) ?_
              cases hF
              exact m_iret X hS hP rfl dX3_placeAt_39
      · have hF := ite_F c3 hF
        refine lv_iconst (v := (-1)) hx hb dX3_placeAt_17 (by decide) ?_
        cases hF
        exact m_iret X hS hP rfl dX3_placeAt_18
def f_X3_addSpec (G : MT) (x1 : Int32) (x2 : Int32) (x3 : Int32) : Option (Int32 × MT) :=
  if G 22 0 0 < 5 then (if ¬ (G 22 0 0 < 0 ∨ 5 ≤ Int32.toNatClampNeg (G 22 0 0)) then (if ¬ (G 22 0 0 < 0 ∨ 5 ≤ Int32.toNatClampNeg (G 22 0 0)) then (if ¬ (G 22 0 0 < 0 ∨ 5 ≤ Int32.toNatClampNeg (G 22 0 0)) then (some (G 22 0 0, (pt (pt (pt (pt G 22 0 0 ((G 22 0 0) + 1)) 23 0 (Int32.toNatClampNeg (G 22 0 0)) x1) 24 0 (Int32.toNatClampNeg (G 22 0 0)) x2) 25 0 (Int32.toNatClampNeg (G 22 0 0)) x3))) else none) else none) else none) else (some ((-1), G))
def rm_X3_addSpec : Room := { frames := 0, cells := 0, slots := 0, locals := 0 }
set_option maxRecDepth 20000 in
set_option maxHeartbeats 4000000 in
theorem c_X3_addSpec {l : Launch} {D : va_G} {ad : Nat → Nat → Nat → Nat} {cI cZ cP : ClassId} {A : Nat → Prop} {w : Nat} (hw : w < 2) {G V U : MT} {x1 : Int32} {x2 : Int32} {x3 : Int32} {r : Int32} {G' : MT}  (hF : f_X3_addSpec G x1 x2 x3 = some (r, G')) : Met l yX3_addSpec (.code yX3_addSpec cX3_addSpec 5 (some .int) :: WM) rm_X3_addSpec (PcM D ad cI cZ cP A [.ref (ad 2 22 0), .int x1, .int x2, .int x3] (Pic D ad cI cZ cP w G V U)) (QcI A r (Pic D ad cI cZ cP w G' V U)) 0 0 A := by
  refine m_entry (by decide) (Nat.le_of_ble_eq_true rfl) (fun p e s m below meth c ls X hP hS hl => ?_)
  have X : MX p s m _ meth c cX3_addSpec RX3 5 (some .int) D ad cI cZ cP A := X
  obtain ⟨hx, hb, hml, hown, htm, hr, hlk, hE⟩ := id X
  have hl : lv_has ls 5 [(0, .ref (ad 2 22 0)), (1, .int x1), (2, .int x2), (3, .int x3)] := hl
  refine lv_aload_n hx hb dX3_addSpec_0 rfl (lv_at hl 0 rfl) ?_
  refine gf_22_0 hx hb htm hown hE hP (htm _ qw_108) dX3_addSpec_1 ?_
  refine lv_iconst (v := 5) hx hb dX3_addSpec_4 (by decide) ?_
  refine lv_icmp_lt (tgt := 10) hx hb dX3_addSpec_5 (by decide) (fun c1 => ?_) (fun c1 => ?_)
  · have hF := ite_T c1 hF
    refine lv_aload_n hx hb dX3_addSpec_10 rfl (lv_at hl 0 rfl) ?_
    refine gf_22_0 hx hb htm hown hE hP (htm _ qw_108) dX3_addSpec_11 ?_
    refine lv_istore (lv' := [(4, .int (G 22 0 0)), (0, .ref (ad 2 22 0)), (1, .int x1), (2, .int x2), (3, .int x3)]) hx hb dX3_addSpec_14 hl (by decide) rfl (fun ls hl => ?_)
    refine lv_aload_n hx hb dX3_addSpec_16 rfl (lv_at hl 1 rfl) ?_
    refine lv_dup hx hb dX3_addSpec_17 rfl ?_
    refine gf_22_0 hx hb htm hown hE hP (htm _ qw_108) dX3_addSpec_18 ?_
    refine lv_iconst (v := 1) hx hb dX3_addSpec_21 (by decide) ?_
    refine lv_iadd hx hb dX3_addSpec_22 ?_
    refine pf_22_0 hx hb htm hown hE hP hS (htm _ qw_108) dX3_addSpec_23 (fun H locs hP hS => ?_)
    refine lv_aload_n hx hb dX3_addSpec_26 rfl (lv_at hl 1 rfl) ?_
    refine gf_22_1 hx hb htm hown hE hP (htm _ qw_101) dX3_addSpec_27 ?_
    refine lv_iload hx hb dX3_addSpec_30 (lv_at hl 0 rfl) ?_
    refine lv_iload_n hx hb dX3_addSpec_32 rfl (lv_at hl 2 rfl) ?_
    obtain ⟨hn2, hF⟩ := ite_S hF
    refine as_23 hx hb htm hown hE hP hS hn2 dX3_addSpec_33 (fun H locs hP hS => ?_)
    refine lv_aload_n hx hb dX3_addSpec_34 rfl (lv_at hl 1 rfl) ?_
    refine gf_22_2 hx hb htm hown hE hP (htm _ qw_102) dX3_addSpec_35 ?_
    refine lv_iload hx hb dX3_addSpec_38 (lv_at hl 0 rfl) ?_
    refine lv_iload_n hx hb dX3_addSpec_40 rfl (lv_at hl 3 rfl) ?_
    obtain ⟨hn3, hF⟩ := ite_S hF
    refine as_24 hx hb htm hown hE hP hS hn3 dX3_addSpec_41 (fun H locs hP hS => ?_)
    refine lv_aload_n hx hb dX3_addSpec_42 rfl (lv_at hl 1 rfl) ?_
    refine gf_22_3 hx hb htm hown hE hP (htm _ qw_103) dX3_addSpec_43 ?_
    refine lv_iload hx hb dX3_addSpec_46 (lv_at hl 0 rfl) ?_
    refine lv_iload_n hx hb dX3_addSpec_48 rfl (lv_at hl 4 rfl) ?_
    obtain ⟨hn4, hF⟩ := ite_S hF
    refine as_25 hx hb htm hown hE hP hS hn4 dX3_addSpec_49 (fun H locs hP hS => ?_)
    refine lv_iload hx hb dX3_addSpec_50 (lv_at hl 0 rfl) ?_
    cases hF
    exact m_iret X hS hP rfl dX3_addSpec_52
  · have hF := ite_F c1 hF
    refine lv_iconst (v := (-1)) hx hb dX3_addSpec_8 (by decide) ?_
    cases hF
    exact m_iret X hS hP rfl dX3_addSpec_9
def f_X3_addPlace (G : MT) (x1 : Int32) (x2 : Int32) (x3 : Int32) (x4 : Int32) : Option (Int32 × MT) :=
  (f_X3_hasSpec G x1).bind (fun q1_ => if q1_ = 0 then (some ((-1), G)) else (if ¬ (x1 < 0 ∨ 5 ≤ Int32.toNatClampNeg x1) then (if G 26 0 (Int32.toNatClampNeg x1) < 4 then (if ¬ (x1 < 0 ∨ 5 ≤ Int32.toNatClampNeg x1) then (if ¬ (x1 < 0 ∨ 5 ≤ Int32.toNatClampNeg x1) then (if ¬ ((x1 * 4) + (G 26 0 (Int32.toNatClampNeg x1)) < 0 ∨ 20 ≤ Int32.toNatClampNeg ((x1 * 4) + (G 26 0 (Int32.toNatClampNeg x1)))) then (if ¬ ((x1 * 4) + (G 26 0 (Int32.toNatClampNeg x1)) < 0 ∨ 20 ≤ Int32.toNatClampNeg ((x1 * 4) + (G 26 0 (Int32.toNatClampNeg x1)))) then (if ¬ ((x1 * 4) + (G 26 0 (Int32.toNatClampNeg x1)) < 0 ∨ 20 ≤ Int32.toNatClampNeg ((x1 * 4) + (G 26 0 (Int32.toNatClampNeg x1)))) then (some (G 26 0 (Int32.toNatClampNeg x1), (pt (pt (pt (pt G 26 0 (Int32.toNatClampNeg x1) ((G 26 0 (Int32.toNatClampNeg x1)) + 1)) 27 0 (Int32.toNatClampNeg ((x1 * 4) + (G 26 0 (Int32.toNatClampNeg x1)))) (vp_nar .boolean x2)) 28 0 (Int32.toNatClampNeg ((x1 * 4) + (G 26 0 (Int32.toNatClampNeg x1)))) x3) 29 0 (Int32.toNatClampNeg ((x1 * 4) + (G 26 0 (Int32.toNatClampNeg x1)))) x4))) else none) else none) else none) else none) else none) else (some ((-1), G))) else none))
def rm_X3_addPlace : Room := { frames := 1, cells := 0, slots := 0, locals := 21 }
set_option maxRecDepth 20000 in
set_option maxHeartbeats 4000000 in
theorem c_X3_addPlace {l : Launch} {D : va_G} {ad : Nat → Nat → Nat → Nat} {cI cZ cP : ClassId} {A : Nat → Prop} {w : Nat} (hw : w < 2) {G V U : MT} {x1 : Int32} {x2 : Int32} {x3 : Int32} {x4 : Int32} {r : Int32} {G' : MT}  (hF : f_X3_addPlace G x1 x2 x3 x4 = some (r, G')) : Met l yX3_addPlace (.code yX3_addPlace cX3_addPlace 7 (some .int) :: WM) rm_X3_addPlace (PcM D ad cI cZ cP A [.ref (ad 2 22 0), .int x1, .int x2, .int x3, .int x4] (Pic D ad cI cZ cP w G V U)) (QcI A r (Pic D ad cI cZ cP w G' V U)) 0 0 A := by
  refine m_entry (by decide) (Nat.le_of_ble_eq_true rfl) (fun p e s m below meth c ls X hP hS hl => ?_)
  have X : MX p s m _ meth c cX3_addPlace RX3 7 (some .int) D ad cI cZ cP A := X
  obtain ⟨hx, hb, hml, hown, htm, hr, hlk, hE⟩ := id X
  have hl : lv_has ls 7 [(0, .ref (ad 2 22 0)), (1, .int x1), (2, .int x2), (3, .int x3), (4, .int x4)] := hl
  refine lv_aload_n hx hb dX3_addPlace_0 rfl (lv_at hl 0 rfl) ?_
  refine lv_iload_n hx hb dX3_addPlace_1 rfl (lv_at hl 1 rfl) ?_
  obtain ⟨r1, hc1, hF⟩ := ob_S hF
  refine m_cVi X hS vw_X3_hasSpec qw_110 (c_X3_hasSpec hw hc1) ⟨rfl, rfl⟩ ⟨Nat.le_of_ble_eq_true rfl, Nat.le_of_ble_eq_true rfl⟩ (rc_22 hE hP) hP rfl hl.1 (rest := []) rfl (Nat.le_of_ble_eq_true rfl) dX3_addPlace_2 (fun H locs hP hS => ?_)
  refine lv_if_eq (tgt := 18) hx hb dX3_addPlace_5 (by decide) (fun c2 => ?_) (fun c2 => ?_)
  · have hF := ite_T c2 hF
    refine lv_iconst (v := (-1)) hx hb dX3_addPlace_18 (by decide) ?_
    cases hF
    exact m_iret X hS hP rfl dX3_addPlace_19
  · have hF := ite_F c2 hF
    refine lv_aload_n hx hb dX3_addPlace_8 rfl (lv_at hl 0 rfl) ?_
    refine gf_22_4 hx hb htm hown hE hP (htm _ qw_104) dX3_addPlace_9 ?_
    refine lv_iload_n hx hb dX3_addPlace_12 rfl (lv_at hl 1 rfl) ?_
    obtain ⟨hn3, hF⟩ := ite_S hF
    refine al_26 hx hb htm hown hE hP hn3 dX3_addPlace_13 ?_
    refine lv_iconst (v := 4) hx hb dX3_addPlace_14 (by decide) ?_
    refine lv_icmp_lt (tgt := 20) hx hb dX3_addPlace_15 (by decide) (fun c4 => ?_) (fun c4 => ?_)
    · have hF := ite_T c4 hF
      refine lv_aload_n hx hb dX3_addPlace_20 rfl (lv_at hl 0 rfl) ?_
      refine gf_22_4 hx hb htm hown hE hP (htm _ qw_104) dX3_addPlace_21 ?_
      refine lv_iload_n hx hb dX3_addPlace_24 rfl (lv_at hl 1 rfl) ?_
      obtain ⟨hn5, hF⟩ := ite_S hF
      refine al_26 hx hb htm hown hE hP hn5 dX3_addPlace_25 ?_
      refine lv_istore (lv' := [(5, .int (G 26 0 (Int32.toNatClampNeg x1))), (0, .ref (ad 2 22 0)), (1, .int x1), (2, .int x2), (3, .int x3), (4, .int x4)]) hx hb dX3_addPlace_26 hl (by decide) rfl (fun ls hl => ?_)
      refine lv_aload_n hx hb dX3_addPlace_28 rfl (lv_at hl 1 rfl) ?_
      refine gf_22_4 hx hb htm hown hE hP (htm _ qw_104) dX3_addPlace_29 ?_
      refine lv_iload_n hx hb dX3_addPlace_32 rfl (lv_at hl 2 rfl) ?_
      refine lv_iload hx hb dX3_addPlace_33 (lv_at hl 0 rfl) ?_
      refine lv_iconst (v := 1) hx hb dX3_addPlace_35 (by decide) ?_
      refine lv_iadd hx hb dX3_addPlace_36 ?_
      obtain ⟨hn6, hF⟩ := ite_S hF
      refine as_26 hx hb htm hown hE hP hS hn6 dX3_addPlace_37 (fun H locs hP hS => ?_)
      refine lv_iload_n hx hb dX3_addPlace_38 rfl (lv_at hl 2 rfl) ?_
      refine lv_iconst (v := 4) hx hb dX3_addPlace_39 (by decide) ?_
      refine lv_imul hx hb dX3_addPlace_40 ?_
      refine lv_iload hx hb dX3_addPlace_41 (lv_at hl 0 rfl) ?_
      refine lv_iadd hx hb dX3_addPlace_43 ?_
      refine lv_istore (lv' := [(6, .int ((x1 * 4) + (G 26 0 (Int32.toNatClampNeg x1)))), (5, .int (G 26 0 (Int32.toNatClampNeg x1))), (0, .ref (ad 2 22 0)), (1, .int x1), (2, .int x2), (3, .int x3), (4, .int x4)]) hx hb dX3_addPlace_44 hl (by decide) rfl (fun ls hl => ?_)
      refine lv_aload_n hx hb dX3_addPlace_46 rfl (lv_at hl 2 rfl) ?_
      refine gf_22_5 hx hb htm hown hE hP (htm _ qw_105) dX3_addPlace_47 ?_
      refine lv_iload hx hb dX3_addPlace_50 (lv_at hl 0 rfl) ?_
      refine lv_iload_n hx hb dX3_addPlace_52 rfl (lv_at hl 4 rfl) ?_
      obtain ⟨hn7, hF⟩ := ite_S hF
      refine mzs hx hb htm hown hE hP hS hn7 dX3_addPlace_53 (fun H locs hP hS => ?_)
      refine lv_aload_n hx hb dX3_addPlace_54 rfl (lv_at hl 2 rfl) ?_
      refine gf_22_6 hx hb htm hown hE hP (htm _ qw_106) dX3_addPlace_55 ?_
      refine lv_iload hx hb dX3_addPlace_58 (lv_at hl 0 rfl) ?_
      refine lv_iload_n hx hb dX3_addPlace_60 rfl (lv_at hl 5 rfl) ?_
      obtain ⟨hn8, hF⟩ := ite_S hF
      refine as_28 hx hb htm hown hE hP hS hn8 dX3_addPlace_61 (fun H locs hP hS => ?_)
      refine lv_aload_n hx hb dX3_addPlace_62 rfl (lv_at hl 2 rfl) ?_
      refine gf_22_7 hx hb htm hown hE hP (htm _ qw_107) dX3_addPlace_63 ?_
      refine lv_iload hx hb dX3_addPlace_66 (lv_at hl 0 rfl) ?_
      refine lv_iload hx hb dX3_addPlace_68 (lv_at hl 6 rfl) ?_
      obtain ⟨hn9, hF⟩ := ite_S hF
      refine as_29 hx hb htm hown hE hP hS hn9 dX3_addPlace_70 (fun H locs hP hS => ?_)
      refine lv_iload hx hb dX3_addPlace_71 (lv_at hl 1 rfl) ?_
      cases hF
      exact m_iret X hS hP rfl dX3_addPlace_73
    · have hF := ite_F c4 hF
      refine lv_iconst (v := (-1)) hx hb dX3_addPlace_18 (by decide) ?_
      cases hF
      exact m_iret X hS hP rfl dX3_addPlace_19
def f_X4_add_2 : Nat → Nat → Int32 → Int32 → MT → Option (MT)
  | 0, _, _, _, _ => none
  | n + 1, j0, y1, y2, V => if V 13 j0 2 ≤ y2 then (if 24 ≤ V 13 j0 2 then (some V) else (if ¬ (V 13 j0 2 < 0 ∨ 24 ≤ Int32.toNatClampNeg (V 13 j0 2)) then (if ¬ ((pt V 14 j0 (Int32.toNatClampNeg (V 13 j0 2)) y1) 13 j0 2 < 0 ∨ 24 ≤ Int32.toNatClampNeg ((pt V 14 j0 (Int32.toNatClampNeg (V 13 j0 2)) y1) 13 j0 2)) then (some (pt (pt (pt V 14 j0 (Int32.toNatClampNeg (V 13 j0 2)) y1) 15 j0 (Int32.toNatClampNeg ((pt V 14 j0 (Int32.toNatClampNeg (V 13 j0 2)) y1) 13 j0 2)) 1) 13 j0 2 (((pt (pt V 14 j0 (Int32.toNatClampNeg (V 13 j0 2)) y1) 15 j0 (Int32.toNatClampNeg ((pt V 14 j0 (Int32.toNatClampNeg (V 13 j0 2)) y1) 13 j0 2)) 1) 13 j0 2) + 1))) else none) else none)) else (if 24 ≤ y2 then (if 24 ≤ V 13 j0 2 then (some V) else (if ¬ (V 13 j0 2 < 0 ∨ 24 ≤ Int32.toNatClampNeg (V 13 j0 2)) then (if ¬ ((pt V 14 j0 (Int32.toNatClampNeg (V 13 j0 2)) y1) 13 j0 2 < 0 ∨ 24 ≤ Int32.toNatClampNeg ((pt V 14 j0 (Int32.toNatClampNeg (V 13 j0 2)) y1) 13 j0 2)) then (some (pt (pt (pt V 14 j0 (Int32.toNatClampNeg (V 13 j0 2)) y1) 15 j0 (Int32.toNatClampNeg ((pt V 14 j0 (Int32.toNatClampNeg (V 13 j0 2)) y1) 13 j0 2)) 1) 13 j0 2 (((pt (pt V 14 j0 (Int32.toNatClampNeg (V 13 j0 2)) y1) 15 j0 (Int32.toNatClampNeg ((pt V 14 j0 (Int32.toNatClampNeg (V 13 j0 2)) y1) 13 j0 2)) 1) 13 j0 2) + 1))) else none) else none)) else (if ¬ (y2 < 0 ∨ 24 ≤ Int32.toNatClampNeg y2) then (if V 14 j0 (Int32.toNatClampNeg y2) = y1 then (if ¬ (y2 < 0 ∨ 24 ≤ Int32.toNatClampNeg y2) then (if ¬ (y2 < 0 ∨ 24 ≤ Int32.toNatClampNeg y2) then (some (pt V 15 j0 (Int32.toNatClampNeg y2) ((V 15 j0 (Int32.toNatClampNeg y2)) + 1))) else none) else none) else ((f_X4_add_2 n) j0 y1 (y2 + 1) V)) else none))
def f_X4_add (V : MT) (i0 : Nat) (x1 : Int32) : Option (MT) :=
  f_X4_add_2   30 i0 x1 0 V
def rm_X4_add : Room := { frames := 0, cells := 0, slots := 0, locals := 0 }
set_option maxRecDepth 20000 in
set_option maxHeartbeats 4000000 in
theorem l_X4_add_2 {p : Program} {l : Launch} {e : Env} {s : State} {m : MethodId} {args : Array Value} {below : List Frame} {meth : Method} {c : Code} {D : va_G} {ad : Nat → Nat → Nat → Nat} {cI cZ cP : ClassId} {A : Nat → Prop} {G U : MT} {V' : MT} (X : MX p s m args meth c cX4_add RX4 3 none D ad cI cZ cP A) {w : Nat} (hw : w < 2) (n : Nat) : ∀ {H : Heap} {locs : List Loc} {ls : Array Slot} (j0 : Nat) (y1 : Int32) (y2 : Int32) (V : MT), j0 < 24 → Pic D ad cI cZ cP w G V U H → va_S A s.heap H locs → lv_has ls 3 [(0, .ref (ad w 13 j0)), (1, .int y1), (2, .int y2)] → f_X4_add_2 n j0 y1 y2 V = some V' → W p l e rm_X4_add s m args below meth c H locs 0 0 (MQ below (QcV A (Pic D ad cI cZ cP w G V' U)) args s 0 0 A) (F0 m 2 ls []) := by
  obtain ⟨hx, hb, hml, hown, htm, hr, hlk, hE⟩ := id X
  induction n with
  | zero =>
    intros
    exact ns_S (by assumption)
  | succ n ih2 =>
    intro H locs ls j0 y1 y2 V hj0  hP hS hl hF
    rw [f_X4_add_2] at hF
    refine lv_iload_n hx hb dX4_add_2 rfl (lv_at hl 2 rfl) ?_
    refine lv_aload_n hx hb dX4_add_3 rfl (lv_at hl 0 rfl) ?_
    refine gf_13_2 hx hb htm hown hE hP hw hj0 (htm _ qw_54) dX4_add_4 ?_
    refine lv_icmp_ge (tgt := 43) hx hb dX4_add_7 (by decide) (fun c1 => ?_) (fun c1 => ?_)
    · have hF := ite_T c1 hF
      refine lv_aload_n hx hb dX4_add_43 rfl (lv_at hl 0 rfl) ?_
      refine gf_13_2 hx hb htm hown hE hP hw hj0 (htm _ qw_54) dX4_add_44 ?_
      refine lv_bipush (v := 24) hx hb dX4_add_47 (by decide) ?_
      refine lv_icmp_ge (tgt := 82) hx hb dX4_add_49 (by decide) (fun c2 => ?_) (fun c2 => ?_)
      · have hF := ite_T c2 hF
        cases hF
        exact m_vret X hS hP dX4_add_82
      · have hF := ite_F c2 hF
        refine lv_aload_n hx hb dX4_add_52 rfl (lv_at hl 0 rfl) ?_
        refine gf_13_0 hx hb htm hown hE hP hw hj0 (htm _ qw_32) dX4_add_53 ?_
        refine lv_aload_n hx hb dX4_add_56 rfl (lv_at hl 0 rfl) ?_
        refine gf_13_2 hx hb htm hown hE hP hw hj0 (htm _ qw_54) dX4_add_57 ?_
        refine lv_iload_n hx hb dX4_add_60 rfl (lv_at hl 1 rfl) ?_
        obtain ⟨hn3, hF⟩ := ite_S hF
        refine as_14 hx hb htm hown hE hP hS hw hj0 hn3 dX4_add_61 (fun H locs hP hS => ?_)
        refine lv_aload_n hx hb dX4_add_62 rfl (lv_at hl 0 rfl) ?_
        refine gf_13_1 hx hb htm hown hE hP hw hj0 (htm _ qw_33) dX4_add_63 ?_
        refine lv_aload_n hx hb dX4_add_66 rfl (lv_at hl 0 rfl) ?_
        refine gf_13_2 hx hb htm hown hE hP hw hj0 (htm _ qw_54) dX4_add_67 ?_
        refine lv_iconst (v := 1) hx hb dX4_add_70 (by decide) ?_
        obtain ⟨hn4, hF⟩ := ite_S hF
        refine as_15 hx hb htm hown hE hP hS hw hj0 hn4 dX4_add_71 (fun H locs hP hS => ?_)
        refine lv_aload_n hx hb dX4_add_72 rfl (lv_at hl 0 rfl) ?_
        refine lv_dup hx hb dX4_add_73 rfl ?_
        refine gf_13_2 hx hb htm hown hE hP hw hj0 (htm _ qw_54) dX4_add_74 ?_
        refine lv_iconst (v := 1) hx hb dX4_add_77 (by decide) ?_
        refine lv_iadd hx hb dX4_add_78 ?_
        refine pf_13_2 hx hb htm hown hE hP hS hw hj0 (htm _ qw_54) dX4_add_79 (fun H locs hP hS => ?_)
        cases hF
        exact m_vret X hS hP dX4_add_82
    · have hF := ite_F c1 hF
      refine lv_iload_n hx hb dX4_add_10 rfl (lv_at hl 2 rfl) ?_
      refine lv_bipush (v := 24) hx hb dX4_add_11 (by decide) ?_
      refine lv_icmp_ge (tgt := 43) hx hb dX4_add_13 (by decide) (fun c5 => ?_) (fun c5 => ?_)
      · have hF := ite_T c5 hF
        refine lv_aload_n hx hb dX4_add_43 rfl (lv_at hl 0 rfl) ?_
        refine gf_13_2 hx hb htm hown hE hP hw hj0 (htm _ qw_54) dX4_add_44 ?_
        refine lv_bipush (v := 24) hx hb dX4_add_47 (by decide) ?_
        refine lv_icmp_ge (tgt := 82) hx hb dX4_add_49 (by decide) (fun c6 => ?_) (fun c6 => ?_)
        · have hF := ite_T c6 hF
          cases hF
          exact m_vret X hS hP dX4_add_82
        · have hF := ite_F c6 hF
          refine lv_aload_n hx hb dX4_add_52 rfl (lv_at hl 0 rfl) ?_
          refine gf_13_0 hx hb htm hown hE hP hw hj0 (htm _ qw_32) dX4_add_53 ?_
          refine lv_aload_n hx hb dX4_add_56 rfl (lv_at hl 0 rfl) ?_
          refine gf_13_2 hx hb htm hown hE hP hw hj0 (htm _ qw_54) dX4_add_57 ?_
          refine lv_iload_n hx hb dX4_add_60 rfl (lv_at hl 1 rfl) ?_
          obtain ⟨hn7, hF⟩ := ite_S hF
          refine as_14 hx hb htm hown hE hP hS hw hj0 hn7 dX4_add_61 (fun H locs hP hS => ?_)
          refine lv_aload_n hx hb dX4_add_62 rfl (lv_at hl 0 rfl) ?_
          refine gf_13_1 hx hb htm hown hE hP hw hj0 (htm _ qw_33) dX4_add_63 ?_
          refine lv_aload_n hx hb dX4_add_66 rfl (lv_at hl 0 rfl) ?_
          refine gf_13_2 hx hb htm hown hE hP hw hj0 (htm _ qw_54) dX4_add_67 ?_
          refine lv_iconst (v := 1) hx hb dX4_add_70 (by decide) ?_
          obtain ⟨hn8, hF⟩ := ite_S hF
          refine as_15 hx hb htm hown hE hP hS hw hj0 hn8 dX4_add_71 (fun H locs hP hS => ?_)
          refine lv_aload_n hx hb dX4_add_72 rfl (lv_at hl 0 rfl) ?_
          refine lv_dup hx hb dX4_add_73 rfl ?_
          refine gf_13_2 hx hb htm hown hE hP hw hj0 (htm _ qw_54) dX4_add_74 ?_
          refine lv_iconst (v := 1) hx hb dX4_add_77 (by decide) ?_
          refine lv_iadd hx hb dX4_add_78 ?_
          refine pf_13_2 hx hb htm hown hE hP hS hw hj0 (htm _ qw_54) dX4_add_79 (fun H locs hP hS => ?_)
          cases hF
          exact m_vret X hS hP dX4_add_82
      · have hF := ite_F c5 hF
        refine lv_aload_n hx hb dX4_add_16 rfl (lv_at hl 0 rfl) ?_
        refine gf_13_0 hx hb htm hown hE hP hw hj0 (htm _ qw_32) dX4_add_17 ?_
        refine lv_iload_n hx hb dX4_add_20 rfl (lv_at hl 2 rfl) ?_
        obtain ⟨hn9, hF⟩ := ite_S hF
        refine al_14 hx hb htm hown hE hP hw hj0 hn9 dX4_add_21 ?_
        refine lv_iload_n hx hb dX4_add_22 rfl (lv_at hl 1 rfl) ?_
        refine lv_icmp_ne (tgt := 37) hx hb dX4_add_23 (by decide) (fun c10 => ?_) (fun c10 => ?_)
        · have hF := ite_F c10 hF
          refine lv_iinc (v := y2 + 1) (lv' := [(2, .int (y2 + 1)), (0, .ref (ad w 13 j0)), (1, .int y1)]) hx hb dX4_add_37 hl (k := 2) rfl rfl (by decide) rfl (fun ls hl => ?_)
          refine lv_goto (tgt := 2) hx hb dX4_add_40 (by decide) ?_
          exact ih2 _ _ _ _ hj0 hP hS (lv_sub hl [1, 2, 0] rfl) hF
        · have hF := ite_T c10 hF
          refine lv_aload_n hx hb dX4_add_26 rfl (lv_at hl 0 rfl) ?_
          refine gf_13_1 hx hb htm hown hE hP hw hj0 (htm _ qw_33) dX4_add_27 ?_
          refine lv_iload_n hx hb dX4_add_30 rfl (lv_at hl 2 rfl) ?_
          refine lv_dup2_11 hx hb dX4_add_31 rfl rfl ?_
          obtain ⟨hn11, hF⟩ := ite_S hF
          refine al_15 hx hb htm hown hE hP hw hj0 hn11 dX4_add_32 ?_
          refine lv_iconst (v := 1) hx hb dX4_add_33 (by decide) ?_
          refine lv_iadd hx hb dX4_add_34 ?_
          obtain ⟨hn12, hF⟩ := ite_S hF
          refine as_15 hx hb htm hown hE hP hS hw hj0 hn12 dX4_add_35 (fun H locs hP hS => ?_)
          cases hF
          exact m_vret X hS hP dX4_add_36
set_option maxRecDepth 20000 in
set_option maxHeartbeats 4000000 in
theorem c_X4_add {l : Launch} {D : va_G} {ad : Nat → Nat → Nat → Nat} {cI cZ cP : ClassId} {A : Nat → Prop} {w : Nat} (hw : w < 2) {G V U : MT} {i0 : Nat} {x1 : Int32} {V' : MT}  (hi0 : i0 < 24) (hF : f_X4_add V i0 x1 = some V') : Met l yX4_add (.code yX4_add cX4_add 3 none :: WM) rm_X4_add (PcM D ad cI cZ cP A [.ref (ad w 13 i0), .int x1] (Pic D ad cI cZ cP w G V U)) (QcV A (Pic D ad cI cZ cP w G V' U)) 0 0 A := by
  refine m_entry (by decide) (Nat.le_of_ble_eq_true rfl) (fun p e s m below meth c ls X hP hS hl => ?_)
  have X : MX p s m _ meth c cX4_add RX4 3 none D ad cI cZ cP A := X
  obtain ⟨hx, hb, hml, hown, htm, hr, hlk, hE⟩ := id X
  have hl : lv_has ls 3 [(0, .ref (ad w 13 i0)), (1, .int x1)] := hl
  refine lv_iconst (v := 0) hx hb dX4_add_0 (by decide) ?_
  refine lv_istore_n (lv' := [(2, .int 0), (0, .ref (ad w 13 i0)), (1, .int x1)]) hx hb dX4_add_1 rfl hl (by decide) rfl (fun ls hl => ?_)
  exact l_X4_add_2 X hw  30 _ _ _ _ hi0 hP hS (lv_sub hl [1, 2, 0] rfl) hF
def f_X4_copyFrom (V U : MT) (i0 : Nat) (i1 : Nat) : Option (MT) :=
  some (pt (ct (ct V 14 i0 (U 14 i1) 24) 15 i0 (U 15 i1) 24) 13 i0 2 (U 13 i1 2))
def rm_X4_copyFrom : Room := { frames := 1, cells := 0, slots := 0, locals := 40 }
set_option maxRecDepth 20000 in
set_option maxHeartbeats 4000000 in
theorem c_X4_copyFrom {l : Launch} {D : va_G} {ad : Nat → Nat → Nat → Nat} {cI cZ cP : ClassId} {A : Nat → Prop} {w w' : Nat} (hw : w < 2) (hw' : w' < 2) (hww : w + w' = 1) {G V U : MT} {i0 : Nat} {i1 : Nat} {V' : MT}  (hi0 : i0 < 24) (hi1 : i1 < 24) (hF : f_X4_copyFrom V U i0 i1 = some V') : Met l yX4_copyFrom (.code yX4_copyFrom cX4_copyFrom 2 none :: WM) rm_X4_copyFrom (PcM D ad cI cZ cP A [.ref (ad w 13 i0), .ref (ad w' 13 i1)] (Pic D ad cI cZ cP w G V U)) (QcV A (Pic D ad cI cZ cP w G V' U)) 0 0 A := by
  refine m_entry (by decide) (Nat.le_of_ble_eq_true rfl) (fun p e s m below meth c ls X hP hS hl => ?_)
  have X : MX p s m _ meth c cX4_copyFrom RX4 2 none D ad cI cZ cP A := X
  obtain ⟨hx, hb, hml, hown, htm, hr, hlk, hE⟩ := id X
  have hl : lv_has ls 2 [(0, .ref (ad w 13 i0)), (1, .ref (ad w' 13 i1))] := hl
  refine lv_aload_n hx hb dX4_copyFrom_0 rfl (lv_at hl 1 rfl) ?_
  refine gf_13_0 hx hb htm hown hE (hP.swap hww) hw' hi1 (htm _ qw_32) dX4_copyFrom_1 ?_
  refine lv_iconst (v := 0) hx hb dX4_copyFrom_4 (by decide) ?_
  refine lv_aload_n hx hb dX4_copyFrom_5 rfl (lv_at hl 0 rfl) ?_
  refine gf_13_0 hx hb htm hown hE hP hw hi0 (htm _ qw_32) dX4_copyFrom_6 ?_
  refine lv_iconst (v := 0) hx hb dX4_copyFrom_9 (by decide) ?_
  refine lv_bipush (v := 24) hx hb dX4_copyFrom_10 (by decide) ?_
  refine cp_14 hx hb (hml.trans hl.1.symm) hown htm hE hP hS hw hw' hww hi0 hi1 (htm _ qw_53) (Nat.le_of_ble_eq_true rfl) (Nat.le_of_ble_eq_true rfl) dX4_copyFrom_12 (fun H locs hP hS => ?_)
  refine lv_aload_n hx hb dX4_copyFrom_15 rfl (lv_at hl 1 rfl) ?_
  refine gf_13_1 hx hb htm hown hE (hP.swap hww) hw' hi1 (htm _ qw_33) dX4_copyFrom_16 ?_
  refine lv_iconst (v := 0) hx hb dX4_copyFrom_19 (by decide) ?_
  refine lv_aload_n hx hb dX4_copyFrom_20 rfl (lv_at hl 0 rfl) ?_
  refine gf_13_1 hx hb htm hown hE hP hw hi0 (htm _ qw_33) dX4_copyFrom_21 ?_
  refine lv_iconst (v := 0) hx hb dX4_copyFrom_24 (by decide) ?_
  refine lv_bipush (v := 24) hx hb dX4_copyFrom_25 (by decide) ?_
  refine cp_15 hx hb (hml.trans hl.1.symm) hown htm hE hP hS hw hw' hww hi0 hi1 (htm _ qw_53) (Nat.le_of_ble_eq_true rfl) (Nat.le_of_ble_eq_true rfl) dX4_copyFrom_27 (fun H locs hP hS => ?_)
  refine lv_aload_n hx hb dX4_copyFrom_30 rfl (lv_at hl 0 rfl) ?_
  refine lv_aload_n hx hb dX4_copyFrom_31 rfl (lv_at hl 1 rfl) ?_
  refine gf_13_2 hx hb htm hown hE (hP.swap hww) hw' hi1 (htm _ qw_54) dX4_copyFrom_32 ?_
  refine pf_13_2 hx hb htm hown hE hP hS hw hi0 (htm _ qw_54) dX4_copyFrom_35 (fun H locs hP hS => ?_)
  cases hF
  exact m_vret X hS hP dX4_copyFrom_38
def f_X0_put (V : MT) (i0 : Nat) (x1 : Int32) (x2 : Int32) : Option (Int32 × MT) :=
  if V 10 i0 2 < 8 then (if ¬ (V 10 i0 2 < 0 ∨ 8 ≤ Int32.toNatClampNeg (V 10 i0 2)) then (if ¬ ((pt V 11 i0 (Int32.toNatClampNeg (V 10 i0 2)) x1) 10 i0 2 < 0 ∨ 8 ≤ Int32.toNatClampNeg ((pt V 11 i0 (Int32.toNatClampNeg (V 10 i0 2)) x1) 10 i0 2)) then (some (1, (pt (pt (pt V 11 i0 (Int32.toNatClampNeg (V 10 i0 2)) x1) 12 i0 (Int32.toNatClampNeg ((pt V 11 i0 (Int32.toNatClampNeg (V 10 i0 2)) x1) 10 i0 2)) x2) 10 i0 2 (((pt (pt V 11 i0 (Int32.toNatClampNeg (V 10 i0 2)) x1) 12 i0 (Int32.toNatClampNeg ((pt V 11 i0 (Int32.toNatClampNeg (V 10 i0 2)) x1) 10 i0 2)) x2) 10 i0 2) + 1)))) else none) else none) else (some (0, V))
def rm_X0_put : Room := { frames := 0, cells := 0, slots := 0, locals := 0 }
set_option maxRecDepth 20000 in
set_option maxHeartbeats 4000000 in
theorem c_X0_put {l : Launch} {D : va_G} {ad : Nat → Nat → Nat → Nat} {cI cZ cP : ClassId} {A : Nat → Prop} {w : Nat} (hw : w < 2) {G V U : MT} {i0 : Nat} {x1 : Int32} {x2 : Int32} {r : Int32} {V' : MT}  (hi0 : i0 < 24) (hF : f_X0_put V i0 x1 x2 = some (r, V')) : Met l yX0_put (.code yX0_put cX0_put 3 (some .boolean) :: WM) rm_X0_put (PcM D ad cI cZ cP A [.ref (ad w 10 i0), .int x1, .int x2] (Pic D ad cI cZ cP w G V U)) (QcI A r (Pic D ad cI cZ cP w G V' U)) 0 0 A := by
  refine m_entry (by decide) (Nat.le_of_ble_eq_true rfl) (fun p e s m below meth c ls X hP hS hl => ?_)
  have X : MX p s m _ meth c cX0_put RX0 3 (some .boolean) D ad cI cZ cP A := X
  obtain ⟨hx, hb, hml, hown, htm, hr, hlk, hE⟩ := id X
  have hl : lv_has ls 3 [(0, .ref (ad w 10 i0)), (1, .int x1), (2, .int x2)] := hl
  refine lv_aload_n hx hb dX0_put_0 rfl (lv_at hl 0 rfl) ?_
  refine gf_10_2 hx hb htm hown hE hP hw hi0 (htm _ qw_2) dX0_put_1 ?_
  refine lv_bipush (v := 8) hx hb dX0_put_4 (by decide) ?_
  refine lv_icmp_lt (tgt := 11) hx hb dX0_put_6 (by decide) (fun c1 => ?_) (fun c1 => ?_)
  · have hF := ite_T c1 hF
    refine lv_aload_n hx hb dX0_put_11 rfl (lv_at hl 0 rfl) ?_
    refine gf_10_0 hx hb htm hown hE hP hw hi0 (htm _ qw_0) dX0_put_12 ?_
    refine lv_aload_n hx hb dX0_put_15 rfl (lv_at hl 0 rfl) ?_
    refine gf_10_2 hx hb htm hown hE hP hw hi0 (htm _ qw_2) dX0_put_16 ?_
    refine lv_iload_n hx hb dX0_put_19 rfl (lv_at hl 1 rfl) ?_
    obtain ⟨hn2, hF⟩ := ite_S hF
    refine as_11 hx hb htm hown hE hP hS hw hi0 hn2 dX0_put_20 (fun H locs hP hS => ?_)
    refine lv_aload_n hx hb dX0_put_21 rfl (lv_at hl 0 rfl) ?_
    refine gf_10_1 hx hb htm hown hE hP hw hi0 (htm _ qw_1) dX0_put_22 ?_
    refine lv_aload_n hx hb dX0_put_25 rfl (lv_at hl 0 rfl) ?_
    refine gf_10_2 hx hb htm hown hE hP hw hi0 (htm _ qw_2) dX0_put_26 ?_
    refine lv_iload_n hx hb dX0_put_29 rfl (lv_at hl 2 rfl) ?_
    obtain ⟨hn3, hF⟩ := ite_S hF
    refine as_12 hx hb htm hown hE hP hS hw hi0 hn3 dX0_put_30 (fun H locs hP hS => ?_)
    refine lv_aload_n hx hb dX0_put_31 rfl (lv_at hl 0 rfl) ?_
    refine lv_dup hx hb dX0_put_32 rfl ?_
    refine gf_10_2 hx hb htm hown hE hP hw hi0 (htm _ qw_2) dX0_put_33 ?_
    refine lv_iconst (v := 1) hx hb dX0_put_36 (by decide) ?_
    refine lv_iadd hx hb dX0_put_37 ?_
    refine pf_10_2 hx hb htm hown hE hP hS hw hi0 (htm _ qw_2) dX0_put_38 (fun H locs hP hS => ?_)
    refine lv_iconst (v := 1) hx hb dX0_put_41 (by decide) ?_
    cases hF
    exact m_zret X hS hP rfl (Or.inr rfl) dX0_put_42
  · have hF := ite_F c1 hF
    refine lv_iconst (v := 0) hx hb dX0_put_9 (by decide) ?_
    cases hF
    exact m_zret X hS hP rfl (Or.inl rfl) dX0_put_10
def f_X0_firstOf_2 (V : MT) : Nat → Nat → Int32 → Int32 → Option (Int32)
  | 0, _, _, _ => none
  | n + 1, j0, y1, y2 => if V 10 j0 2 ≤ y2 then (some (-1)) else (if 8 ≤ y2 then (some (-1)) else (if y1 = 4 then (some y2) else (if ¬ (y2 < 0 ∨ 8 ≤ Int32.toNatClampNeg y2) then (if V 11 j0 (Int32.toNatClampNeg y2) = y1 then (some y2) else ((f_X0_firstOf_2 V n) j0 y1 (y2 + 1))) else none)))
def f_X0_firstOf (V : MT) (i0 : Nat) (x1 : Int32) : Option (Int32) :=
  f_X0_firstOf_2 V  30 i0 x1 0
def rm_X0_firstOf : Room := { frames := 0, cells := 0, slots := 0, locals := 0 }
set_option maxRecDepth 20000 in
set_option maxHeartbeats 4000000 in
theorem l_X0_firstOf_2 {p : Program} {l : Launch} {e : Env} {s : State} {m : MethodId} {args : Array Value} {below : List Frame} {meth : Method} {c : Code} {D : va_G} {ad : Nat → Nat → Nat → Nat} {cI cZ cP : ClassId} {A : Nat → Prop} {G V U : MT} {r : Int32} (X : MX p s m args meth c cX0_firstOf RX0 3 (some .int) D ad cI cZ cP A) {w : Nat} (hw : w < 2) (n : Nat) : ∀ {H : Heap} {locs : List Loc} {ls : Array Slot} (j0 : Nat) (y1 : Int32) (y2 : Int32), j0 < 24 → Pic D ad cI cZ cP w G V U H → va_S A s.heap H locs → lv_has ls 3 [(0, .ref (ad w 10 j0)), (1, .int y1), (2, .int y2)] → f_X0_firstOf_2 V n j0 y1 y2 = some r → W p l e rm_X0_firstOf s m args below meth c H locs 0 0 (MQ below (QcI A r (Pic D ad cI cZ cP w G V U)) args s 0 0 A) (F0 m 2 ls []) := by
  obtain ⟨hx, hb, hml, hown, htm, hr, hlk, hE⟩ := id X
  induction n with
  | zero =>
    intros
    exact ns_S (by assumption)
  | succ n ih2 =>
    intro H locs ls j0 y1 y2 hj0  hP hS hl hF
    rw [f_X0_firstOf_2] at hF
    refine lv_iload_n hx hb dX0_firstOf_2 rfl (lv_at hl 2 rfl) ?_
    refine lv_aload_n hx hb dX0_firstOf_3 rfl (lv_at hl 0 rfl) ?_
    refine gf_10_2 hx hb htm hown hE hP hw hj0 (htm _ qw_2) dX0_firstOf_4 ?_
    refine lv_icmp_ge (tgt := 39) hx hb dX0_firstOf_7 (by decide) (fun c1 => ?_) (fun c1 => ?_)
    · have hF := ite_T c1 hF
      refine lv_iconst (v := (-1)) hx hb dX0_firstOf_39 (by decide) ?_
      cases hF
      exact m_iret X hS hP rfl dX0_firstOf_40
    · have hF := ite_F c1 hF
      refine lv_iload_n hx hb dX0_firstOf_10 rfl (lv_at hl 2 rfl) ?_
      refine lv_bipush (v := 8) hx hb dX0_firstOf_11 (by decide) ?_
      refine lv_icmp_ge (tgt := 39) hx hb dX0_firstOf_13 (by decide) (fun c2 => ?_) (fun c2 => ?_)
      · have hF := ite_T c2 hF
        refine lv_iconst (v := (-1)) hx hb dX0_firstOf_39 (by decide) ?_
        cases hF
        exact m_iret X hS hP rfl dX0_firstOf_40
      · have hF := ite_F c2 hF
        refine lv_iload_n hx hb dX0_firstOf_16 rfl (lv_at hl 1 rfl) ?_
        refine lv_iconst (v := 4) hx hb dX0_firstOf_17 (by decide) ?_
        refine lv_icmp_eq (tgt := 31) hx hb dX0_firstOf_18 (by decide) (fun c3 => ?_) (fun c3 => ?_)
        · have hF := ite_T c3 hF
          refine lv_iload_n hx hb dX0_firstOf_31 rfl (lv_at hl 2 rfl) ?_
          cases hF
          exact m_iret X hS hP rfl dX0_firstOf_32
        · have hF := ite_F c3 hF
          refine lv_aload_n hx hb dX0_firstOf_21 rfl (lv_at hl 0 rfl) ?_
          refine gf_10_0 hx hb htm hown hE hP hw hj0 (htm _ qw_0) dX0_firstOf_22 ?_
          refine lv_iload_n hx hb dX0_firstOf_25 rfl (lv_at hl 2 rfl) ?_
          obtain ⟨hn4, hF⟩ := ite_S hF
          refine al_11 hx hb htm hown hE hP hw hj0 hn4 dX0_firstOf_26 ?_
          refine lv_iload_n hx hb dX0_firstOf_27 rfl (lv_at hl 1 rfl) ?_
          refine lv_icmp_ne (tgt := 33) hx hb dX0_firstOf_28 (by decide) (fun c5 => ?_) (fun c5 => ?_)
          · have hF := ite_F c5 hF
            refine lv_iinc (v := y2 + 1) (lv' := [(2, .int (y2 + 1)), (0, .ref (ad w 10 j0)), (1, .int y1)]) hx hb dX0_firstOf_33 hl (k := 2) rfl rfl (by decide) rfl (fun ls hl => ?_)
            refine lv_goto (tgt := 2) hx hb dX0_firstOf_36 (by decide) ?_
            exact ih2 _ _ _ hj0 hP hS (lv_sub hl [1, 2, 0] rfl) hF
          · have hF := ite_T c5 hF
            refine lv_iload_n hx hb dX0_firstOf_31 rfl (lv_at hl 2 rfl) ?_
            cases hF
            exact m_iret X hS hP rfl dX0_firstOf_32
set_option maxRecDepth 20000 in
set_option maxHeartbeats 4000000 in
theorem c_X0_firstOf {l : Launch} {D : va_G} {ad : Nat → Nat → Nat → Nat} {cI cZ cP : ClassId} {A : Nat → Prop} {w : Nat} (hw : w < 2) {G V U : MT} {i0 : Nat} {x1 : Int32} {r : Int32}  (hi0 : i0 < 24) (hF : f_X0_firstOf V i0 x1 = some r) : Met l yX0_firstOf (.code yX0_firstOf cX0_firstOf 3 (some .int) :: WM) rm_X0_firstOf (PcM D ad cI cZ cP A [.ref (ad w 10 i0), .int x1] (Pic D ad cI cZ cP w G V U)) (QcI A r (Pic D ad cI cZ cP w G V U)) 0 0 A := by
  refine m_entry (by decide) (Nat.le_of_ble_eq_true rfl) (fun p e s m below meth c ls X hP hS hl => ?_)
  have X : MX p s m _ meth c cX0_firstOf RX0 3 (some .int) D ad cI cZ cP A := X
  obtain ⟨hx, hb, hml, hown, htm, hr, hlk, hE⟩ := id X
  have hl : lv_has ls 3 [(0, .ref (ad w 10 i0)), (1, .int x1)] := hl
  refine lv_iconst (v := 0) hx hb dX0_firstOf_0 (by decide) ?_
  refine lv_istore_n (lv' := [(2, .int 0), (0, .ref (ad w 10 i0)), (1, .int x1)]) hx hb dX0_firstOf_1 rfl hl (by decide) rfl (fun ls hl => ?_)
  exact l_X0_firstOf_2 X hw  30 _ _ _ hi0 hP hS (lv_sub hl [1, 2, 0] rfl) hF
def f_X0_takeOut_33 : Nat → Nat → Int32 → Int32 → MT → Option (Int32 × MT)
  | 0, _, _, _, _ => none
  | n + 1, j0, y2, y3, V => if V 10 j0 2 ≤ y3 then (some (y2, (pt V 10 j0 2 ((V 10 j0 2) - 1)))) else (if 8 ≤ y3 then (some (y2, (pt V 10 j0 2 ((V 10 j0 2) - 1)))) else (if ¬ (y3 < 0 ∨ 8 ≤ Int32.toNatClampNeg y3) then (if ¬ (y3 - 1 < 0 ∨ 8 ≤ Int32.toNatClampNeg (y3 - 1)) then (if ¬ (y3 < 0 ∨ 8 ≤ Int32.toNatClampNeg y3) then (if ¬ (y3 - 1 < 0 ∨ 8 ≤ Int32.toNatClampNeg (y3 - 1)) then ((f_X0_takeOut_33 n) j0 y2 (y3 + 1) (pt (pt V 11 j0 (Int32.toNatClampNeg (y3 - 1)) (V 11 j0 (Int32.toNatClampNeg y3))) 12 j0 (Int32.toNatClampNeg (y3 - 1)) ((pt V 11 j0 (Int32.toNatClampNeg (y3 - 1)) (V 11 j0 (Int32.toNatClampNeg y3))) 12 j0 (Int32.toNatClampNeg y3)))) else none) else none) else none) else none))
def f_X0_takeOut (V : MT) (i0 : Nat) (x1 : Int32) : Option (Int32 × MT) :=
  (f_X6_isWithin x1 0 ((V 10 i0 2) - 1)).bind (fun q1_ => if q1_ = 0 then (some ((-1), V)) else (if x1 < 8 then (if ¬ (x1 < 0 ∨ 8 ≤ Int32.toNatClampNeg x1) then (f_X0_takeOut_33   30 i0 (V 12 i0 (Int32.toNatClampNeg x1)) (x1 + 1) V) else none) else (some ((-1), V))))
def rm_X0_takeOut : Room := { frames := 1, cells := 0, slots := 0, locals := 22 }
set_option maxRecDepth 20000 in
set_option maxHeartbeats 4000000 in
theorem l_X0_takeOut_33 {p : Program} {l : Launch} {e : Env} {s : State} {m : MethodId} {args : Array Value} {below : List Frame} {meth : Method} {c : Code} {D : va_G} {ad : Nat → Nat → Nat → Nat} {cI cZ cP : ClassId} {A : Nat → Prop} {G U : MT} {r : Int32} {V' : MT} (X : MX p s m args meth c cX0_takeOut RX0 4 (some .int) D ad cI cZ cP A) {w : Nat} (hw : w < 2) (n : Nat) : ∀ {H : Heap} {locs : List Loc} {ls : Array Slot} (j0 : Nat) (y2 : Int32) (y3 : Int32) (V : MT), j0 < 24 → Pic D ad cI cZ cP w G V U H → va_S A s.heap H locs → lv_has ls 4 [(0, .ref (ad w 10 j0)), (2, .int y2), (3, .int y3)] → f_X0_takeOut_33 n j0 y2 y3 V = some (r, V') → W p l e rm_X0_takeOut s m args below meth c H locs 0 0 (MQ below (QcI A r (Pic D ad cI cZ cP w G V' U)) args s 0 0 A) (F0 m 33 ls []) := by
  obtain ⟨hx, hb, hml, hown, htm, hr, hlk, hE⟩ := id X
  induction n with
  | zero =>
    intros
    exact ns_S (by assumption)
  | succ n ih33 =>
    intro H locs ls j0 y2 y3 V hj0  hP hS hl hF
    rw [f_X0_takeOut_33] at hF
    refine lv_iload_n hx hb dX0_takeOut_33 rfl (lv_at hl 2 rfl) ?_
    refine lv_aload_n hx hb dX0_takeOut_34 rfl (lv_at hl 0 rfl) ?_
    refine gf_10_2 hx hb htm hown hE hP hw hj0 (htm _ qw_2) dX0_takeOut_35 ?_
    refine lv_icmp_ge (tgt := 81) hx hb dX0_takeOut_38 (by decide) (fun c5 => ?_) (fun c5 => ?_)
    · have hF := ite_T c5 hF
      refine lv_aload_n hx hb dX0_takeOut_81 rfl (lv_at hl 0 rfl) ?_
      refine lv_dup hx hb dX0_takeOut_82 rfl ?_
      refine gf_10_2 hx hb htm hown hE hP hw hj0 (htm _ qw_2) dX0_takeOut_83 ?_
      refine lv_iconst (v := 1) hx hb dX0_takeOut_86 (by decide) ?_
      refine lv_isub hx hb dX0_takeOut_87 ?_
      refine pf_10_2 hx hb htm hown hE hP hS hw hj0 (htm _ qw_2) dX0_takeOut_88 (fun H locs hP hS => ?_)
      refine lv_iload_n hx hb dX0_takeOut_91 rfl (lv_at hl 1 rfl) ?_
      cases hF
      exact m_iret X hS hP rfl dX0_takeOut_92
    · have hF := ite_F c5 hF
      refine lv_iload_n hx hb dX0_takeOut_41 rfl (lv_at hl 2 rfl) ?_
      refine lv_bipush (v := 8) hx hb dX0_takeOut_42 (by decide) ?_
      refine lv_icmp_ge (tgt := 81) hx hb dX0_takeOut_44 (by decide) (fun c6 => ?_) (fun c6 => ?_)
      · have hF := ite_T c6 hF
        refine lv_aload_n hx hb dX0_takeOut_81 rfl (lv_at hl 0 rfl) ?_
        refine lv_dup hx hb dX0_takeOut_82 rfl ?_
        refine gf_10_2 hx hb htm hown hE hP hw hj0 (htm _ qw_2) dX0_takeOut_83 ?_
        refine lv_iconst (v := 1) hx hb dX0_takeOut_86 (by decide) ?_
        refine lv_isub hx hb dX0_takeOut_87 ?_
        refine pf_10_2 hx hb htm hown hE hP hS hw hj0 (htm _ qw_2) dX0_takeOut_88 (fun H locs hP hS => ?_)
        refine lv_iload_n hx hb dX0_takeOut_91 rfl (lv_at hl 1 rfl) ?_
        cases hF
        exact m_iret X hS hP rfl dX0_takeOut_92
      · have hF := ite_F c6 hF
        refine lv_aload_n hx hb dX0_takeOut_47 rfl (lv_at hl 0 rfl) ?_
        refine gf_10_0 hx hb htm hown hE hP hw hj0 (htm _ qw_0) dX0_takeOut_48 ?_
        refine lv_iload_n hx hb dX0_takeOut_51 rfl (lv_at hl 2 rfl) ?_
        refine lv_iconst (v := 1) hx hb dX0_takeOut_52 (by decide) ?_
        refine lv_isub hx hb dX0_takeOut_53 ?_
        refine lv_aload_n hx hb dX0_takeOut_54 rfl (lv_at hl 0 rfl) ?_
        refine gf_10_0 hx hb htm hown hE hP hw hj0 (htm _ qw_0) dX0_takeOut_55 ?_
        refine lv_iload_n hx hb dX0_takeOut_58 rfl (lv_at hl 2 rfl) ?_
        obtain ⟨hn7, hF⟩ := ite_S hF
        refine al_11 hx hb htm hown hE hP hw hj0 hn7 dX0_takeOut_59 ?_
        obtain ⟨hn8, hF⟩ := ite_S hF
        refine as_11 hx hb htm hown hE hP hS hw hj0 hn8 dX0_takeOut_60 (fun H locs hP hS => ?_)
        refine lv_aload_n hx hb dX0_takeOut_61 rfl (lv_at hl 0 rfl) ?_
        refine gf_10_1 hx hb htm hown hE hP hw hj0 (htm _ qw_1) dX0_takeOut_62 ?_
        refine lv_iload_n hx hb dX0_takeOut_65 rfl (lv_at hl 2 rfl) ?_
        refine lv_iconst (v := 1) hx hb dX0_takeOut_66 (by decide) ?_
        refine lv_isub hx hb dX0_takeOut_67 ?_
        refine lv_aload_n hx hb dX0_takeOut_68 rfl (lv_at hl 0 rfl) ?_
        refine gf_10_1 hx hb htm hown hE hP hw hj0 (htm _ qw_1) dX0_takeOut_69 ?_
        refine lv_iload_n hx hb dX0_takeOut_72 rfl (lv_at hl 2 rfl) ?_
        obtain ⟨hn9, hF⟩ := ite_S hF
        refine al_12 hx hb htm hown hE hP hw hj0 hn9 dX0_takeOut_73 ?_
        obtain ⟨hn10, hF⟩ := ite_S hF
        refine as_12 hx hb htm hown hE hP hS hw hj0 hn10 dX0_takeOut_74 (fun H locs hP hS => ?_)
        refine lv_iinc (v := y3 + 1) (lv' := [(3, .int (y3 + 1)), (0, .ref (ad w 10 j0)), (2, .int y2)]) hx hb dX0_takeOut_75 hl (k := 2) rfl rfl (by decide) rfl (fun ls hl => ?_)
        refine lv_goto (tgt := 33) hx hb dX0_takeOut_78 (by decide) ?_
        exact ih33 _ _ _ _ hj0 hP hS (lv_sub hl [1, 2, 0] rfl) hF
set_option maxRecDepth 20000 in
set_option maxHeartbeats 4000000 in
theorem c_X0_takeOut {l : Launch} {D : va_G} {ad : Nat → Nat → Nat → Nat} {cI cZ cP : ClassId} {A : Nat → Prop} {w : Nat} (hw : w < 2) {G V U : MT} {i0 : Nat} {x1 : Int32} {r : Int32} {V' : MT}  (hi0 : i0 < 24) (hF : f_X0_takeOut V i0 x1 = some (r, V')) : Met l yX0_takeOut (.code yX0_takeOut cX0_takeOut 4 (some .int) :: WM) rm_X0_takeOut (PcM D ad cI cZ cP A [.ref (ad w 10 i0), .int x1] (Pic D ad cI cZ cP w G V U)) (QcI A r (Pic D ad cI cZ cP w G V' U)) 0 0 A := by
  refine m_entry (by decide) (Nat.le_of_ble_eq_true rfl) (fun p e s m below meth c ls X hP hS hl => ?_)
  have X : MX p s m _ meth c cX0_takeOut RX0 4 (some .int) D ad cI cZ cP A := X
  obtain ⟨hx, hb, hml, hown, htm, hr, hlk, hE⟩ := id X
  have hl : lv_has ls 4 [(0, .ref (ad w 10 i0)), (1, .int x1)] := hl
  refine lv_iload_n hx hb dX0_takeOut_0 rfl (lv_at hl 1 rfl) ?_
  refine lv_iconst (v := 0) hx hb dX0_takeOut_1 (by decide) ?_
  refine lv_aload_n hx hb dX0_takeOut_2 rfl (lv_at hl 0 rfl) ?_
  refine gf_10_2 hx hb htm hown hE hP hw hi0 (htm _ qw_2) dX0_takeOut_3 ?_
  refine lv_iconst (v := 1) hx hb dX0_takeOut_6 (by decide) ?_
  refine lv_isub hx hb dX0_takeOut_7 ?_
  obtain ⟨r1, hc1, hF⟩ := ob_S hF
  refine m_cNi X hS sw_X6_isWithin nst_0 (c_X6_isWithin hc1) ⟨rfl, rfl⟩ ⟨Nat.le_of_ble_eq_true rfl, Nat.le_of_ble_eq_true rfl⟩ hP rfl hl.1 (rest := []) rfl (Nat.le_of_ble_eq_true rfl) dX0_takeOut_8 (fun H locs hP hS => ?_)
  refine lv_if_eq (tgt := 20) hx hb dX0_takeOut_11 (by decide) (fun c2 => ?_) (fun c2 => ?_)
  · have hF := ite_T c2 hF
    refine lv_iconst (v := (-1)) hx hb dX0_takeOut_20 (by decide) ?_
    cases hF
    exact m_iret X hS hP rfl dX0_takeOut_21
  · have hF := ite_F c2 hF
    refine lv_iload_n hx hb dX0_takeOut_14 rfl (lv_at hl 1 rfl) ?_
    refine lv_bipush (v := 8) hx hb dX0_takeOut_15 (by decide) ?_
    refine lv_icmp_lt (tgt := 22) hx hb dX0_takeOut_17 (by decide) (fun c3 => ?_) (fun c3 => ?_)
    · have hF := ite_T c3 hF
      refine lv_aload_n hx hb dX0_takeOut_22 rfl (lv_at hl 0 rfl) ?_
      refine gf_10_1 hx hb htm hown hE hP hw hi0 (htm _ qw_1) dX0_takeOut_23 ?_
      refine lv_iload_n hx hb dX0_takeOut_26 rfl (lv_at hl 1 rfl) ?_
      obtain ⟨hn4, hF⟩ := ite_S hF
      refine al_12 hx hb htm hown hE hP hw hi0 hn4 dX0_takeOut_27 ?_
      refine lv_istore_n (lv' := [(2, .int (V 12 i0 (Int32.toNatClampNeg x1))), (0, .ref (ad w 10 i0)), (1, .int x1)]) hx hb dX0_takeOut_28 rfl hl (by decide) rfl (fun ls hl => ?_)
      refine lv_iload_n hx hb dX0_takeOut_29 rfl (lv_at hl 2 rfl) ?_
      refine lv_iconst (v := 1) hx hb dX0_takeOut_30 (by decide) ?_
      refine lv_iadd hx hb dX0_takeOut_31 ?_
      refine lv_istore_n (lv' := [(3, .int (x1 + 1)), (2, .int (V 12 i0 (Int32.toNatClampNeg x1))), (0, .ref (ad w 10 i0)), (1, .int x1)]) hx hb dX0_takeOut_32 rfl hl (by decide) rfl (fun ls hl => ?_)
      exact l_X0_takeOut_33 X hw  30 _ _ _ _ hi0 hP hS (lv_sub hl [2, 1, 0] rfl) hF
    · have hF := ite_F c3 hF
      refine lv_iconst (v := (-1)) hx hb dX0_takeOut_20 (by decide) ?_
      cases hF
      exact m_iret X hS hP rfl dX0_takeOut_21
def f_X0_copyFrom (V U : MT) (i0 : Nat) (i1 : Nat) : Option (MT) :=
  some (pt (ct (ct V 11 i0 (U 11 i1) 8) 12 i0 (U 12 i1) 8) 10 i0 2 (U 10 i1 2))
def rm_X0_copyFrom : Room := { frames := 1, cells := 0, slots := 0, locals := 40 }
set_option maxRecDepth 20000 in
set_option maxHeartbeats 4000000 in
theorem c_X0_copyFrom {l : Launch} {D : va_G} {ad : Nat → Nat → Nat → Nat} {cI cZ cP : ClassId} {A : Nat → Prop} {w w' : Nat} (hw : w < 2) (hw' : w' < 2) (hww : w + w' = 1) {G V U : MT} {i0 : Nat} {i1 : Nat} {V' : MT}  (hi0 : i0 < 24) (hi1 : i1 < 24) (hF : f_X0_copyFrom V U i0 i1 = some V') : Met l yX0_copyFrom (.code yX0_copyFrom cX0_copyFrom 2 none :: WM) rm_X0_copyFrom (PcM D ad cI cZ cP A [.ref (ad w 10 i0), .ref (ad w' 10 i1)] (Pic D ad cI cZ cP w G V U)) (QcV A (Pic D ad cI cZ cP w G V' U)) 0 0 A := by
  refine m_entry (by decide) (Nat.le_of_ble_eq_true rfl) (fun p e s m below meth c ls X hP hS hl => ?_)
  have X : MX p s m _ meth c cX0_copyFrom RX0 2 none D ad cI cZ cP A := X
  obtain ⟨hx, hb, hml, hown, htm, hr, hlk, hE⟩ := id X
  have hl : lv_has ls 2 [(0, .ref (ad w 10 i0)), (1, .ref (ad w' 10 i1))] := hl
  refine lv_aload_n hx hb dX0_copyFrom_0 rfl (lv_at hl 1 rfl) ?_
  refine gf_10_0 hx hb htm hown hE (hP.swap hww) hw' hi1 (htm _ qw_0) dX0_copyFrom_1 ?_
  refine lv_iconst (v := 0) hx hb dX0_copyFrom_4 (by decide) ?_
  refine lv_aload_n hx hb dX0_copyFrom_5 rfl (lv_at hl 0 rfl) ?_
  refine gf_10_0 hx hb htm hown hE hP hw hi0 (htm _ qw_0) dX0_copyFrom_6 ?_
  refine lv_iconst (v := 0) hx hb dX0_copyFrom_9 (by decide) ?_
  refine lv_bipush (v := 8) hx hb dX0_copyFrom_10 (by decide) ?_
  refine cp_11 hx hb (hml.trans hl.1.symm) hown htm hE hP hS hw hw' hww hi0 hi1 (htm _ qw_9) (Nat.le_of_ble_eq_true rfl) (Nat.le_of_ble_eq_true rfl) dX0_copyFrom_12 (fun H locs hP hS => ?_)
  refine lv_aload_n hx hb dX0_copyFrom_15 rfl (lv_at hl 1 rfl) ?_
  refine gf_10_1 hx hb htm hown hE (hP.swap hww) hw' hi1 (htm _ qw_1) dX0_copyFrom_16 ?_
  refine lv_iconst (v := 0) hx hb dX0_copyFrom_19 (by decide) ?_
  refine lv_aload_n hx hb dX0_copyFrom_20 rfl (lv_at hl 0 rfl) ?_
  refine gf_10_1 hx hb htm hown hE hP hw hi0 (htm _ qw_1) dX0_copyFrom_21 ?_
  refine lv_iconst (v := 0) hx hb dX0_copyFrom_24 (by decide) ?_
  refine lv_bipush (v := 8) hx hb dX0_copyFrom_25 (by decide) ?_
  refine cp_12 hx hb (hml.trans hl.1.symm) hown htm hE hP hS hw hw' hww hi0 hi1 (htm _ qw_9) (Nat.le_of_ble_eq_true rfl) (Nat.le_of_ble_eq_true rfl) dX0_copyFrom_27 (fun H locs hP hS => ?_)
  refine lv_aload_n hx hb dX0_copyFrom_30 rfl (lv_at hl 0 rfl) ?_
  refine lv_aload_n hx hb dX0_copyFrom_31 rfl (lv_at hl 1 rfl) ?_
  refine gf_10_2 hx hb htm hown hE (hP.swap hww) hw' hi1 (htm _ qw_2) dX0_copyFrom_32 ?_
  refine pf_10_2 hx hb htm hown hE hP hS hw hi0 (htm _ qw_2) dX0_copyFrom_35 (fun H locs hP hS => ?_)
  cases hF
  exact m_vret X hS hP dX0_copyFrom_38
def f_X1_hasModule (G : MT) (x1 : Int32) : Option (Int32) :=
  if x1 < 0 then (some 0) else (if G 17 0 0 ≤ x1 then (some 0) else (if 4 ≤ x1 then (some 0) else (some 1)))
def rm_X1_hasModule : Room := { frames := 0, cells := 0, slots := 0, locals := 0 }
set_option maxRecDepth 20000 in
set_option maxHeartbeats 4000000 in
theorem c_X1_hasModule {l : Launch} {D : va_G} {ad : Nat → Nat → Nat → Nat} {cI cZ cP : ClassId} {A : Nat → Prop} {w : Nat} (hw : w < 2) {G V U : MT} {x1 : Int32} {r : Int32}  (hF : f_X1_hasModule G x1 = some r) : Met l yX1_hasModule (.code yX1_hasModule cX1_hasModule 2 (some .boolean) :: WM) rm_X1_hasModule (PcM D ad cI cZ cP A [.ref (ad 2 17 0), .int x1] (Pic D ad cI cZ cP w G V U)) (QcI A r (Pic D ad cI cZ cP w G V U)) 0 0 A := by
  refine m_entry (by decide) (Nat.le_of_ble_eq_true rfl) (fun p e s m below meth c ls X hP hS hl => ?_)
  have X : MX p s m _ meth c cX1_hasModule RX1 2 (some .boolean) D ad cI cZ cP A := X
  obtain ⟨hx, hb, hml, hown, htm, hr, hlk, hE⟩ := id X
  have hl : lv_has ls 2 [(0, .ref (ad 2 17 0)), (1, .int x1)] := hl
  refine lv_iload_n hx hb dX1_hasModule_0 rfl (lv_at hl 1 rfl) ?_
  refine lv_if_lt (tgt := 21) hx hb dX1_hasModule_1 (by decide) (fun c1 => ?_) (fun c1 => ?_)
  · have hF := ite_T c1 hF
    refine lv_iconst (v := 0) hx hb dX1_hasModule_21 (by decide) ?_
    cases hF
    exact m_zret X hS hP rfl (Or.inl rfl) dX1_hasModule_22
  · have hF := ite_F c1 hF
    refine lv_iload_n hx hb dX1_hasModule_4 rfl (lv_at hl 1 rfl) ?_
    refine lv_aload_n hx hb dX1_hasModule_5 rfl (lv_at hl 0 rfl) ?_
    refine gf_17_0 hx hb htm hown hE hP (htm _ qw_18) dX1_hasModule_6 ?_
    refine lv_icmp_ge (tgt := 21) hx hb dX1_hasModule_9 (by decide) (fun c2 => ?_) (fun c2 => ?_)
    · have hF := ite_T c2 hF
      refine lv_iconst (v := 0) hx hb dX1_hasModule_21 (by decide) ?_
      cases hF
      exact m_zret X hS hP rfl (Or.inl rfl) dX1_hasModule_22
    · have hF := ite_F c2 hF
      refine lv_iload_n hx hb dX1_hasModule_12 rfl (lv_at hl 1 rfl) ?_
      refine lv_iconst (v := 4) hx hb dX1_hasModule_13 (by decide) ?_
      refine lv_icmp_ge (tgt := 21) hx hb dX1_hasModule_14 (by decide) (fun c3 => ?_) (fun c3 => ?_)
      · have hF := ite_T c3 hF
        refine lv_iconst (v := 0) hx hb dX1_hasModule_21 (by decide) ?_
        cases hF
        exact m_zret X hS hP rfl (Or.inl rfl) dX1_hasModule_22
      · have hF := ite_F c3 hF
        refine lv_iconst (v := 1) hx hb dX1_hasModule_17 (by decide) ?_
        refine lv_goto (tgt := 22) hx hb dX1_hasModule_18 (by decide) ?_
        cases hF
        exact m_zret X hS hP rfl (Or.inr rfl) dX1_hasModule_22
def f_X1_rowOf (G : MT) (x1 : Int32) (x2 : Int32) : Option (Int32) :=
  (f_X1_hasModule G x1).bind (fun q1_ => if q1_ = 0 then (some (-1)) else ((f_X6_isWithin x2 0 3).bind (fun q3_ => if q3_ = 0 then (some (-1)) else (some ((x1 * 4) + x2)))))
def rm_X1_rowOf : Room := { frames := 1, cells := 0, slots := 0, locals := 22 }
set_option maxRecDepth 20000 in
set_option maxHeartbeats 4000000 in
theorem c_X1_rowOf {l : Launch} {D : va_G} {ad : Nat → Nat → Nat → Nat} {cI cZ cP : ClassId} {A : Nat → Prop} {w : Nat} (hw : w < 2) {G V U : MT} {x1 : Int32} {x2 : Int32} {r : Int32}  (hF : f_X1_rowOf G x1 x2 = some r) : Met l yX1_rowOf (.code yX1_rowOf cX1_rowOf 3 (some .int) :: WM) rm_X1_rowOf (PcM D ad cI cZ cP A [.ref (ad 2 17 0), .int x1, .int x2] (Pic D ad cI cZ cP w G V U)) (QcI A r (Pic D ad cI cZ cP w G V U)) 0 0 A := by
  refine m_entry (by decide) (Nat.le_of_ble_eq_true rfl) (fun p e s m below meth c ls X hP hS hl => ?_)
  have X : MX p s m _ meth c cX1_rowOf RX1 3 (some .int) D ad cI cZ cP A := X
  obtain ⟨hx, hb, hml, hown, htm, hr, hlk, hE⟩ := id X
  have hl : lv_has ls 3 [(0, .ref (ad 2 17 0)), (1, .int x1), (2, .int x2)] := hl
  refine lv_aload_n hx hb dX1_rowOf_0 rfl (lv_at hl 0 rfl) ?_
  refine lv_iload_n hx hb dX1_rowOf_1 rfl (lv_at hl 1 rfl) ?_
  obtain ⟨r1, hc1, hF⟩ := ob_S hF
  refine m_cVi X hS vw_X1_hasModule qw_20 (c_X1_hasModule hw hc1) ⟨rfl, rfl⟩ ⟨Nat.le_of_ble_eq_true rfl, Nat.le_of_ble_eq_true rfl⟩ (rc_17 hE hP) hP rfl hl.1 (rest := []) rfl (Nat.le_of_ble_eq_true rfl) dX1_rowOf_2 (fun H locs hP hS => ?_)
  refine lv_if_eq (tgt := 17) hx hb dX1_rowOf_5 (by decide) (fun c2 => ?_) (fun c2 => ?_)
  · have hF := ite_T c2 hF
    refine lv_iconst (v := (-1)) hx hb dX1_rowOf_17 (by decide) ?_
    cases hF
    exact m_iret X hS hP rfl dX1_rowOf_18
  · have hF := ite_F c2 hF
    refine lv_iload_n hx hb dX1_rowOf_8 rfl (lv_at hl 2 rfl) ?_
    refine lv_iconst (v := 0) hx hb dX1_rowOf_9 (by decide) ?_
    refine lv_iconst (v := 3) hx hb dX1_rowOf_10 (by decide) ?_
    obtain ⟨r3, hc3, hF⟩ := ob_S hF
    refine m_cNi X hS sw_X6_isWithin nst_1 (c_X6_isWithin hc3) ⟨rfl, rfl⟩ ⟨Nat.le_of_ble_eq_true rfl, Nat.le_of_ble_eq_true rfl⟩ hP rfl hl.1 (rest := []) rfl (Nat.le_of_ble_eq_true rfl) dX1_rowOf_11 (fun H locs hP hS => ?_)
    refine lv_if_ne (tgt := 19) hx hb dX1_rowOf_14 (by decide) (fun c4 => ?_) (fun c4 => ?_)
    · have hF := ite_F c4 hF
      refine lv_iload_n hx hb dX1_rowOf_19 rfl (lv_at hl 1 rfl) ?_
      refine lv_iconst (v := 4) hx hb dX1_rowOf_20 (by decide) ?_
      refine lv_imul hx hb dX1_rowOf_21 ?_
      refine lv_iload_n hx hb dX1_rowOf_22 rfl (lv_at hl 2 rfl) ?_
      refine lv_iadd hx hb dX1_rowOf_23 ?_
      cases hF
      exact m_iret X hS hP rfl dX1_rowOf_24
    · have hF := ite_T c4 hF
      refine lv_iconst (v := (-1)) hx hb dX1_rowOf_17 (by decide) ?_
      cases hF
      exact m_iret X hS hP rfl dX1_rowOf_18
def f_X1_linesOf (G : MT) (x1 : Int32) (x2 : Int32) : Option (Int32) :=
  (f_X1_rowOf G x1 x2).bind (fun q1_ => if q1_ = (-1) then (some 0) else (if ¬ (q1_ < 0 ∨ 16 ≤ Int32.toNatClampNeg q1_) then (some (G 18 0 (Int32.toNatClampNeg q1_))) else none))
def rm_X1_linesOf : Room := { frames := 2, cells := 0, slots := 0, locals := 44 }
set_option maxRecDepth 20000 in
set_option maxHeartbeats 4000000 in
theorem c_X1_linesOf {l : Launch} {D : va_G} {ad : Nat → Nat → Nat → Nat} {cI cZ cP : ClassId} {A : Nat → Prop} {w : Nat} (hw : w < 2) {G V U : MT} {x1 : Int32} {x2 : Int32} {r : Int32}  (hF : f_X1_linesOf G x1 x2 = some r) : Met l yX1_linesOf (.code yX1_linesOf cX1_linesOf 4 (some .int) :: WM) rm_X1_linesOf (PcM D ad cI cZ cP A [.ref (ad 2 17 0), .int x1, .int x2] (Pic D ad cI cZ cP w G V U)) (QcI A r (Pic D ad cI cZ cP w G V U)) 0 0 A := by
  refine m_entry (by decide) (Nat.le_of_ble_eq_true rfl) (fun p e s m below meth c ls X hP hS hl => ?_)
  have X : MX p s m _ meth c cX1_linesOf RX1 4 (some .int) D ad cI cZ cP A := X
  obtain ⟨hx, hb, hml, hown, htm, hr, hlk, hE⟩ := id X
  have hl : lv_has ls 4 [(0, .ref (ad 2 17 0)), (1, .int x1), (2, .int x2)] := hl
  refine lv_aload_n hx hb dX1_linesOf_0 rfl (lv_at hl 0 rfl) ?_
  refine lv_iload_n hx hb dX1_linesOf_1 rfl (lv_at hl 1 rfl) ?_
  refine lv_iload_n hx hb dX1_linesOf_2 rfl (lv_at hl 2 rfl) ?_
  obtain ⟨r1, hc1, hF⟩ := ob_S hF
  refine m_cVi X hS vw_X1_rowOf qw_25 (c_X1_rowOf hw hc1) ⟨rfl, rfl⟩ ⟨Nat.le_of_ble_eq_true rfl, Nat.le_of_ble_eq_true rfl⟩ (rc_17 hE hP) hP rfl hl.1 (rest := []) rfl (Nat.le_of_ble_eq_true rfl) dX1_linesOf_3 (fun H locs hP hS => ?_)
  refine lv_istore_n (lv' := [(3, .int r1), (0, .ref (ad 2 17 0)), (1, .int x1), (2, .int x2)]) hx hb dX1_linesOf_6 rfl hl (by decide) rfl (fun ls hl => ?_)
  refine lv_iload_n hx hb dX1_linesOf_7 rfl (lv_at hl 0 rfl) ?_
  refine lv_iconst (v := (-1)) hx hb dX1_linesOf_8 (by decide) ?_
  refine lv_icmp_ne (tgt := 16) hx hb dX1_linesOf_9 (by decide) (fun c2 => ?_) (fun c2 => ?_)
  · have hF := ite_F c2 hF
    refine lv_aload_n hx hb dX1_linesOf_16 rfl (lv_at hl 1 rfl) ?_
    refine gf_17_1 hx hb htm hown hE hP (htm _ qw_14) dX1_linesOf_17 ?_
    refine lv_iload_n hx hb dX1_linesOf_20 rfl (lv_at hl 0 rfl) ?_
    obtain ⟨hn3, hF⟩ := ite_S hF
    refine al_18 hx hb htm hown hE hP hn3 dX1_linesOf_21 ?_
    cases hF
    exact m_iret X hS hP rfl dX1_linesOf_22
  · have hF := ite_T c2 hF
    refine lv_iconst (v := 0) hx hb dX1_linesOf_12 (by decide) ?_
    refine lv_goto (tgt := 22) hx hb dX1_linesOf_13 (by decide) ?_
    cases hF
    exact m_iret X hS hP rfl dX1_linesOf_22
def f_X1_lineAt (G : MT) (x1 : Int32) (x2 : Int32) (x3 : Int32) : Option (Int32) :=
  (f_X1_rowOf G x1 x2).bind (fun q1_ => if q1_ = (-1) then (some (-1)) else (if ¬ (q1_ < 0 ∨ 16 ≤ Int32.toNatClampNeg q1_) then ((f_X6_isWithin x3 0 ((G 18 0 (Int32.toNatClampNeg q1_)) - 1)).bind (fun q4_ => if q4_ = 0 then (some (-1)) else (if x3 < 12 then (some ((q1_ * 12) + x3)) else (some (-1))))) else none))
def rm_X1_lineAt : Room := { frames := 2, cells := 0, slots := 0, locals := 44 }
set_option maxRecDepth 20000 in
set_option maxHeartbeats 4000000 in
theorem c_X1_lineAt {l : Launch} {D : va_G} {ad : Nat → Nat → Nat → Nat} {cI cZ cP : ClassId} {A : Nat → Prop} {w : Nat} (hw : w < 2) {G V U : MT} {x1 : Int32} {x2 : Int32} {x3 : Int32} {r : Int32}  (hF : f_X1_lineAt G x1 x2 x3 = some r) : Met l yX1_lineAt (.code yX1_lineAt cX1_lineAt 5 (some .int) :: WM) rm_X1_lineAt (PcM D ad cI cZ cP A [.ref (ad 2 17 0), .int x1, .int x2, .int x3] (Pic D ad cI cZ cP w G V U)) (QcI A r (Pic D ad cI cZ cP w G V U)) 0 0 A := by
  refine m_entry (by decide) (Nat.le_of_ble_eq_true rfl) (fun p e s m below meth c ls X hP hS hl => ?_)
  have X : MX p s m _ meth c cX1_lineAt RX1 5 (some .int) D ad cI cZ cP A := X
  obtain ⟨hx, hb, hml, hown, htm, hr, hlk, hE⟩ := id X
  have hl : lv_has ls 5 [(0, .ref (ad 2 17 0)), (1, .int x1), (2, .int x2), (3, .int x3)] := hl
  refine lv_aload_n hx hb dX1_lineAt_0 rfl (lv_at hl 0 rfl) ?_
  refine lv_iload_n hx hb dX1_lineAt_1 rfl (lv_at hl 1 rfl) ?_
  refine lv_iload_n hx hb dX1_lineAt_2 rfl (lv_at hl 2 rfl) ?_
  obtain ⟨r1, hc1, hF⟩ := ob_S hF
  refine m_cVi X hS vw_X1_rowOf qw_25 (c_X1_rowOf hw hc1) ⟨rfl, rfl⟩ ⟨Nat.le_of_ble_eq_true rfl, Nat.le_of_ble_eq_true rfl⟩ (rc_17 hE hP) hP rfl hl.1 (rest := []) rfl (Nat.le_of_ble_eq_true rfl) dX1_lineAt_3 (fun H locs hP hS => ?_)
  refine lv_istore (lv' := [(4, .int r1), (0, .ref (ad 2 17 0)), (1, .int x1), (2, .int x2), (3, .int x3)]) hx hb dX1_lineAt_6 hl (by decide) rfl (fun ls hl => ?_)
  refine lv_iload hx hb dX1_lineAt_8 (lv_at hl 0 rfl) ?_
  refine lv_iconst (v := (-1)) hx hb dX1_lineAt_10 (by decide) ?_
  refine lv_icmp_eq (tgt := 37) hx hb dX1_lineAt_11 (by decide) (fun c2 => ?_) (fun c2 => ?_)
  · have hF := ite_T c2 hF
    refine lv_iconst (v := (-1)) hx hb dX1_lineAt_37 (by decide) ?_
    cases hF
    exact m_iret X hS hP rfl dX1_lineAt_38
  · have hF := ite_F c2 hF
    refine lv_iload_n hx hb dX1_lineAt_14 rfl (lv_at hl 4 rfl) ?_
    refine lv_iconst (v := 0) hx hb dX1_lineAt_15 (by decide) ?_
    refine lv_aload_n hx hb dX1_lineAt_16 rfl (lv_at hl 1 rfl) ?_
    refine gf_17_1 hx hb htm hown hE hP (htm _ qw_14) dX1_lineAt_17 ?_
    refine lv_iload hx hb dX1_lineAt_20 (lv_at hl 0 rfl) ?_
    obtain ⟨hn3, hF⟩ := ite_S hF
    refine al_18 hx hb htm hown hE hP hn3 dX1_lineAt_22 ?_
    refine lv_iconst (v := 1) hx hb dX1_lineAt_23 (by decide) ?_
    refine lv_isub hx hb dX1_lineAt_24 ?_
    obtain ⟨r4, hc4, hF⟩ := ob_S hF
    refine m_cNi X hS sw_X6_isWithin nst_1 (c_X6_isWithin hc4) ⟨rfl, rfl⟩ ⟨Nat.le_of_ble_eq_true rfl, Nat.le_of_ble_eq_true rfl⟩ hP rfl hl.1 (rest := []) rfl (Nat.le_of_ble_eq_true rfl) dX1_lineAt_25 (fun H locs hP hS => ?_)
    refine lv_if_eq (tgt := 37) hx hb dX1_lineAt_28 (by decide) (fun c5 => ?_) (fun c5 => ?_)
    · have hF := ite_T c5 hF
      refine lv_iconst (v := (-1)) hx hb dX1_lineAt_37 (by decide) ?_
      cases hF
      exact m_iret X hS hP rfl dX1_lineAt_38
    · have hF := ite_F c5 hF
      refine lv_iload_n hx hb dX1_lineAt_31 rfl (lv_at hl 4 rfl) ?_
      refine lv_bipush (v := 12) hx hb dX1_lineAt_32 (by decide) ?_
      refine lv_icmp_lt (tgt := 39) hx hb dX1_lineAt_34 (by decide) (fun c6 => ?_) (fun c6 => ?_)
      · have hF := ite_T c6 hF
        refine lv_iload hx hb dX1_lineAt_39 (lv_at hl 0 rfl) ?_
        refine lv_bipush (v := 12) hx hb dX1_lineAt_41 (by decide) ?_
        refine lv_imul hx hb dX1_lineAt_43 ?_
        refine lv_iload_n hx hb dX1_lineAt_44 rfl (lv_at hl 4 rfl) ?_
        refine lv_iadd hx hb dX1_lineAt_45 ?_
        cases hF
        exact m_iret X hS hP rfl dX1_lineAt_46
      · have hF := ite_F c6 hF
        refine lv_iconst (v := (-1)) hx hb dX1_lineAt_37 (by decide) ?_
        cases hF
        exact m_iret X hS hP rfl dX1_lineAt_38
def f_X1_addLine (G : MT) (x1 : Int32) (x2 : Int32) (x3 : Int32) (x4 : Int32) (x5 : Int32) : Option (Int32 × MT) :=
  (f_X1_rowOf G x1 x2).bind (fun q1_ => if q1_ = (-1) then (some ((-1), G)) else (if ¬ (q1_ < 0 ∨ 16 ≤ Int32.toNatClampNeg q1_) then (if G 18 0 (Int32.toNatClampNeg q1_) < 12 then (if ¬ (q1_ < 0 ∨ 16 ≤ Int32.toNatClampNeg q1_) then (if ¬ (q1_ < 0 ∨ 16 ≤ Int32.toNatClampNeg q1_) then (if ¬ ((q1_ * 12) + (G 18 0 (Int32.toNatClampNeg q1_)) < 0 ∨ 192 ≤ Int32.toNatClampNeg ((q1_ * 12) + (G 18 0 (Int32.toNatClampNeg q1_)))) then (if ¬ ((q1_ * 12) + (G 18 0 (Int32.toNatClampNeg q1_)) < 0 ∨ 192 ≤ Int32.toNatClampNeg ((q1_ * 12) + (G 18 0 (Int32.toNatClampNeg q1_)))) then (if ¬ ((q1_ * 12) + (G 18 0 (Int32.toNatClampNeg q1_)) < 0 ∨ 192 ≤ Int32.toNatClampNeg ((q1_ * 12) + (G 18 0 (Int32.toNatClampNeg q1_)))) then (some (G 18 0 (Int32.toNatClampNeg q1_), (pt (pt (pt (pt G 18 0 (Int32.toNatClampNeg q1_) ((G 18 0 (Int32.toNatClampNeg q1_)) + 1)) 19 0 (Int32.toNatClampNeg ((q1_ * 12) + (G 18 0 (Int32.toNatClampNeg q1_)))) x3) 20 0 (Int32.toNatClampNeg ((q1_ * 12) + (G 18 0 (Int32.toNatClampNeg q1_)))) x4) 21 0 (Int32.toNatClampNeg ((q1_ * 12) + (G 18 0 (Int32.toNatClampNeg q1_)))) x5))) else none) else none) else none) else none) else none) else (some ((-1), G))) else none))
def rm_X1_addLine : Room := { frames := 2, cells := 0, slots := 0, locals := 44 }
set_option maxRecDepth 20000 in
set_option maxHeartbeats 4000000 in
theorem c_X1_addLine {l : Launch} {D : va_G} {ad : Nat → Nat → Nat → Nat} {cI cZ cP : ClassId} {A : Nat → Prop} {w : Nat} (hw : w < 2) {G V U : MT} {x1 : Int32} {x2 : Int32} {x3 : Int32} {x4 : Int32} {x5 : Int32} {r : Int32} {G' : MT}  (hF : f_X1_addLine G x1 x2 x3 x4 x5 = some (r, G')) : Met l yX1_addLine (.code yX1_addLine cX1_addLine 9 (some .int) :: WM) rm_X1_addLine (PcM D ad cI cZ cP A [.ref (ad 2 17 0), .int x1, .int x2, .int x3, .int x4, .int x5] (Pic D ad cI cZ cP w G V U)) (QcI A r (Pic D ad cI cZ cP w G' V U)) 0 0 A := by
  refine m_entry (by decide) (Nat.le_of_ble_eq_true rfl) (fun p e s m below meth c ls X hP hS hl => ?_)
  have X : MX p s m _ meth c cX1_addLine RX1 9 (some .int) D ad cI cZ cP A := X
  obtain ⟨hx, hb, hml, hown, htm, hr, hlk, hE⟩ := id X
  have hl : lv_has ls 9 [(0, .ref (ad 2 17 0)), (1, .int x1), (2, .int x2), (3, .int x3), (4, .int x4), (5, .int x5)] := hl
  refine lv_aload_n hx hb dX1_addLine_0 rfl (lv_at hl 0 rfl) ?_
  refine lv_iload_n hx hb dX1_addLine_1 rfl (lv_at hl 1 rfl) ?_
  refine lv_iload_n hx hb dX1_addLine_2 rfl (lv_at hl 2 rfl) ?_
  obtain ⟨r1, hc1, hF⟩ := ob_S hF
  refine m_cVi X hS vw_X1_rowOf qw_25 (c_X1_rowOf hw hc1) ⟨rfl, rfl⟩ ⟨Nat.le_of_ble_eq_true rfl, Nat.le_of_ble_eq_true rfl⟩ (rc_17 hE hP) hP rfl hl.1 (rest := []) rfl (Nat.le_of_ble_eq_true rfl) dX1_addLine_3 (fun H locs hP hS => ?_)
  refine lv_istore (lv' := [(6, .int r1), (0, .ref (ad 2 17 0)), (1, .int x1), (2, .int x2), (3, .int x3), (4, .int x4), (5, .int x5)]) hx hb dX1_addLine_6 hl (by decide) rfl (fun ls hl => ?_)
  refine lv_iload hx hb dX1_addLine_8 (lv_at hl 0 rfl) ?_
  refine lv_iconst (v := (-1)) hx hb dX1_addLine_10 (by decide) ?_
  refine lv_icmp_eq (tgt := 26) hx hb dX1_addLine_11 (by decide) (fun c2 => ?_) (fun c2 => ?_)
  · have hF := ite_T c2 hF
    refine lv_iconst (v := (-1)) hx hb dX1_addLine_26 (by decide) ?_
    cases hF
    exact m_iret X hS hP rfl dX1_addLine_27
  · have hF := ite_F c2 hF
    refine lv_aload_n hx hb dX1_addLine_14 rfl (lv_at hl 1 rfl) ?_
    refine gf_17_1 hx hb htm hown hE hP (htm _ qw_14) dX1_addLine_15 ?_
    refine lv_iload hx hb dX1_addLine_18 (lv_at hl 0 rfl) ?_
    obtain ⟨hn3, hF⟩ := ite_S hF
    refine al_18 hx hb htm hown hE hP hn3 dX1_addLine_20 ?_
    refine lv_bipush (v := 12) hx hb dX1_addLine_21 (by decide) ?_
    refine lv_icmp_lt (tgt := 28) hx hb dX1_addLine_23 (by decide) (fun c4 => ?_) (fun c4 => ?_)
    · have hF := ite_T c4 hF
      refine lv_aload_n hx hb dX1_addLine_28 rfl (lv_at hl 1 rfl) ?_
      refine gf_17_1 hx hb htm hown hE hP (htm _ qw_14) dX1_addLine_29 ?_
      refine lv_iload hx hb dX1_addLine_32 (lv_at hl 0 rfl) ?_
      obtain ⟨hn5, hF⟩ := ite_S hF
      refine al_18 hx hb htm hown hE hP hn5 dX1_addLine_34 ?_
      refine lv_istore (lv' := [(7, .int (G 18 0 (Int32.toNatClampNeg r1))), (6, .int r1), (0, .ref (ad 2 17 0)), (1, .int x1), (2, .int x2), (3, .int x3), (4, .int x4), (5, .int x5)]) hx hb dX1_addLine_35 hl (by decide) rfl (fun ls hl => ?_)
      refine lv_aload_n hx hb dX1_addLine_37 rfl (lv_at hl 2 rfl) ?_
      refine gf_17_1 hx hb htm hown hE hP (htm _ qw_14) dX1_addLine_38 ?_
      refine lv_iload hx hb dX1_addLine_41 (lv_at hl 1 rfl) ?_
      refine lv_iload hx hb dX1_addLine_43 (lv_at hl 0 rfl) ?_
      refine lv_iconst (v := 1) hx hb dX1_addLine_45 (by decide) ?_
      refine lv_iadd hx hb dX1_addLine_46 ?_
      obtain ⟨hn6, hF⟩ := ite_S hF
      refine as_18 hx hb htm hown hE hP hS hn6 dX1_addLine_47 (fun H locs hP hS => ?_)
      refine lv_iload hx hb dX1_addLine_48 (lv_at hl 1 rfl) ?_
      refine lv_bipush (v := 12) hx hb dX1_addLine_50 (by decide) ?_
      refine lv_imul hx hb dX1_addLine_52 ?_
      refine lv_iload hx hb dX1_addLine_53 (lv_at hl 0 rfl) ?_
      refine lv_iadd hx hb dX1_addLine_55 ?_
      refine lv_istore (lv' := [(8, .int ((r1 * 12) + (G 18 0 (Int32.toNatClampNeg r1)))), (7, .int (G 18 0 (Int32.toNatClampNeg r1))), (6, .int r1), (0, .ref (ad 2 17 0)), (1, .int x1), (2, .int x2), (3, .int x3), (4, .int x4), (5, .int x5)]) hx hb dX1_addLine_56 hl (by decide) rfl (fun ls hl => ?_)
      refine lv_aload_n hx hb dX1_addLine_58 rfl (lv_at hl 3 rfl) ?_
      refine gf_17_2 hx hb htm hown hE hP (htm _ qw_15) dX1_addLine_59 ?_
      refine lv_iload hx hb dX1_addLine_62 (lv_at hl 0 rfl) ?_
      refine lv_iload_n hx hb dX1_addLine_64 rfl (lv_at hl 6 rfl) ?_
      obtain ⟨hn7, hF⟩ := ite_S hF
      refine as_19 hx hb htm hown hE hP hS hn7 dX1_addLine_65 (fun H locs hP hS => ?_)
      refine lv_aload_n hx hb dX1_addLine_66 rfl (lv_at hl 3 rfl) ?_
      refine gf_17_3 hx hb htm hown hE hP (htm _ qw_16) dX1_addLine_67 ?_
      refine lv_iload hx hb dX1_addLine_70 (lv_at hl 0 rfl) ?_
      refine lv_iload hx hb dX1_addLine_72 (lv_at hl 7 rfl) ?_
      obtain ⟨hn8, hF⟩ := ite_S hF
      refine as_20 hx hb htm hown hE hP hS hn8 dX1_addLine_74 (fun H locs hP hS => ?_)
      refine lv_aload_n hx hb dX1_addLine_75 rfl (lv_at hl 3 rfl) ?_
      refine gf_17_4 hx hb htm hown hE hP (htm _ qw_17) dX1_addLine_76 ?_
      refine lv_iload hx hb dX1_addLine_79 (lv_at hl 0 rfl) ?_
      refine lv_iload hx hb dX1_addLine_81 (lv_at hl 8 rfl) ?_
      obtain ⟨hn9, hF⟩ := ite_S hF
      refine as_21 hx hb htm hown hE hP hS hn9 dX1_addLine_83 (fun H locs hP hS => ?_)
      refine lv_iload hx hb dX1_addLine_84 (lv_at hl 1 rfl) ?_
      cases hF
      exact m_iret X hS hP rfl dX1_addLine_86
    · have hF := ite_F c4 hF
      refine lv_iconst (v := (-1)) hx hb dX1_addLine_26 (by decide) ?_
      cases hF
      exact m_iret X hS hP rfl dX1_addLine_27
end
section
theorem vw_X2_copyFrom : VW RX2 yX2_copyFrom cX2_copyFrom 2 none 1 := ⟨qw_140, qw_141, qw_92, qw_69, ⟨rfl, by decide, by decide, by decide +kernel⟩⟩
theorem vw_X2_isSupervisor : VW RX2 yX2_isSupervisor cX2_isSupervisor 1 (some .boolean) 0 := ⟨qw_195, qw_196, qw_92, qw_70, ⟨rfl, by decide, by decide, by decide +kernel⟩⟩
theorem vw_X2_isLinkedWith : VW RX2 yX2_isLinkedWith cX2_isLinkedWith 2 (some .boolean) 1 := ⟨qw_248, qw_249, qw_92, qw_71, ⟨rfl, by decide, by decide, by decide +kernel⟩⟩
theorem vw_X2_isEmptyPlace : VW RX2 yX2_isEmptyPlace cX2_isEmptyPlace 2 (some .boolean) 1 := ⟨qw_172, qw_173, qw_92, qw_72, ⟨rfl, by decide, by decide, by decide +kernel⟩⟩
theorem vw_X2_localAt : VW RX2 yX2_localAt cX2_localAt 2 (some .int) 1 := ⟨qw_294, qw_295, qw_92, qw_73, ⟨rfl, by decide, by decide, by decide +kernel⟩⟩
theorem vw_X2_putLocal : VW RX2 yX2_putLocal cX2_putLocal 3 none 2 := ⟨qw_302, qw_303, qw_92, qw_74, ⟨rfl, by decide, by decide, by decide +kernel⟩⟩
theorem vw_X2_hold : VW RX2 yX2_hold cX2_hold 2 none 1 := ⟨qw_90, qw_91, qw_92, qw_82, ⟨rfl, by decide, by decide, by decide +kernel⟩⟩
theorem vw_X2_takeMail : VW RX2 yX2_takeMail cX2_takeMail 3 (some .boolean) 1 := ⟨qw_97, qw_98, qw_92, qw_93, ⟨rfl, by decide, by decide, by decide +kernel⟩⟩
theorem vw_X2_waitFor : VW RX2 yX2_waitFor cX2_waitFor 3 none 2 := ⟨qw_306, qw_307, qw_92, qw_94, ⟨rfl, by decide, by decide, by decide +kernel⟩⟩
theorem vw_X2_waitsForMail : VW RX2 yX2_waitsForMail cX2_waitsForMail 2 (some .boolean) 1 := ⟨qw_201, qw_202, qw_92, qw_95, ⟨rfl, by decide, by decide, by decide +kernel⟩⟩
theorem vw_X2_resume : VW RX2 yX2_resume cX2_resume 1 none 0 := ⟨qw_316, qw_317, qw_92, qw_99, ⟨rfl, by decide, by decide, by decide +kernel⟩⟩
theorem vw_X2_placeOf : VW RX2 yX2_placeOf cX2_placeOf 3 (some .int) 1 := ⟨qw_232, qw_233, qw_92, qw_100, ⟨rfl, by decide, by decide, by decide +kernel⟩⟩
def f_X2_copyFrom (V U : MT) (i0 : Nat) (i1 : Nat) : Option (MT) :=
  if U 7 i1 12 = 0 ∨ U 7 i1 12 = 1 then ((f_X0_copyFrom (ct (ct (pt (pt (pt (pt (pt (pt (pt (pt (pt (pt (pt (pt (pt (pt V 7 i0 1 (U 7 i1 1)) 7 i0 2 (U 7 i1 2)) 7 i0 3 (U 7 i1 3)) 7 i0 4 (U 7 i1 4)) 7 i0 5 (U 7 i1 5)) 7 i0 6 (U 7 i1 6)) 7 i0 7 (U 7 i1 7)) 7 i0 8 (U 7 i1 8)) 7 i0 9 (U 7 i1 9)) 7 i0 10 (U 7 i1 10)) 7 i0 11 (U 7 i1 11)) 7 i0 12 (U 7 i1 12)) 7 i0 13 (U 7 i1 13)) 7 i0 14 (U 7 i1 14)) 8 i0 (U 8 i1) 4) 9 i0 (U 9 i1) 4) U i0 i1).bind (fun q2_ => (f_X4_copyFrom q2_ U i0 i1).bind (fun q3_ => some q3_))) else none
def rm_X2_copyFrom : Room := { frames := 2, cells := 0, slots := 0, locals := 61 }
set_option maxRecDepth 20000 in
set_option maxHeartbeats 4000000 in
theorem c_X2_copyFrom {l : Launch} {D : va_G} {ad : Nat → Nat → Nat → Nat} {cI cZ cP : ClassId} {A : Nat → Prop} {w w' : Nat} (hw : w < 2) (hw' : w' < 2) (hww : w + w' = 1) {G V U : MT} {i0 : Nat} {i1 : Nat} {V' : MT}  (hi0 : i0 < 24) (hi1 : i1 < 24) (hF : f_X2_copyFrom V U i0 i1 = some V') : Met l yX2_copyFrom (.code yX2_copyFrom cX2_copyFrom 2 none :: WM) rm_X2_copyFrom (PcM D ad cI cZ cP A [.ref (ad w 7 i0), .ref (ad w' 7 i1)] (Pic D ad cI cZ cP w G V U)) (QcV A (Pic D ad cI cZ cP w G V' U)) 0 0 A := by
  refine m_entry (by decide) (Nat.le_of_ble_eq_true rfl) (fun p e s m below meth c ls X hP hS hl => ?_)
  have X : MX p s m _ meth c cX2_copyFrom RX2 2 none D ad cI cZ cP A := X
  obtain ⟨hx, hb, hml, hown, htm, hr, hlk, hE⟩ := id X
  have hl : lv_has ls 2 [(0, .ref (ad w 7 i0)), (1, .ref (ad w' 7 i1))] := hl
  refine lv_aload_n hx hb dX2_copyFrom_0 rfl (lv_at hl 0 rfl) ?_
  refine lv_aload_n hx hb dX2_copyFrom_1 rfl (lv_at hl 1 rfl) ?_
  refine gf_7_1 hx hb htm hown hE (hP.swap hww) hw' hi1 (htm _ qw_34) dX2_copyFrom_2 ?_
  refine pf_7_1 hx hb htm hown hE hP hS hw hi0 (htm _ qw_34) dX2_copyFrom_5 (fun H locs hP hS => ?_)
  refine lv_aload_n hx hb dX2_copyFrom_8 rfl (lv_at hl 0 rfl) ?_
  refine lv_aload_n hx hb dX2_copyFrom_9 rfl (lv_at hl 1 rfl) ?_
  refine gf_7_2 hx hb htm hown hE (hP.swap hww) hw' hi1 (htm _ qw_35) dX2_copyFrom_10 ?_
  refine pf_7_2 hx hb htm hown hE hP hS hw hi0 (htm _ qw_35) dX2_copyFrom_13 (fun H locs hP hS => ?_)
  refine lv_aload_n hx hb dX2_copyFrom_16 rfl (lv_at hl 0 rfl) ?_
  refine lv_aload_n hx hb dX2_copyFrom_17 rfl (lv_at hl 1 rfl) ?_
  refine gf_7_3 hx hb htm hown hE (hP.swap hww) hw' hi1 (htm _ qw_36) dX2_copyFrom_18 ?_
  refine pf_7_3 hx hb htm hown hE hP hS hw hi0 (htm _ qw_36) dX2_copyFrom_21 (fun H locs hP hS => ?_)
  refine lv_aload_n hx hb dX2_copyFrom_24 rfl (lv_at hl 0 rfl) ?_
  refine lv_aload_n hx hb dX2_copyFrom_25 rfl (lv_at hl 1 rfl) ?_
  refine gf_7_4 hx hb htm hown hE (hP.swap hww) hw' hi1 (htm _ qw_37) dX2_copyFrom_26 ?_
  refine pf_7_4 hx hb htm hown hE hP hS hw hi0 (htm _ qw_37) dX2_copyFrom_29 (fun H locs hP hS => ?_)
  refine lv_aload_n hx hb dX2_copyFrom_32 rfl (lv_at hl 0 rfl) ?_
  refine lv_aload_n hx hb dX2_copyFrom_33 rfl (lv_at hl 1 rfl) ?_
  refine gf_7_5 hx hb htm hown hE (hP.swap hww) hw' hi1 (htm _ qw_38) dX2_copyFrom_34 ?_
  refine pf_7_5 hx hb htm hown hE hP hS hw hi0 (htm _ qw_38) dX2_copyFrom_37 (fun H locs hP hS => ?_)
  refine lv_aload_n hx hb dX2_copyFrom_40 rfl (lv_at hl 0 rfl) ?_
  refine lv_aload_n hx hb dX2_copyFrom_41 rfl (lv_at hl 1 rfl) ?_
  refine gf_7_6 hx hb htm hown hE (hP.swap hww) hw' hi1 (htm _ qw_39) dX2_copyFrom_42 ?_
  refine pf_7_6 hx hb htm hown hE hP hS hw hi0 (htm _ qw_39) dX2_copyFrom_45 (fun H locs hP hS => ?_)
  refine lv_aload_n hx hb dX2_copyFrom_48 rfl (lv_at hl 0 rfl) ?_
  refine lv_aload_n hx hb dX2_copyFrom_49 rfl (lv_at hl 1 rfl) ?_
  refine gf_7_7 hx hb htm hown hE (hP.swap hww) hw' hi1 (htm _ qw_56) dX2_copyFrom_50 ?_
  refine pf_7_7 hx hb htm hown hE hP hS hw hi0 (htm _ qw_56) dX2_copyFrom_53 (fun H locs hP hS => ?_)
  refine lv_aload_n hx hb dX2_copyFrom_56 rfl (lv_at hl 0 rfl) ?_
  refine lv_aload_n hx hb dX2_copyFrom_57 rfl (lv_at hl 1 rfl) ?_
  refine gf_7_8 hx hb htm hown hE (hP.swap hww) hw' hi1 (htm _ qw_57) dX2_copyFrom_58 ?_
  refine pf_7_8 hx hb htm hown hE hP hS hw hi0 (htm _ qw_57) dX2_copyFrom_61 (fun H locs hP hS => ?_)
  refine lv_aload_n hx hb dX2_copyFrom_64 rfl (lv_at hl 0 rfl) ?_
  refine lv_aload_n hx hb dX2_copyFrom_65 rfl (lv_at hl 1 rfl) ?_
  refine gf_7_9 hx hb htm hown hE (hP.swap hww) hw' hi1 (htm _ qw_40) dX2_copyFrom_66 ?_
  refine pf_7_9 hx hb htm hown hE hP hS hw hi0 (htm _ qw_40) dX2_copyFrom_69 (fun H locs hP hS => ?_)
  refine lv_aload_n hx hb dX2_copyFrom_72 rfl (lv_at hl 0 rfl) ?_
  refine lv_aload_n hx hb dX2_copyFrom_73 rfl (lv_at hl 1 rfl) ?_
  refine gf_7_10 hx hb htm hown hE (hP.swap hww) hw' hi1 (htm _ qw_41) dX2_copyFrom_74 ?_
  refine pf_7_10 hx hb htm hown hE hP hS hw hi0 (htm _ qw_41) dX2_copyFrom_77 (fun H locs hP hS => ?_)
  refine lv_aload_n hx hb dX2_copyFrom_80 rfl (lv_at hl 0 rfl) ?_
  refine lv_aload_n hx hb dX2_copyFrom_81 rfl (lv_at hl 1 rfl) ?_
  refine gf_7_11 hx hb htm hown hE (hP.swap hww) hw' hi1 (htm _ qw_58) dX2_copyFrom_82 ?_
  refine pf_7_11 hx hb htm hown hE hP hS hw hi0 (htm _ qw_58) dX2_copyFrom_85 (fun H locs hP hS => ?_)
  refine lv_aload_n hx hb dX2_copyFrom_88 rfl (lv_at hl 0 rfl) ?_
  refine lv_aload_n hx hb dX2_copyFrom_89 rfl (lv_at hl 1 rfl) ?_
  refine gf_7_12 hx hb htm hown hE (hP.swap hww) hw' hi1 (htm _ qw_59) dX2_copyFrom_90 ?_
  obtain ⟨hz1, hF⟩ := ite_S hF
  refine pf_7_12 hx hb htm hown hE hP hS hw hi0 (htm _ qw_59) hz1 dX2_copyFrom_93 (fun H locs hP hS => ?_)
  refine lv_aload_n hx hb dX2_copyFrom_96 rfl (lv_at hl 0 rfl) ?_
  refine lv_aload_n hx hb dX2_copyFrom_97 rfl (lv_at hl 1 rfl) ?_
  refine gf_7_13 hx hb htm hown hE (hP.swap hww) hw' hi1 (htm _ qw_60) dX2_copyFrom_98 ?_
  refine pf_7_13 hx hb htm hown hE hP hS hw hi0 (htm _ qw_60) dX2_copyFrom_101 (fun H locs hP hS => ?_)
  refine lv_aload_n hx hb dX2_copyFrom_104 rfl (lv_at hl 0 rfl) ?_
  refine lv_aload_n hx hb dX2_copyFrom_105 rfl (lv_at hl 1 rfl) ?_
  refine gf_7_14 hx hb htm hown hE (hP.swap hww) hw' hi1 (htm _ qw_61) dX2_copyFrom_106 ?_
  refine pf_7_14 hx hb htm hown hE hP hS hw hi0 (htm _ qw_61) dX2_copyFrom_109 (fun H locs hP hS => ?_)
  refine lv_aload_n hx hb dX2_copyFrom_112 rfl (lv_at hl 1 rfl) ?_
  refine gf_7_15 hx hb htm hown hE (hP.swap hww) hw' hi1 (htm _ qw_42) dX2_copyFrom_113 ?_
  refine lv_iconst (v := 0) hx hb dX2_copyFrom_116 (by decide) ?_
  refine lv_aload_n hx hb dX2_copyFrom_117 rfl (lv_at hl 0 rfl) ?_
  refine gf_7_15 hx hb htm hown hE hP hw hi0 (htm _ qw_42) dX2_copyFrom_118 ?_
  refine lv_iconst (v := 0) hx hb dX2_copyFrom_121 (by decide) ?_
  refine lv_iconst (v := 4) hx hb dX2_copyFrom_122 (by decide) ?_
  refine cp_8 hx hb (hml.trans hl.1.symm) hown htm hE hP hS hw hw' hww hi0 hi1 (htm _ qw_62) (Nat.le_of_ble_eq_true rfl) (Nat.le_of_ble_eq_true rfl) dX2_copyFrom_123 (fun H locs hP hS => ?_)
  refine lv_aload_n hx hb dX2_copyFrom_126 rfl (lv_at hl 1 rfl) ?_
  refine gf_7_16 hx hb htm hown hE (hP.swap hww) hw' hi1 (htm _ qw_43) dX2_copyFrom_127 ?_
  refine lv_iconst (v := 0) hx hb dX2_copyFrom_130 (by decide) ?_
  refine lv_aload_n hx hb dX2_copyFrom_131 rfl (lv_at hl 0 rfl) ?_
  refine gf_7_16 hx hb htm hown hE hP hw hi0 (htm _ qw_43) dX2_copyFrom_132 ?_
  refine lv_iconst (v := 0) hx hb dX2_copyFrom_135 (by decide) ?_
  refine lv_iconst (v := 4) hx hb dX2_copyFrom_136 (by decide) ?_
  refine cp_9 hx hb (hml.trans hl.1.symm) hown htm hE hP hS hw hw' hww hi0 hi1 (htm _ qw_62) (Nat.le_of_ble_eq_true rfl) (Nat.le_of_ble_eq_true rfl) dX2_copyFrom_137 (fun H locs hP hS => ?_)
  refine lv_aload_n hx hb dX2_copyFrom_140 rfl (lv_at hl 0 rfl) ?_
  refine gf_7_17 hx hb htm hown hE hP hw hi0 (htm _ qw_45) dX2_copyFrom_141 ?_
  refine lv_aload_n hx hb dX2_copyFrom_144 rfl (lv_at hl 1 rfl) ?_
  refine gf_7_17 hx hb htm hown hE (hP.swap hww) hw' hi1 (htm _ qw_45) dX2_copyFrom_145 ?_
  obtain ⟨V2, hc2, hF⟩ := ob_S hF
  refine m_cVv X hS vw_X0_copyFrom qw_63 (c_X0_copyFrom hw hw' hww hi0 hi1 hc2) ⟨rfl, rfl⟩ ⟨Nat.le_of_ble_eq_true rfl, Nat.le_of_ble_eq_true rfl⟩ (rc_10 hE hP hw hi0) hP rfl hl.1 (rest := []) rfl (Nat.le_of_ble_eq_true rfl) dX2_copyFrom_148 (fun H locs hP hS => ?_)
  refine lv_aload_n hx hb dX2_copyFrom_151 rfl (lv_at hl 0 rfl) ?_
  refine gf_7_18 hx hb htm hown hE hP hw hi0 (htm _ qw_47) dX2_copyFrom_152 ?_
  refine lv_aload_n hx hb dX2_copyFrom_155 rfl (lv_at hl 1 rfl) ?_
  refine gf_7_18 hx hb htm hown hE (hP.swap hww) hw' hi1 (htm _ qw_47) dX2_copyFrom_156 ?_
  obtain ⟨V3, hc3, hF⟩ := ob_S hF
  refine m_cVv X hS vw_X4_copyFrom qw_66 (c_X4_copyFrom hw hw' hww hi0 hi1 hc3) ⟨rfl, rfl⟩ ⟨Nat.le_of_ble_eq_true rfl, Nat.le_of_ble_eq_true rfl⟩ (rc_13 hE hP hw hi0) hP rfl hl.1 (rest := []) rfl (Nat.le_of_ble_eq_true rfl) dX2_copyFrom_159 (fun H locs hP hS => ?_)
  cases hF
  exact m_vret X hS hP dX2_copyFrom_162
def f_X2_isSupervisor (V : MT) (i0 : Nat) : Option (Int32) :=
  if V 7 i0 3 = (-1) then (some 0) else (some 1)
def rm_X2_isSupervisor : Room := { frames := 0, cells := 0, slots := 0, locals := 0 }
set_option maxRecDepth 20000 in
set_option maxHeartbeats 4000000 in
theorem c_X2_isSupervisor {l : Launch} {D : va_G} {ad : Nat → Nat → Nat → Nat} {cI cZ cP : ClassId} {A : Nat → Prop} {w : Nat} (hw : w < 2) {G V U : MT} {i0 : Nat} {r : Int32}  (hi0 : i0 < 24) (hF : f_X2_isSupervisor V i0 = some r) : Met l yX2_isSupervisor (.code yX2_isSupervisor cX2_isSupervisor 1 (some .boolean) :: WM) rm_X2_isSupervisor (PcM D ad cI cZ cP A [.ref (ad w 7 i0)] (Pic D ad cI cZ cP w G V U)) (QcI A r (Pic D ad cI cZ cP w G V U)) 0 0 A := by
  refine m_entry (by decide) (Nat.le_of_ble_eq_true rfl) (fun p e s m below meth c ls X hP hS hl => ?_)
  have X : MX p s m _ meth c cX2_isSupervisor RX2 1 (some .boolean) D ad cI cZ cP A := X
  obtain ⟨hx, hb, hml, hown, htm, hr, hlk, hE⟩ := id X
  have hl : lv_has ls 1 [(0, .ref (ad w 7 i0))] := hl
  refine lv_aload_n hx hb dX2_isSupervisor_0 rfl (lv_at hl 0 rfl) ?_
  refine gf_7_3 hx hb htm hown hE hP hw hi0 (htm _ qw_36) dX2_isSupervisor_1 ?_
  refine lv_iconst (v := (-1)) hx hb dX2_isSupervisor_4 (by decide) ?_
  refine lv_icmp_eq (tgt := 12) hx hb dX2_isSupervisor_5 (by decide) (fun c1 => ?_) (fun c1 => ?_)
  · have hF := ite_T c1 hF
    refine lv_iconst (v := 0) hx hb dX2_isSupervisor_12 (by decide) ?_
    cases hF
    exact m_zret X hS hP rfl (Or.inl rfl) dX2_isSupervisor_13
  · have hF := ite_F c1 hF
    refine lv_iconst (v := 1) hx hb dX2_isSupervisor_8 (by decide) ?_
    refine lv_goto (tgt := 13) hx hb dX2_isSupervisor_9 (by decide) ?_
    cases hF
    exact m_zret X hS hP rfl (Or.inr rfl) dX2_isSupervisor_13
def f_X2_isLinkedWith (V : MT) (i0 : Nat) (x1 : Int32) : Option (Int32) :=
  if (V 7 i0 13) &&& (1 <<< (x1 &&& 31)) = 0 then (some 0) else (some 1)
def rm_X2_isLinkedWith : Room := { frames := 0, cells := 0, slots := 0, locals := 0 }
set_option maxRecDepth 20000 in
set_option maxHeartbeats 4000000 in
theorem c_X2_isLinkedWith {l : Launch} {D : va_G} {ad : Nat → Nat → Nat → Nat} {cI cZ cP : ClassId} {A : Nat → Prop} {w : Nat} (hw : w < 2) {G V U : MT} {i0 : Nat} {x1 : Int32} {r : Int32}  (hi0 : i0 < 24) (hF : f_X2_isLinkedWith V i0 x1 = some r) : Met l yX2_isLinkedWith (.code yX2_isLinkedWith cX2_isLinkedWith 2 (some .boolean) :: WM) rm_X2_isLinkedWith (PcM D ad cI cZ cP A [.ref (ad w 7 i0), .int x1] (Pic D ad cI cZ cP w G V U)) (QcI A r (Pic D ad cI cZ cP w G V U)) 0 0 A := by
  refine m_entry (by decide) (Nat.le_of_ble_eq_true rfl) (fun p e s m below meth c ls X hP hS hl => ?_)
  have X : MX p s m _ meth c cX2_isLinkedWith RX2 2 (some .boolean) D ad cI cZ cP A := X
  obtain ⟨hx, hb, hml, hown, htm, hr, hlk, hE⟩ := id X
  have hl : lv_has ls 2 [(0, .ref (ad w 7 i0)), (1, .int x1)] := hl
  refine lv_aload_n hx hb dX2_isLinkedWith_0 rfl (lv_at hl 0 rfl) ?_
  refine gf_7_13 hx hb htm hown hE hP hw hi0 (htm _ qw_60) dX2_isLinkedWith_1 ?_
  refine lv_iconst (v := 1) hx hb dX2_isLinkedWith_4 (by decide) ?_
  refine lv_iload_n hx hb dX2_isLinkedWith_5 rfl (lv_at hl 1 rfl) ?_
  refine lv_ishl hx hb dX2_isLinkedWith_6 ?_
  refine lv_iand hx hb dX2_isLinkedWith_7 ?_
  refine lv_if_eq (tgt := 15) hx hb dX2_isLinkedWith_8 (by decide) (fun c1 => ?_) (fun c1 => ?_)
  · have hF := ite_T c1 hF
    refine lv_iconst (v := 0) hx hb dX2_isLinkedWith_15 (by decide) ?_
    cases hF
    exact m_zret X hS hP rfl (Or.inl rfl) dX2_isLinkedWith_16
  · have hF := ite_F c1 hF
    refine lv_iconst (v := 1) hx hb dX2_isLinkedWith_11 (by decide) ?_
    refine lv_goto (tgt := 16) hx hb dX2_isLinkedWith_12 (by decide) ?_
    cases hF
    exact m_zret X hS hP rfl (Or.inr rfl) dX2_isLinkedWith_16
def f_X2_isEmptyPlace (V : MT) (i0 : Nat) (x1 : Int32) : Option (Int32) :=
  if (V 7 i0 14) &&& (1 <<< (x1 &&& 31)) = 0 then (some 0) else (some 1)
def rm_X2_isEmptyPlace : Room := { frames := 0, cells := 0, slots := 0, locals := 0 }
set_option maxRecDepth 20000 in
set_option maxHeartbeats 4000000 in
theorem c_X2_isEmptyPlace {l : Launch} {D : va_G} {ad : Nat → Nat → Nat → Nat} {cI cZ cP : ClassId} {A : Nat → Prop} {w : Nat} (hw : w < 2) {G V U : MT} {i0 : Nat} {x1 : Int32} {r : Int32}  (hi0 : i0 < 24) (hF : f_X2_isEmptyPlace V i0 x1 = some r) : Met l yX2_isEmptyPlace (.code yX2_isEmptyPlace cX2_isEmptyPlace 2 (some .boolean) :: WM) rm_X2_isEmptyPlace (PcM D ad cI cZ cP A [.ref (ad w 7 i0), .int x1] (Pic D ad cI cZ cP w G V U)) (QcI A r (Pic D ad cI cZ cP w G V U)) 0 0 A := by
  refine m_entry (by decide) (Nat.le_of_ble_eq_true rfl) (fun p e s m below meth c ls X hP hS hl => ?_)
  have X : MX p s m _ meth c cX2_isEmptyPlace RX2 2 (some .boolean) D ad cI cZ cP A := X
  obtain ⟨hx, hb, hml, hown, htm, hr, hlk, hE⟩ := id X
  have hl : lv_has ls 2 [(0, .ref (ad w 7 i0)), (1, .int x1)] := hl
  refine lv_aload_n hx hb dX2_isEmptyPlace_0 rfl (lv_at hl 0 rfl) ?_
  refine gf_7_14 hx hb htm hown hE hP hw hi0 (htm _ qw_61) dX2_isEmptyPlace_1 ?_
  refine lv_iconst (v := 1) hx hb dX2_isEmptyPlace_4 (by decide) ?_
  refine lv_iload_n hx hb dX2_isEmptyPlace_5 rfl (lv_at hl 1 rfl) ?_
  refine lv_ishl hx hb dX2_isEmptyPlace_6 ?_
  refine lv_iand hx hb dX2_isEmptyPlace_7 ?_
  refine lv_if_eq (tgt := 15) hx hb dX2_isEmptyPlace_8 (by decide) (fun c1 => ?_) (fun c1 => ?_)
  · have hF := ite_T c1 hF
    refine lv_iconst (v := 0) hx hb dX2_isEmptyPlace_15 (by decide) ?_
    cases hF
    exact m_zret X hS hP rfl (Or.inl rfl) dX2_isEmptyPlace_16
  · have hF := ite_F c1 hF
    refine lv_iconst (v := 1) hx hb dX2_isEmptyPlace_11 (by decide) ?_
    refine lv_goto (tgt := 16) hx hb dX2_isEmptyPlace_12 (by decide) ?_
    cases hF
    exact m_zret X hS hP rfl (Or.inr rfl) dX2_isEmptyPlace_16
def f_X2_localAt (V : MT) (i0 : Nat) (x1 : Int32) : Option (Int32) :=
  (f_X6_isWithin x1 0 3).bind (fun q1_ => if q1_ = 0 then (some 0) else (if ¬ (x1 < 0 ∨ 4 ≤ Int32.toNatClampNeg x1) then (some (V 8 i0 (Int32.toNatClampNeg x1))) else none))
def rm_X2_localAt : Room := { frames := 1, cells := 0, slots := 0, locals := 22 }
set_option maxRecDepth 20000 in
set_option maxHeartbeats 4000000 in
theorem c_X2_localAt {l : Launch} {D : va_G} {ad : Nat → Nat → Nat → Nat} {cI cZ cP : ClassId} {A : Nat → Prop} {w : Nat} (hw : w < 2) {G V U : MT} {i0 : Nat} {x1 : Int32} {r : Int32}  (hi0 : i0 < 24) (hF : f_X2_localAt V i0 x1 = some r) : Met l yX2_localAt (.code yX2_localAt cX2_localAt 2 (some .int) :: WM) rm_X2_localAt (PcM D ad cI cZ cP A [.ref (ad w 7 i0), .int x1] (Pic D ad cI cZ cP w G V U)) (QcI A r (Pic D ad cI cZ cP w G V U)) 0 0 A := by
  refine m_entry (by decide) (Nat.le_of_ble_eq_true rfl) (fun p e s m below meth c ls X hP hS hl => ?_)
  have X : MX p s m _ meth c cX2_localAt RX2 2 (some .int) D ad cI cZ cP A := X
  obtain ⟨hx, hb, hml, hown, htm, hr, hlk, hE⟩ := id X
  have hl : lv_has ls 2 [(0, .ref (ad w 7 i0)), (1, .int x1)] := hl
  refine lv_iload_n hx hb dX2_localAt_0 rfl (lv_at hl 1 rfl) ?_
  refine lv_iconst (v := 0) hx hb dX2_localAt_1 (by decide) ?_
  refine lv_iconst (v := 3) hx hb dX2_localAt_2 (by decide) ?_
  obtain ⟨r1, hc1, hF⟩ := ob_S hF
  refine m_cNi X hS sw_X6_isWithin nst_2 (c_X6_isWithin hc1) ⟨rfl, rfl⟩ ⟨Nat.le_of_ble_eq_true rfl, Nat.le_of_ble_eq_true rfl⟩ hP rfl hl.1 (rest := []) rfl (Nat.le_of_ble_eq_true rfl) dX2_localAt_3 (fun H locs hP hS => ?_)
  refine lv_if_eq (tgt := 18) hx hb dX2_localAt_6 (by decide) (fun c2 => ?_) (fun c2 => ?_)
  · have hF := ite_T c2 hF
    refine lv_iconst (v := 0) hx hb dX2_localAt_18 (by decide) ?_
    cases hF
    exact m_iret X hS hP rfl dX2_localAt_19
  · have hF := ite_F c2 hF
    refine lv_aload_n hx hb dX2_localAt_9 rfl (lv_at hl 0 rfl) ?_
    refine gf_7_15 hx hb htm hown hE hP hw hi0 (htm _ qw_42) dX2_localAt_10 ?_
    refine lv_iload_n hx hb dX2_localAt_13 rfl (lv_at hl 1 rfl) ?_
    obtain ⟨hn3, hF⟩ := ite_S hF
    refine al_8 hx hb htm hown hE hP hw hi0 hn3 dX2_localAt_14 ?_
    refine lv_goto (tgt := 19) hx hb dX2_localAt_15 (by decide) ?_
    cases hF
    exact m_iret X hS hP rfl dX2_localAt_19
def f_X2_putLocal (V : MT) (i0 : Nat) (x1 : Int32) (x2 : Int32) : Option (MT) :=
  (f_X6_isWithin x1 0 3).bind (fun q1_ => if q1_ = 0 then (some V) else (if ¬ (x1 < 0 ∨ 4 ≤ Int32.toNatClampNeg x1) then (some (pt V 8 i0 (Int32.toNatClampNeg x1) x2)) else none))
def rm_X2_putLocal : Room := { frames := 1, cells := 0, slots := 0, locals := 22 }
set_option maxRecDepth 20000 in
set_option maxHeartbeats 4000000 in
theorem c_X2_putLocal {l : Launch} {D : va_G} {ad : Nat → Nat → Nat → Nat} {cI cZ cP : ClassId} {A : Nat → Prop} {w : Nat} (hw : w < 2) {G V U : MT} {i0 : Nat} {x1 : Int32} {x2 : Int32} {V' : MT}  (hi0 : i0 < 24) (hF : f_X2_putLocal V i0 x1 x2 = some V') : Met l yX2_putLocal (.code yX2_putLocal cX2_putLocal 3 none :: WM) rm_X2_putLocal (PcM D ad cI cZ cP A [.ref (ad w 7 i0), .int x1, .int x2] (Pic D ad cI cZ cP w G V U)) (QcV A (Pic D ad cI cZ cP w G V' U)) 0 0 A := by
  refine m_entry (by decide) (Nat.le_of_ble_eq_true rfl) (fun p e s m below meth c ls X hP hS hl => ?_)
  have X : MX p s m _ meth c cX2_putLocal RX2 3 none D ad cI cZ cP A := X
  obtain ⟨hx, hb, hml, hown, htm, hr, hlk, hE⟩ := id X
  have hl : lv_has ls 3 [(0, .ref (ad w 7 i0)), (1, .int x1), (2, .int x2)] := hl
  refine lv_iload_n hx hb dX2_putLocal_0 rfl (lv_at hl 1 rfl) ?_
  refine lv_iconst (v := 0) hx hb dX2_putLocal_1 (by decide) ?_
  refine lv_iconst (v := 3) hx hb dX2_putLocal_2 (by decide) ?_
  obtain ⟨r1, hc1, hF⟩ := ob_S hF
  refine m_cNi X hS sw_X6_isWithin nst_2 (c_X6_isWithin hc1) ⟨rfl, rfl⟩ ⟨Nat.le_of_ble_eq_true rfl, Nat.le_of_ble_eq_true rfl⟩ hP rfl hl.1 (rest := []) rfl (Nat.le_of_ble_eq_true rfl) dX2_putLocal_3 (fun H locs hP hS => ?_)
  refine lv_if_eq (tgt := 16) hx hb dX2_putLocal_6 (by decide) (fun c2 => ?_) (fun c2 => ?_)
  · have hF := ite_T c2 hF
    cases hF
    exact m_vret X hS hP dX2_putLocal_16
  · have hF := ite_F c2 hF
    refine lv_aload_n hx hb dX2_putLocal_9 rfl (lv_at hl 0 rfl) ?_
    refine gf_7_15 hx hb htm hown hE hP hw hi0 (htm _ qw_42) dX2_putLocal_10 ?_
    refine lv_iload_n hx hb dX2_putLocal_13 rfl (lv_at hl 1 rfl) ?_
    refine lv_iload_n hx hb dX2_putLocal_14 rfl (lv_at hl 2 rfl) ?_
    obtain ⟨hn3, hF⟩ := ite_S hF
    refine as_8 hx hb htm hown hE hP hS hw hi0 hn3 dX2_putLocal_15 (fun H locs hP hS => ?_)
    cases hF
    exact m_vret X hS hP dX2_putLocal_16
def f_X2_hold (V : MT) (i0 : Nat) (x1 : Int32) : Option (MT) :=
  some (pt V 7 i0 7 (if (-9999) < if x1 < 9999 then x1 else 9999 then if x1 < 9999 then x1 else 9999 else (-9999)))
def rm_X2_hold : Room := { frames := 1, cells := 0, slots := 0, locals := 22 }
set_option maxRecDepth 20000 in
set_option maxHeartbeats 4000000 in
theorem c_X2_hold {l : Launch} {D : va_G} {ad : Nat → Nat → Nat → Nat} {cI cZ cP : ClassId} {A : Nat → Prop} {w : Nat} (hw : w < 2) {G V U : MT} {i0 : Nat} {x1 : Int32} {V' : MT}  (hi0 : i0 < 24) (hF : f_X2_hold V i0 x1 = some V') : Met l yX2_hold (.code yX2_hold cX2_hold 2 none :: WM) rm_X2_hold (PcM D ad cI cZ cP A [.ref (ad w 7 i0), .int x1] (Pic D ad cI cZ cP w G V U)) (QcV A (Pic D ad cI cZ cP w G V' U)) 0 0 A := by
  refine m_entry (by decide) (Nat.le_of_ble_eq_true rfl) (fun p e s m below meth c ls X hP hS hl => ?_)
  have X : MX p s m _ meth c cX2_hold RX2 2 none D ad cI cZ cP A := X
  obtain ⟨hx, hb, hml, hown, htm, hr, hlk, hE⟩ := id X
  have hl : lv_has ls 2 [(0, .ref (ad w 7 i0)), (1, .int x1)] := hl
  refine lv_aload_n hx hb dX2_hold_0 rfl (lv_at hl 0 rfl) ?_
  refine lv_sipush (v := (-9999)) hx hb dX2_hold_1 (by decide) ?_
  refine lv_sipush (v := 9999) hx hb dX2_hold_4 (by decide) ?_
  refine lv_iload_n hx hb dX2_hold_7 rfl (lv_at hl 1 rfl) ?_
  refine va_mmin hx hb (hml.trans hl.1.symm) hown (htm _ qw_75) (htm _ qw_76) (htm _ qw_77) (htm _ qw_78) (Nat.le_of_ble_eq_true rfl) (Nat.le_of_ble_eq_true rfl) (Nat.zero_le _) (Nat.zero_le _) dX2_hold_8 ?_
  refine va_mmax hx hb (hml.trans hl.1.symm) hown (htm _ qw_79) (htm _ qw_80) (htm _ qw_77) (htm _ qw_81) (Nat.le_of_ble_eq_true rfl) (Nat.le_of_ble_eq_true rfl) (Nat.zero_le _) (Nat.zero_le _) dX2_hold_11 ?_
  refine pf_7_7 hx hb htm hown hE hP hS hw hi0 (htm _ qw_56) dX2_hold_14 (fun H locs hP hS => ?_)
  cases hF
  exact m_vret X hS hP dX2_hold_17
def f_X2_takeMail (V : MT) (i0 : Nat) (x1 : Int32) : Option (Int32 × MT) :=
  (f_X0_firstOf V i0 x1).bind (fun q1_ => if q1_ = (-1) then (some (0, V)) else ((f_X0_takeOut V i0 q1_).bind (fun q3_ => (f_X2_hold q3_.2 i0 q3_.1).bind (fun q4_ => some (1, q4_)))))
def rm_X2_takeMail : Room := { frames := 2, cells := 0, slots := 0, locals := 45 }
set_option maxRecDepth 20000 in
set_option maxHeartbeats 4000000 in
theorem c_X2_takeMail {l : Launch} {D : va_G} {ad : Nat → Nat → Nat → Nat} {cI cZ cP : ClassId} {A : Nat → Prop} {w : Nat} (hw : w < 2) {G V U : MT} {i0 : Nat} {x1 : Int32} {r : Int32} {V' : MT}  (hi0 : i0 < 24) (hF : f_X2_takeMail V i0 x1 = some (r, V')) : Met l yX2_takeMail (.code yX2_takeMail cX2_takeMail 3 (some .boolean) :: WM) rm_X2_takeMail (PcM D ad cI cZ cP A [.ref (ad w 7 i0), .int x1] (Pic D ad cI cZ cP w G V U)) (QcI A r (Pic D ad cI cZ cP w G V' U)) 0 0 A := by
  refine m_entry (by decide) (Nat.le_of_ble_eq_true rfl) (fun p e s m below meth c ls X hP hS hl => ?_)
  have X : MX p s m _ meth c cX2_takeMail RX2 3 (some .boolean) D ad cI cZ cP A := X
  obtain ⟨hx, hb, hml, hown, htm, hr, hlk, hE⟩ := id X
  have hl : lv_has ls 3 [(0, .ref (ad w 7 i0)), (1, .int x1)] := hl
  refine lv_aload_n hx hb dX2_takeMail_0 rfl (lv_at hl 0 rfl) ?_
  refine gf_7_17 hx hb htm hown hE hP hw hi0 (htm _ qw_45) dX2_takeMail_1 ?_
  refine lv_iload_n hx hb dX2_takeMail_4 rfl (lv_at hl 1 rfl) ?_
  obtain ⟨r1, hc1, hF⟩ := ob_S hF
  refine m_cVi X hS vw_X0_firstOf qw_83 (c_X0_firstOf hw hi0 hc1) ⟨rfl, rfl⟩ ⟨Nat.le_of_ble_eq_true rfl, Nat.le_of_ble_eq_true rfl⟩ (rc_10 hE hP hw hi0) hP rfl hl.1 (rest := []) rfl (Nat.le_of_ble_eq_true rfl) dX2_takeMail_5 (fun H locs hP hS => ?_)
  refine lv_istore_n (lv' := [(2, .int r1), (0, .ref (ad w 7 i0)), (1, .int x1)]) hx hb dX2_takeMail_8 rfl hl (by decide) rfl (fun ls hl => ?_)
  refine lv_iload_n hx hb dX2_takeMail_9 rfl (lv_at hl 0 rfl) ?_
  refine lv_iconst (v := (-1)) hx hb dX2_takeMail_10 (by decide) ?_
  refine lv_icmp_ne (tgt := 16) hx hb dX2_takeMail_11 (by decide) (fun c2 => ?_) (fun c2 => ?_)
  · have hF := ite_F c2 hF
    refine lv_aload_n hx hb dX2_takeMail_16 rfl (lv_at hl 1 rfl) ?_
    refine lv_aload_n hx hb dX2_takeMail_17 rfl (lv_at hl 1 rfl) ?_
    refine gf_7_17 hx hb htm hown hE hP hw hi0 (htm _ qw_45) dX2_takeMail_18 ?_
    refine lv_iload_n hx hb dX2_takeMail_21 rfl (lv_at hl 0 rfl) ?_
    obtain ⟨⟨r3, V3⟩, hc3, hF⟩ := ob_S hF
    refine m_cVi X hS vw_X0_takeOut qw_86 (c_X0_takeOut hw hi0 hc3) ⟨rfl, rfl⟩ ⟨Nat.le_of_ble_eq_true rfl, Nat.le_of_ble_eq_true rfl⟩ (rc_10 hE hP hw hi0) hP rfl hl.1 (rest := [.ref (ad w 7 i0)]) rfl (Nat.le_of_ble_eq_true rfl) dX2_takeMail_22 (fun H locs hP hS => ?_)
    obtain ⟨V4, hc4, hF⟩ := ob_S hF
    refine m_cVv X hS vw_X2_hold qw_89 (c_X2_hold hw hi0 hc4) ⟨rfl, rfl⟩ ⟨Nat.le_of_ble_eq_true rfl, Nat.le_of_ble_eq_true rfl⟩ (rc_7 hE hP hw hi0) hP rfl hl.1 (rest := []) rfl (Nat.le_of_ble_eq_true rfl) dX2_takeMail_25 (fun H locs hP hS => ?_)
    refine lv_iconst (v := 1) hx hb dX2_takeMail_28 (by decide) ?_
    cases hF
    exact m_zret X hS hP rfl (Or.inr rfl) dX2_takeMail_29
  · have hF := ite_T c2 hF
    refine lv_iconst (v := 0) hx hb dX2_takeMail_14 (by decide) ?_
    cases hF
    exact m_zret X hS hP rfl (Or.inl rfl) dX2_takeMail_15
def f_X2_waitFor (V : MT) (i0 : Nat) (x1 : Int32) (x2 : Int32) : Option (MT) :=
  some (pt (pt (pt V 7 i0 5 1) 7 i0 10 x1) 7 i0 9 x2)
def rm_X2_waitFor : Room := { frames := 0, cells := 0, slots := 0, locals := 0 }
set_option maxRecDepth 20000 in
set_option maxHeartbeats 4000000 in
theorem c_X2_waitFor {l : Launch} {D : va_G} {ad : Nat → Nat → Nat → Nat} {cI cZ cP : ClassId} {A : Nat → Prop} {w : Nat} (hw : w < 2) {G V U : MT} {i0 : Nat} {x1 : Int32} {x2 : Int32} {V' : MT}  (hi0 : i0 < 24) (hF : f_X2_waitFor V i0 x1 x2 = some V') : Met l yX2_waitFor (.code yX2_waitFor cX2_waitFor 3 none :: WM) rm_X2_waitFor (PcM D ad cI cZ cP A [.ref (ad w 7 i0), .int x1, .int x2] (Pic D ad cI cZ cP w G V U)) (QcV A (Pic D ad cI cZ cP w G V' U)) 0 0 A := by
  refine m_entry (by decide) (Nat.le_of_ble_eq_true rfl) (fun p e s m below meth c ls X hP hS hl => ?_)
  have X : MX p s m _ meth c cX2_waitFor RX2 3 none D ad cI cZ cP A := X
  obtain ⟨hx, hb, hml, hown, htm, hr, hlk, hE⟩ := id X
  have hl : lv_has ls 3 [(0, .ref (ad w 7 i0)), (1, .int x1), (2, .int x2)] := hl
  refine lv_aload_n hx hb dX2_waitFor_0 rfl (lv_at hl 0 rfl) ?_
  refine lv_iconst (v := 1) hx hb dX2_waitFor_1 (by decide) ?_
  refine pf_7_5 hx hb htm hown hE hP hS hw hi0 (htm _ qw_38) dX2_waitFor_2 (fun H locs hP hS => ?_)
  refine lv_aload_n hx hb dX2_waitFor_5 rfl (lv_at hl 0 rfl) ?_
  refine lv_iload_n hx hb dX2_waitFor_6 rfl (lv_at hl 1 rfl) ?_
  refine pf_7_10 hx hb htm hown hE hP hS hw hi0 (htm _ qw_41) dX2_waitFor_7 (fun H locs hP hS => ?_)
  refine lv_aload_n hx hb dX2_waitFor_10 rfl (lv_at hl 0 rfl) ?_
  refine lv_iload_n hx hb dX2_waitFor_11 rfl (lv_at hl 2 rfl) ?_
  refine pf_7_9 hx hb htm hown hE hP hS hw hi0 (htm _ qw_40) dX2_waitFor_12 (fun H locs hP hS => ?_)
  cases hF
  exact m_vret X hS hP dX2_waitFor_15
def f_X2_waitsForMail (V : MT) (i0 : Nat) (x1 : Int32) : Option (Int32) :=
  if V 7 i0 5 = 1 then (if V 7 i0 10 = x1 then (some 1) else (if V 7 i0 10 = 4 then (some 1) else (some 0))) else (some 0)
def rm_X2_waitsForMail : Room := { frames := 0, cells := 0, slots := 0, locals := 0 }
set_option maxRecDepth 20000 in
set_option maxHeartbeats 4000000 in
theorem c_X2_waitsForMail {l : Launch} {D : va_G} {ad : Nat → Nat → Nat → Nat} {cI cZ cP : ClassId} {A : Nat → Prop} {w : Nat} (hw : w < 2) {G V U : MT} {i0 : Nat} {x1 : Int32} {r : Int32}  (hi0 : i0 < 24) (hF : f_X2_waitsForMail V i0 x1 = some r) : Met l yX2_waitsForMail (.code yX2_waitsForMail cX2_waitsForMail 2 (some .boolean) :: WM) rm_X2_waitsForMail (PcM D ad cI cZ cP A [.ref (ad w 7 i0), .int x1] (Pic D ad cI cZ cP w G V U)) (QcI A r (Pic D ad cI cZ cP w G V U)) 0 0 A := by
  refine m_entry (by decide) (Nat.le_of_ble_eq_true rfl) (fun p e s m below meth c ls X hP hS hl => ?_)
  have X : MX p s m _ meth c cX2_waitsForMail RX2 2 (some .boolean) D ad cI cZ cP A := X
  obtain ⟨hx, hb, hml, hown, htm, hr, hlk, hE⟩ := id X
  have hl : lv_has ls 2 [(0, .ref (ad w 7 i0)), (1, .int x1)] := hl
  refine lv_aload_n hx hb dX2_waitsForMail_0 rfl (lv_at hl 0 rfl) ?_
  refine gf_7_5 hx hb htm hown hE hP hw hi0 (htm _ qw_38) dX2_waitsForMail_1 ?_
  refine lv_iconst (v := 1) hx hb dX2_waitsForMail_4 (by decide) ?_
  refine lv_icmp_ne (tgt := 28) hx hb dX2_waitsForMail_5 (by decide) (fun c1 => ?_) (fun c1 => ?_)
  · have hF := ite_F c1 hF
    refine lv_iconst (v := 0) hx hb dX2_waitsForMail_28 (by decide) ?_
    cases hF
    exact m_zret X hS hP rfl (Or.inl rfl) dX2_waitsForMail_29
  · have hF := ite_T c1 hF
    refine lv_aload_n hx hb dX2_waitsForMail_8 rfl (lv_at hl 0 rfl) ?_
    refine gf_7_10 hx hb htm hown hE hP hw hi0 (htm _ qw_41) dX2_waitsForMail_9 ?_
    refine lv_iload_n hx hb dX2_waitsForMail_12 rfl (lv_at hl 1 rfl) ?_
    refine lv_icmp_eq (tgt := 24) hx hb dX2_waitsForMail_13 (by decide) (fun c2 => ?_) (fun c2 => ?_)
    · have hF := ite_T c2 hF
      refine lv_iconst (v := 1) hx hb dX2_waitsForMail_24 (by decide) ?_
      refine lv_goto (tgt := 29) hx hb dX2_waitsForMail_25 (by decide) ?_
      cases hF
      exact m_zret X hS hP rfl (Or.inr rfl) dX2_waitsForMail_29
    · have hF := ite_F c2 hF
      refine lv_aload_n hx hb dX2_waitsForMail_16 rfl (lv_at hl 0 rfl) ?_
      refine gf_7_10 hx hb htm hown hE hP hw hi0 (htm _ qw_41) dX2_waitsForMail_17 ?_
      refine lv_iconst (v := 4) hx hb dX2_waitsForMail_20 (by decide) ?_
      refine lv_icmp_ne (tgt := 28) hx hb dX2_waitsForMail_21 (by decide) (fun c3 => ?_) (fun c3 => ?_)
      · have hF := ite_F c3 hF
        refine lv_iconst (v := 0) hx hb dX2_waitsForMail_28 (by decide) ?_
        cases hF
        exact m_zret X hS hP rfl (Or.inl rfl) dX2_waitsForMail_29
      · have hF := ite_T c3 hF
        refine lv_iconst (v := 1) hx hb dX2_waitsForMail_24 (by decide) ?_
        refine lv_goto (tgt := 29) hx hb dX2_waitsForMail_25 (by decide) ?_
        cases hF
        exact m_zret X hS hP rfl (Or.inr rfl) dX2_waitsForMail_29
def f_X2_resume (V : MT) (i0 : Nat) : Option (MT) :=
  if V 7 i0 10 = (-1) then (some V) else (if V 7 i0 10 = 5 then (some (pt (pt V 7 i0 10 (-1)) 7 i0 8 (((pt V 7 i0 10 (-1)) 7 i0 8) + 1))) else ((f_X2_takeMail V i0 (V 7 i0 10)).bind (fun q3_ => if q3_.1 = 0 then (some (pt (pt (pt q3_.2 7 i0 7 (-1)) 7 i0 10 (-1)) 7 i0 8 (((pt (pt q3_.2 7 i0 7 (-1)) 7 i0 10 (-1)) 7 i0 8) + 1))) else (some (pt (pt q3_.2 7 i0 10 (-1)) 7 i0 8 (((pt q3_.2 7 i0 10 (-1)) 7 i0 8) + 1))))))
def rm_X2_resume : Room := { frames := 3, cells := 0, slots := 0, locals := 67 }
set_option maxRecDepth 20000 in
set_option maxHeartbeats 4000000 in
theorem c_X2_resume {l : Launch} {D : va_G} {ad : Nat → Nat → Nat → Nat} {cI cZ cP : ClassId} {A : Nat → Prop} {w : Nat} (hw : w < 2) {G V U : MT} {i0 : Nat} {V' : MT}  (hi0 : i0 < 24) (hF : f_X2_resume V i0 = some V') : Met l yX2_resume (.code yX2_resume cX2_resume 1 none :: WM) rm_X2_resume (PcM D ad cI cZ cP A [.ref (ad w 7 i0)] (Pic D ad cI cZ cP w G V U)) (QcV A (Pic D ad cI cZ cP w G V' U)) 0 0 A := by
  refine m_entry (by decide) (Nat.le_of_ble_eq_true rfl) (fun p e s m below meth c ls X hP hS hl => ?_)
  have X : MX p s m _ meth c cX2_resume RX2 1 none D ad cI cZ cP A := X
  obtain ⟨hx, hb, hml, hown, htm, hr, hlk, hE⟩ := id X
  have hl : lv_has ls 1 [(0, .ref (ad w 7 i0))] := hl
  refine lv_aload_n hx hb dX2_resume_0 rfl (lv_at hl 0 rfl) ?_
  refine gf_7_10 hx hb htm hown hE hP hw hi0 (htm _ qw_41) dX2_resume_1 ?_
  refine lv_iconst (v := (-1)) hx hb dX2_resume_4 (by decide) ?_
  refine lv_icmp_ne (tgt := 9) hx hb dX2_resume_5 (by decide) (fun c1 => ?_) (fun c1 => ?_)
  · have hF := ite_F c1 hF
    refine lv_aload_n hx hb dX2_resume_9 rfl (lv_at hl 0 rfl) ?_
    refine gf_7_10 hx hb htm hown hE hP hw hi0 (htm _ qw_41) dX2_resume_10 ?_
    refine lv_iconst (v := 5) hx hb dX2_resume_13 (by decide) ?_
    refine lv_icmp_eq (tgt := 33) hx hb dX2_resume_14 (by decide) (fun c2 => ?_) (fun c2 => ?_)
    · have hF := ite_T c2 hF
      refine lv_aload_n hx hb dX2_resume_33 rfl (lv_at hl 0 rfl) ?_
      refine lv_iconst (v := (-1)) hx hb dX2_resume_34 (by decide) ?_
      refine pf_7_10 hx hb htm hown hE hP hS hw hi0 (htm _ qw_41) dX2_resume_35 (fun H locs hP hS => ?_)
      refine lv_aload_n hx hb dX2_resume_38 rfl (lv_at hl 0 rfl) ?_
      refine lv_dup hx hb dX2_resume_39 rfl ?_
      refine gf_7_8 hx hb htm hown hE hP hw hi0 (htm _ qw_57) dX2_resume_40 ?_
      refine lv_iconst (v := 1) hx hb dX2_resume_43 (by decide) ?_
      refine lv_iadd hx hb dX2_resume_44 ?_
      refine pf_7_8 hx hb htm hown hE hP hS hw hi0 (htm _ qw_57) dX2_resume_45 (fun H locs hP hS => ?_)
      cases hF
      exact m_vret X hS hP dX2_resume_48
    · have hF := ite_F c2 hF
      refine lv_aload_n hx hb dX2_resume_17 rfl (lv_at hl 0 rfl) ?_
      refine lv_aload_n hx hb dX2_resume_18 rfl (lv_at hl 0 rfl) ?_
      refine gf_7_10 hx hb htm hown hE hP hw hi0 (htm _ qw_41) dX2_resume_19 ?_
      obtain ⟨⟨r3, V3⟩, hc3, hF⟩ := ob_S hF
      refine m_cVi X hS vw_X2_takeMail qw_96 (c_X2_takeMail hw hi0 hc3) ⟨rfl, rfl⟩ ⟨Nat.le_of_ble_eq_true rfl, Nat.le_of_ble_eq_true rfl⟩ (rc_7 hE hP hw hi0) hP rfl hl.1 (rest := []) rfl (Nat.le_of_ble_eq_true rfl) dX2_resume_22 (fun H locs hP hS => ?_)
      refine lv_if_ne (tgt := 33) hx hb dX2_resume_25 (by decide) (fun c4 => ?_) (fun c4 => ?_)
      · have hF := ite_F c4 hF
        refine lv_aload_n hx hb dX2_resume_33 rfl (lv_at hl 0 rfl) ?_
        refine lv_iconst (v := (-1)) hx hb dX2_resume_34 (by decide) ?_
        refine pf_7_10 hx hb htm hown hE hP hS hw hi0 (htm _ qw_41) dX2_resume_35 (fun H locs hP hS => ?_)
        refine lv_aload_n hx hb dX2_resume_38 rfl (lv_at hl 0 rfl) ?_
        refine lv_dup hx hb dX2_resume_39 rfl ?_
        refine gf_7_8 hx hb htm hown hE hP hw hi0 (htm _ qw_57) dX2_resume_40 ?_
        refine lv_iconst (v := 1) hx hb dX2_resume_43 (by decide) ?_
        refine lv_iadd hx hb dX2_resume_44 ?_
        refine pf_7_8 hx hb htm hown hE hP hS hw hi0 (htm _ qw_57) dX2_resume_45 (fun H locs hP hS => ?_)
        cases hF
        exact m_vret X hS hP dX2_resume_48
      · have hF := ite_T c4 hF
        refine lv_aload_n hx hb dX2_resume_28 rfl (lv_at hl 0 rfl) ?_
        refine lv_iconst (v := (-1)) hx hb dX2_resume_29 (by decide) ?_
        refine pf_7_7 hx hb htm hown hE hP hS hw hi0 (htm _ qw_56) dX2_resume_30 (fun H locs hP hS => ?_)
        refine lv_aload_n hx hb dX2_resume_33 rfl (lv_at hl 0 rfl) ?_
        refine lv_iconst (v := (-1)) hx hb dX2_resume_34 (by decide) ?_
        refine pf_7_10 hx hb htm hown hE hP hS hw hi0 (htm _ qw_41) dX2_resume_35 (fun H locs hP hS => ?_)
        refine lv_aload_n hx hb dX2_resume_38 rfl (lv_at hl 0 rfl) ?_
        refine lv_dup hx hb dX2_resume_39 rfl ?_
        refine gf_7_8 hx hb htm hown hE hP hw hi0 (htm _ qw_57) dX2_resume_40 ?_
        refine lv_iconst (v := 1) hx hb dX2_resume_43 (by decide) ?_
        refine lv_iadd hx hb dX2_resume_44 ?_
        refine pf_7_8 hx hb htm hown hE hP hS hw hi0 (htm _ qw_57) dX2_resume_45 (fun H locs hP hS => ?_)
        cases hF
        exact m_vret X hS hP dX2_resume_48
  · have hF := ite_T c1 hF
    cases hF
    exact m_vret X hS hP dX2_resume_8
def f_X2_placeOf_2 (V : MT) : Nat → Nat → Int32 → Int32 → Option (Int32)
  | 0, _, _, _ => none
  | n + 1, j0, y1, y2 => if 4 ≤ y2 then (some (-1)) else (if ¬ (y2 < 0 ∨ 4 ≤ Int32.toNatClampNeg y2) then (if V 9 j0 (Int32.toNatClampNeg y2) = y1 then (some y2) else ((f_X2_placeOf_2 V n) j0 y1 (y2 + 1))) else none)
def f_X2_placeOf (V : MT) (i0 : Nat) (x1 : Int32) : Option (Int32) :=
  f_X2_placeOf_2 V  30 i0 x1 0
def rm_X2_placeOf : Room := { frames := 0, cells := 0, slots := 0, locals := 0 }
set_option maxRecDepth 20000 in
set_option maxHeartbeats 4000000 in
theorem l_X2_placeOf_2 {p : Program} {l : Launch} {e : Env} {s : State} {m : MethodId} {args : Array Value} {below : List Frame} {meth : Method} {c : Code} {D : va_G} {ad : Nat → Nat → Nat → Nat} {cI cZ cP : ClassId} {A : Nat → Prop} {G V U : MT} {r : Int32} (X : MX p s m args meth c cX2_placeOf RX2 3 (some .int) D ad cI cZ cP A) {w : Nat} (hw : w < 2) (n : Nat) : ∀ {H : Heap} {locs : List Loc} {ls : Array Slot} (j0 : Nat) (y1 : Int32) (y2 : Int32), j0 < 24 → Pic D ad cI cZ cP w G V U H → va_S A s.heap H locs → lv_has ls 3 [(0, .ref (ad w 7 j0)), (1, .int y1), (2, .int y2)] → f_X2_placeOf_2 V n j0 y1 y2 = some r → W p l e rm_X2_placeOf s m args below meth c H locs 0 0 (MQ below (QcI A r (Pic D ad cI cZ cP w G V U)) args s 0 0 A) (F0 m 2 ls []) := by
  obtain ⟨hx, hb, hml, hown, htm, hr, hlk, hE⟩ := id X
  induction n with
  | zero =>
    intros
    exact ns_S (by assumption)
  | succ n ih2 =>
    intro H locs ls j0 y1 y2 hj0  hP hS hl hF
    rw [f_X2_placeOf_2] at hF
    refine lv_iload_n hx hb dX2_placeOf_2 rfl (lv_at hl 2 rfl) ?_
    refine lv_iconst (v := 4) hx hb dX2_placeOf_3 (by decide) ?_
    refine lv_icmp_ge (tgt := 25) hx hb dX2_placeOf_4 (by decide) (fun c1 => ?_) (fun c1 => ?_)
    · have hF := ite_T c1 hF
      refine lv_iconst (v := (-1)) hx hb dX2_placeOf_25 (by decide) ?_
      cases hF
      exact m_iret X hS hP rfl dX2_placeOf_26
    · have hF := ite_F c1 hF
      refine lv_aload_n hx hb dX2_placeOf_7 rfl (lv_at hl 0 rfl) ?_
      refine gf_7_16 hx hb htm hown hE hP hw hj0 (htm _ qw_43) dX2_placeOf_8 ?_
      refine lv_iload_n hx hb dX2_placeOf_11 rfl (lv_at hl 2 rfl) ?_
      obtain ⟨hn2, hF⟩ := ite_S hF
      refine al_9 hx hb htm hown hE hP hw hj0 hn2 dX2_placeOf_12 ?_
      refine lv_iload_n hx hb dX2_placeOf_13 rfl (lv_at hl 1 rfl) ?_
      refine lv_icmp_ne (tgt := 19) hx hb dX2_placeOf_14 (by decide) (fun c3 => ?_) (fun c3 => ?_)
      · have hF := ite_F c3 hF
        refine lv_iinc (v := y2 + 1) (lv' := [(2, .int (y2 + 1)), (0, .ref (ad w 7 j0)), (1, .int y1)]) hx hb dX2_placeOf_19 hl (k := 2) rfl rfl (by decide) rfl (fun ls hl => ?_)
        refine lv_goto (tgt := 2) hx hb dX2_placeOf_22 (by decide) ?_
        exact ih2 _ _ _ hj0 hP hS (lv_sub hl [1, 2, 0] rfl) hF
      · have hF := ite_T c3 hF
        refine lv_iload_n hx hb dX2_placeOf_17 rfl (lv_at hl 2 rfl) ?_
        cases hF
        exact m_iret X hS hP rfl dX2_placeOf_18
set_option maxRecDepth 20000 in
set_option maxHeartbeats 4000000 in
theorem c_X2_placeOf {l : Launch} {D : va_G} {ad : Nat → Nat → Nat → Nat} {cI cZ cP : ClassId} {A : Nat → Prop} {w : Nat} (hw : w < 2) {G V U : MT} {i0 : Nat} {x1 : Int32} {r : Int32}  (hi0 : i0 < 24) (hF : f_X2_placeOf V i0 x1 = some r) : Met l yX2_placeOf (.code yX2_placeOf cX2_placeOf 3 (some .int) :: WM) rm_X2_placeOf (PcM D ad cI cZ cP A [.ref (ad w 7 i0), .int x1] (Pic D ad cI cZ cP w G V U)) (QcI A r (Pic D ad cI cZ cP w G V U)) 0 0 A := by
  refine m_entry (by decide) (Nat.le_of_ble_eq_true rfl) (fun p e s m below meth c ls X hP hS hl => ?_)
  have X : MX p s m _ meth c cX2_placeOf RX2 3 (some .int) D ad cI cZ cP A := X
  obtain ⟨hx, hb, hml, hown, htm, hr, hlk, hE⟩ := id X
  have hl : lv_has ls 3 [(0, .ref (ad w 7 i0)), (1, .int x1)] := hl
  refine lv_iconst (v := 0) hx hb dX2_placeOf_0 (by decide) ?_
  refine lv_istore_n (lv' := [(2, .int 0), (0, .ref (ad w 7 i0)), (1, .int x1)]) hx hb dX2_placeOf_1 rfl hl (by decide) rfl (fun ls hl => ?_)
  exact l_X2_placeOf_2 X hw  30 _ _ _ hi0 hP hS (lv_sub hl [1, 2, 0] rfl) hF
end
section
theorem vw_X5_procAt : VW RX5 yX5_procAt cX5_procAt 2 (some (.object "MailDen$Proc")) 1 := ⟨qw_188, qw_189, qw_177, qw_143, ⟨rfl, by decide, by decide, by decide +kernel⟩⟩
theorem vw_X5_living : VW RX5 yX5_living cX5_living 2 (some (.object "MailDen$Proc")) 1 := ⟨qw_192, qw_193, qw_177, qw_145, ⟨rfl, by decide, by decide, by decide +kernel⟩⟩
theorem vw_X5_currentOf : VW RX5 yX5_currentOf cX5_currentOf 2 (some .int) 1 := ⟨qw_309, qw_310, qw_177, qw_147, ⟨rfl, by decide, by decide, by decide +kernel⟩⟩
theorem vw_X5_holderOf : VW RX5 yX5_holderOf cX5_holderOf 2 (some .int) 1 := ⟨qw_277, qw_278, qw_177, qw_148, ⟨rfl, by decide, by decide, by decide +kernel⟩⟩
theorem vw_X5_comesOfModule : VW RX5 yX5_comesOfModule cX5_comesOfModule 4 (some (.object "MailDen$Proc")) 2 := ⟨qw_179, qw_180, qw_177, qw_154, ⟨rfl, by decide, by decide, by decide +kernel⟩⟩
def f_X5_procAt (G V : MT) (x1 : Int32) : Option (Option Nat) :=
  if x1 < 0 then (some none) else (if V 0 0 5 ≤ x1 then (some none) else (if 24 ≤ x1 then (some none) else (if ¬ (x1 < 0 ∨ 24 ≤ Int32.toNatClampNeg x1) then (some (some (Int32.toNatClampNeg x1))) else none)))
def rm_X5_procAt : Room := { frames := 0, cells := 0, slots := 0, locals := 0 }
set_option maxRecDepth 20000 in
set_option maxHeartbeats 4000000 in
theorem c_X5_procAt {l : Launch} {D : va_G} {ad : Nat → Nat → Nat → Nat} {cI cZ cP : ClassId} {A : Nat → Prop} {w : Nat} (hw : w < 2) {G V U : MT} {x1 : Int32} {r : Option Nat}  (hF : f_X5_procAt G V x1 = some r) : Met l yX5_procAt (.code yX5_procAt cX5_procAt 2 (some (.object "MailDen$Proc")) :: WM) rm_X5_procAt (PcM D ad cI cZ cP A [.ref (ad w 0 0), .int x1] (Pic D ad cI cZ cP w G V U)) (QcQ A (r.map (ad w 7)) (Pic D ad cI cZ cP w G V U)) 0 0 A := by
  refine m_entry (by decide) (Nat.le_of_ble_eq_true rfl) (fun p e s m below meth c ls X hP hS hl => ?_)
  have X : MX p s m _ meth c cX5_procAt RX5 2 (some (.object "MailDen$Proc")) D ad cI cZ cP A := X
  obtain ⟨hx, hb, hml, hown, htm, hr, hlk, hE⟩ := id X
  have hl : lv_has ls 2 [(0, .ref (ad w 0 0)), (1, .int x1)] := hl
  refine lv_iload_n hx hb dX5_procAt_0 rfl (lv_at hl 1 rfl) ?_
  refine lv_if_lt (tgt := 27) hx hb dX5_procAt_1 (by decide) (fun c1 => ?_) (fun c1 => ?_)
  · have hF := ite_T c1 hF
    refine lv_null hx hb dX5_procAt_27 ?_
    cases hF
    exact m_aretN X hS hP rfl dX5_procAt_28
  · have hF := ite_F c1 hF
    refine lv_iload_n hx hb dX5_procAt_4 rfl (lv_at hl 1 rfl) ?_
    refine lv_aload_n hx hb dX5_procAt_5 rfl (lv_at hl 0 rfl) ?_
    refine gf_0_5 hx hb htm hown hE hP hw (htm _ qw_129) dX5_procAt_6 ?_
    refine lv_icmp_ge (tgt := 27) hx hb dX5_procAt_9 (by decide) (fun c2 => ?_) (fun c2 => ?_)
    · have hF := ite_T c2 hF
      refine lv_null hx hb dX5_procAt_27 ?_
      cases hF
      exact m_aretN X hS hP rfl dX5_procAt_28
    · have hF := ite_F c2 hF
      refine lv_iload_n hx hb dX5_procAt_12 rfl (lv_at hl 1 rfl) ?_
      refine lv_bipush (v := 24) hx hb dX5_procAt_13 (by decide) ?_
      refine lv_icmp_ge (tgt := 27) hx hb dX5_procAt_15 (by decide) (fun c3 => ?_) (fun c3 => ?_)
      · have hF := ite_T c3 hF
        refine lv_null hx hb dX5_procAt_27 ?_
        cases hF
        exact m_aretN X hS hP rfl dX5_procAt_28
      · have hF := ite_F c3 hF
        refine lv_aload_n hx hb dX5_procAt_18 rfl (lv_at hl 0 rfl) ?_
        refine gf_0_4 hx hb htm hown hE hP hw (htm _ qw_121) dX5_procAt_19 ?_
        refine lv_iload_n hx hb dX5_procAt_22 rfl (lv_at hl 1 rfl) ?_
        obtain ⟨hn4, hF⟩ := ite_S hF
        refine mql hx hb htm hown hE hP hw hn4 dX5_procAt_23 ?_
        have hj5 : Int32.toNatClampNeg x1 < 24 := Nat.not_le.mp fun q => hn4 (Or.inr q)
        refine lv_goto (tgt := 28) hx hb dX5_procAt_24 (by decide) ?_
        cases hF
        exact m_aretR X hS hP rfl dX5_procAt_28
def f_X5_living (G V : MT) (x1 : Int32) : Option (Option Nat) :=
  if x1 < 0 then (some none) else (if V 0 0 5 ≤ x1 then (some none) else (if x1 < 24 then (if ¬ (x1 < 0 ∨ 24 ≤ Int32.toNatClampNeg x1) then (if V 7 (Int32.toNatClampNeg x1) 5 = 2 then (some none) else (if ¬ (x1 < 0 ∨ 24 ≤ Int32.toNatClampNeg x1) then (some (some (Int32.toNatClampNeg x1))) else none)) else none) else (some none)))
def rm_X5_living : Room := { frames := 0, cells := 0, slots := 0, locals := 0 }
set_option maxRecDepth 20000 in
set_option maxHeartbeats 4000000 in
theorem c_X5_living {l : Launch} {D : va_G} {ad : Nat → Nat → Nat → Nat} {cI cZ cP : ClassId} {A : Nat → Prop} {w : Nat} (hw : w < 2) {G V U : MT} {x1 : Int32} {r : Option Nat}  (hF : f_X5_living G V x1 = some r) : Met l yX5_living (.code yX5_living cX5_living 2 (some (.object "MailDen$Proc")) :: WM) rm_X5_living (PcM D ad cI cZ cP A [.ref (ad w 0 0), .int x1] (Pic D ad cI cZ cP w G V U)) (QcQ A (r.map (ad w 7)) (Pic D ad cI cZ cP w G V U)) 0 0 A := by
  refine m_entry (by decide) (Nat.le_of_ble_eq_true rfl) (fun p e s m below meth c ls X hP hS hl => ?_)
  have X : MX p s m _ meth c cX5_living RX5 2 (some (.object "MailDen$Proc")) D ad cI cZ cP A := X
  obtain ⟨hx, hb, hml, hown, htm, hr, hlk, hE⟩ := id X
  have hl : lv_has ls 2 [(0, .ref (ad w 0 0)), (1, .int x1)] := hl
  refine lv_iload_n hx hb dX5_living_0 rfl (lv_at hl 1 rfl) ?_
  refine lv_if_lt (tgt := 18) hx hb dX5_living_1 (by decide) (fun c1 => ?_) (fun c1 => ?_)
  · have hF := ite_T c1 hF
    refine lv_null hx hb dX5_living_18 ?_
    cases hF
    exact m_aretN X hS hP rfl dX5_living_19
  · have hF := ite_F c1 hF
    refine lv_iload_n hx hb dX5_living_4 rfl (lv_at hl 1 rfl) ?_
    refine lv_aload_n hx hb dX5_living_5 rfl (lv_at hl 0 rfl) ?_
    refine gf_0_5 hx hb htm hown hE hP hw (htm _ qw_129) dX5_living_6 ?_
    refine lv_icmp_ge (tgt := 18) hx hb dX5_living_9 (by decide) (fun c2 => ?_) (fun c2 => ?_)
    · have hF := ite_T c2 hF
      refine lv_null hx hb dX5_living_18 ?_
      cases hF
      exact m_aretN X hS hP rfl dX5_living_19
    · have hF := ite_F c2 hF
      refine lv_iload_n hx hb dX5_living_12 rfl (lv_at hl 1 rfl) ?_
      refine lv_bipush (v := 24) hx hb dX5_living_13 (by decide) ?_
      refine lv_icmp_lt (tgt := 20) hx hb dX5_living_15 (by decide) (fun c3 => ?_) (fun c3 => ?_)
      · have hF := ite_T c3 hF
        refine lv_aload_n hx hb dX5_living_20 rfl (lv_at hl 0 rfl) ?_
        refine gf_0_4 hx hb htm hown hE hP hw (htm _ qw_121) dX5_living_21 ?_
        refine lv_iload_n hx hb dX5_living_24 rfl (lv_at hl 1 rfl) ?_
        obtain ⟨hn4, hF⟩ := ite_S hF
        refine mql hx hb htm hown hE hP hw hn4 dX5_living_25 ?_
        have hj5 : Int32.toNatClampNeg x1 < 24 := Nat.not_le.mp fun q => hn4 (Or.inr q)
        refine gf_7_5 hx hb htm hown hE hP hw hj5 (htm _ qw_144) dX5_living_26 ?_
        refine lv_iconst (v := 2) hx hb dX5_living_29 (by decide) ?_
        refine lv_icmp_ne (tgt := 37) hx hb dX5_living_30 (by decide) (fun c6 => ?_) (fun c6 => ?_)
        · have hF := ite_F c6 hF
          refine lv_aload_n hx hb dX5_living_37 rfl (lv_at hl 0 rfl) ?_
          refine gf_0_4 hx hb htm hown hE hP hw (htm _ qw_121) dX5_living_38 ?_
          refine lv_iload_n hx hb dX5_living_41 rfl (lv_at hl 1 rfl) ?_
          obtain ⟨hn7, hF⟩ := ite_S hF
          refine mql hx hb htm hown hE hP hw hn7 dX5_living_42 ?_
          have hj8 : Int32.toNatClampNeg x1 < 24 := Nat.not_le.mp fun q => hn7 (Or.inr q)
          cases hF
          exact m_aretR X hS hP rfl dX5_living_43
        · have hF := ite_T c6 hF
          refine lv_null hx hb dX5_living_33 ?_
          refine lv_goto (tgt := 43) hx hb dX5_living_34 (by decide) ?_
          cases hF
          exact m_aretN X hS hP rfl dX5_living_43
      · have hF := ite_F c3 hF
        refine lv_null hx hb dX5_living_18 ?_
        cases hF
        exact m_aretN X hS hP rfl dX5_living_19
def f_X5_currentOf (G V : MT) (x1 : Int32) : Option (Int32) :=
  (f_X1_hasModule G x1).bind (fun q1_ => if q1_ = 0 then (some (-1)) else (if ¬ (x1 < 0 ∨ 4 ≤ Int32.toNatClampNeg x1) then (some (V 1 0 (Int32.toNatClampNeg x1))) else none))
def rm_X5_currentOf : Room := { frames := 1, cells := 0, slots := 0, locals := 21 }
set_option maxRecDepth 20000 in
set_option maxHeartbeats 4000000 in
theorem c_X5_currentOf {l : Launch} {D : va_G} {ad : Nat → Nat → Nat → Nat} {cI cZ cP : ClassId} {A : Nat → Prop} {w : Nat} (hw : w < 2) {G V U : MT} {x1 : Int32} {r : Int32}  (hF : f_X5_currentOf G V x1 = some r) : Met l yX5_currentOf (.code yX5_currentOf cX5_currentOf 2 (some .int) :: WM) rm_X5_currentOf (PcM D ad cI cZ cP A [.ref (ad w 0 0), .int x1] (Pic D ad cI cZ cP w G V U)) (QcI A r (Pic D ad cI cZ cP w G V U)) 0 0 A := by
  refine m_entry (by decide) (Nat.le_of_ble_eq_true rfl) (fun p e s m below meth c ls X hP hS hl => ?_)
  have X : MX p s m _ meth c cX5_currentOf RX5 2 (some .int) D ad cI cZ cP A := X
  obtain ⟨hx, hb, hml, hown, htm, hr, hlk, hE⟩ := id X
  have hl : lv_has ls 2 [(0, .ref (ad w 0 0)), (1, .int x1)] := hl
  refine lv_aload_n hx hb dX5_currentOf_0 rfl (lv_at hl 0 rfl) ?_
  refine gf_0_0 hx hb htm hown hE hP hw (htm _ qw_125) dX5_currentOf_1 ?_
  refine lv_iload_n hx hb dX5_currentOf_4 rfl (lv_at hl 1 rfl) ?_
  obtain ⟨r1, hc1, hF⟩ := ob_S hF
  refine m_cVi X hS vw_X1_hasModule qw_146 (c_X1_hasModule hw hc1) ⟨rfl, rfl⟩ ⟨Nat.le_of_ble_eq_true rfl, Nat.le_of_ble_eq_true rfl⟩ (rc_17 hE hP) hP rfl hl.1 (rest := []) rfl (Nat.le_of_ble_eq_true rfl) dX5_currentOf_5 (fun H locs hP hS => ?_)
  refine lv_if_eq (tgt := 20) hx hb dX5_currentOf_8 (by decide) (fun c2 => ?_) (fun c2 => ?_)
  · have hF := ite_T c2 hF
    refine lv_iconst (v := (-1)) hx hb dX5_currentOf_20 (by decide) ?_
    cases hF
    exact m_iret X hS hP rfl dX5_currentOf_21
  · have hF := ite_F c2 hF
    refine lv_aload_n hx hb dX5_currentOf_11 rfl (lv_at hl 0 rfl) ?_
    refine gf_0_2 hx hb htm hown hE hP hw (htm _ qw_119) dX5_currentOf_12 ?_
    refine lv_iload_n hx hb dX5_currentOf_15 rfl (lv_at hl 1 rfl) ?_
    obtain ⟨hn3, hF⟩ := ite_S hF
    refine al_1 hx hb htm hown hE hP hw hn3 dX5_currentOf_16 ?_
    refine lv_goto (tgt := 21) hx hb dX5_currentOf_17 (by decide) ?_
    cases hF
    exact m_iret X hS hP rfl dX5_currentOf_21
def f_X5_holderOf (G V : MT) (x1 : Int32) : Option (Int32) :=
  (f_X6_isWithin x1 0 3).bind (fun q1_ => if q1_ = 0 then (some (-1)) else (if ¬ (x1 < 0 ∨ 4 ≤ Int32.toNatClampNeg x1) then (some (V 2 0 (Int32.toNatClampNeg x1))) else none))
def rm_X5_holderOf : Room := { frames := 1, cells := 0, slots := 0, locals := 22 }
set_option maxRecDepth 20000 in
set_option maxHeartbeats 4000000 in
theorem c_X5_holderOf {l : Launch} {D : va_G} {ad : Nat → Nat → Nat → Nat} {cI cZ cP : ClassId} {A : Nat → Prop} {w : Nat} (hw : w < 2) {G V U : MT} {x1 : Int32} {r : Int32}  (hF : f_X5_holderOf G V x1 = some r) : Met l yX5_holderOf (.code yX5_holderOf cX5_holderOf 2 (some .int) :: WM) rm_X5_holderOf (PcM D ad cI cZ cP A [.ref (ad w 0 0), .int x1] (Pic D ad cI cZ cP w G V U)) (QcI A r (Pic D ad cI cZ cP w G V U)) 0 0 A := by
  refine m_entry (by decide) (Nat.le_of_ble_eq_true rfl) (fun p e s m below meth c ls X hP hS hl => ?_)
  have X : MX p s m _ meth c cX5_holderOf RX5 2 (some .int) D ad cI cZ cP A := X
  obtain ⟨hx, hb, hml, hown, htm, hr, hlk, hE⟩ := id X
  have hl : lv_has ls 2 [(0, .ref (ad w 0 0)), (1, .int x1)] := hl
  refine lv_iload_n hx hb dX5_holderOf_0 rfl (lv_at hl 1 rfl) ?_
  refine lv_iconst (v := 0) hx hb dX5_holderOf_1 (by decide) ?_
  refine lv_iconst (v := 3) hx hb dX5_holderOf_2 (by decide) ?_
  obtain ⟨r1, hc1, hF⟩ := ob_S hF
  refine m_cNi X hS sw_X6_isWithin nst_5 (c_X6_isWithin hc1) ⟨rfl, rfl⟩ ⟨Nat.le_of_ble_eq_true rfl, Nat.le_of_ble_eq_true rfl⟩ hP rfl hl.1 (rest := []) rfl (Nat.le_of_ble_eq_true rfl) dX5_holderOf_3 (fun H locs hP hS => ?_)
  refine lv_if_eq (tgt := 18) hx hb dX5_holderOf_6 (by decide) (fun c2 => ?_) (fun c2 => ?_)
  · have hF := ite_T c2 hF
    refine lv_iconst (v := (-1)) hx hb dX5_holderOf_18 (by decide) ?_
    cases hF
    exact m_iret X hS hP rfl dX5_holderOf_19
  · have hF := ite_F c2 hF
    refine lv_aload_n hx hb dX5_holderOf_9 rfl (lv_at hl 0 rfl) ?_
    refine gf_0_3 hx hb htm hown hE hP hw (htm _ qw_120) dX5_holderOf_10 ?_
    refine lv_iload_n hx hb dX5_holderOf_13 rfl (lv_at hl 1 rfl) ?_
    obtain ⟨hn3, hF⟩ := ite_S hF
    refine al_2 hx hb htm hown hE hP hw hn3 dX5_holderOf_14 ?_
    refine lv_goto (tgt := 19) hx hb dX5_holderOf_15 (by decide) ?_
    cases hF
    exact m_iret X hS hP rfl dX5_holderOf_19
def f_X5_comesOfModule (G V : MT) (x1 : Int32) (x2 : Int32) : Option (Option Nat × MT) :=
  if x1 < 0 then (some (none, V)) else (if G 17 0 0 ≤ x1 then (some (none, V)) else (if 4 ≤ x1 then (some (none, V)) else (if V 0 0 5 < 24 then (if ¬ (V 0 0 5 < 0 ∨ 24 ≤ Int32.toNatClampNeg (V 0 0 5)) then (if ¬ (x1 < 0 ∨ 4 ≤ Int32.toNatClampNeg x1) then (some ((some (Int32.toNatClampNeg (V 0 0 5))), (pt (pt (pt (pt (pt (pt (pt V 0 0 5 ((V 0 0 5) + 1)) 7 (Int32.toNatClampNeg (V 0 0 5)) 1 x1) 7 (Int32.toNatClampNeg (V 0 0 5)) 2 ((pt (pt V 0 0 5 ((V 0 0 5) + 1)) 7 (Int32.toNatClampNeg (V 0 0 5)) 1 x1) 1 0 (Int32.toNatClampNeg x1))) 7 (Int32.toNatClampNeg (V 0 0 5)) 4 x2) 7 (Int32.toNatClampNeg (V 0 0 5)) 5 0) 7 (Int32.toNatClampNeg (V 0 0 5)) 11 ((pt (pt (pt (pt (pt V 0 0 5 ((V 0 0 5) + 1)) 7 (Int32.toNatClampNeg (V 0 0 5)) 1 x1) 7 (Int32.toNatClampNeg (V 0 0 5)) 2 ((pt (pt V 0 0 5 ((V 0 0 5) + 1)) 7 (Int32.toNatClampNeg (V 0 0 5)) 1 x1) 1 0 (Int32.toNatClampNeg x1))) 7 (Int32.toNatClampNeg (V 0 0 5)) 4 x2) 7 (Int32.toNatClampNeg (V 0 0 5)) 5 0) 0 0 10)) 0 0 10 (((pt (pt (pt (pt (pt (pt V 0 0 5 ((V 0 0 5) + 1)) 7 (Int32.toNatClampNeg (V 0 0 5)) 1 x1) 7 (Int32.toNatClampNeg (V 0 0 5)) 2 ((pt (pt V 0 0 5 ((V 0 0 5) + 1)) 7 (Int32.toNatClampNeg (V 0 0 5)) 1 x1) 1 0 (Int32.toNatClampNeg x1))) 7 (Int32.toNatClampNeg (V 0 0 5)) 4 x2) 7 (Int32.toNatClampNeg (V 0 0 5)) 5 0) 7 (Int32.toNatClampNeg (V 0 0 5)) 11 ((pt (pt (pt (pt (pt V 0 0 5 ((V 0 0 5) + 1)) 7 (Int32.toNatClampNeg (V 0 0 5)) 1 x1) 7 (Int32.toNatClampNeg (V 0 0 5)) 2 ((pt (pt V 0 0 5 ((V 0 0 5) + 1)) 7 (Int32.toNatClampNeg (V 0 0 5)) 1 x1) 1 0 (Int32.toNatClampNeg x1))) 7 (Int32.toNatClampNeg (V 0 0 5)) 4 x2) 7 (Int32.toNatClampNeg (V 0 0 5)) 5 0) 0 0 10)) 0 0 10) + 1)))) else none) else none) else (some (none, V)))))
def rm_X5_comesOfModule : Room := { frames := 0, cells := 0, slots := 0, locals := 0 }
set_option maxRecDepth 20000 in
set_option maxHeartbeats 4000000 in
theorem c_X5_comesOfModule {l : Launch} {D : va_G} {ad : Nat → Nat → Nat → Nat} {cI cZ cP : ClassId} {A : Nat → Prop} {w : Nat} (hw : w < 2) {G V U : MT} {x1 : Int32} {x2 : Int32} {r : Option Nat} {V' : MT}  (hF : f_X5_comesOfModule G V x1 x2 = some (r, V')) : Met l yX5_comesOfModule (.code yX5_comesOfModule cX5_comesOfModule 4 (some (.object "MailDen$Proc")) :: WM) rm_X5_comesOfModule (PcM D ad cI cZ cP A [.ref (ad w 0 0), .int x1, .int x2] (Pic D ad cI cZ cP w G V U)) (QcQ A (r.map (ad w 7)) (Pic D ad cI cZ cP w G V' U)) 0 0 A := by
  refine m_entry (by decide) (Nat.le_of_ble_eq_true rfl) (fun p e s m below meth c ls X hP hS hl => ?_)
  have X : MX p s m _ meth c cX5_comesOfModule RX5 4 (some (.object "MailDen$Proc")) D ad cI cZ cP A := X
  obtain ⟨hx, hb, hml, hown, htm, hr, hlk, hE⟩ := id X
  have hl : lv_has ls 4 [(0, .ref (ad w 0 0)), (1, .int x1), (2, .int x2)] := hl
  refine lv_iload_n hx hb dX5_comesOfModule_0 rfl (lv_at hl 1 rfl) ?_
  refine lv_if_lt (tgt := 29) hx hb dX5_comesOfModule_1 (by decide) (fun c1 => ?_) (fun c1 => ?_)
  · have hF := ite_T c1 hF
    refine lv_null hx hb dX5_comesOfModule_29 ?_
    cases hF
    exact m_aretN X hS hP rfl dX5_comesOfModule_30
  · have hF := ite_F c1 hF
    refine lv_iload_n hx hb dX5_comesOfModule_4 rfl (lv_at hl 1 rfl) ?_
    refine lv_aload_n hx hb dX5_comesOfModule_5 rfl (lv_at hl 0 rfl) ?_
    refine gf_0_0 hx hb htm hown hE hP hw (htm _ qw_125) dX5_comesOfModule_6 ?_
    refine gf_17_0 hx hb htm hown hE hP (htm _ qw_149) dX5_comesOfModule_9 ?_
    refine lv_icmp_ge (tgt := 29) hx hb dX5_comesOfModule_12 (by decide) (fun c2 => ?_) (fun c2 => ?_)
    · have hF := ite_T c2 hF
      refine lv_null hx hb dX5_comesOfModule_29 ?_
      cases hF
      exact m_aretN X hS hP rfl dX5_comesOfModule_30
    · have hF := ite_F c2 hF
      refine lv_iload_n hx hb dX5_comesOfModule_15 rfl (lv_at hl 1 rfl) ?_
      refine lv_iconst (v := 4) hx hb dX5_comesOfModule_16 (by decide) ?_
      refine lv_icmp_ge (tgt := 29) hx hb dX5_comesOfModule_17 (by decide) (fun c3 => ?_) (fun c3 => ?_)
      · have hF := ite_T c3 hF
        refine lv_null hx hb dX5_comesOfModule_29 ?_
        cases hF
        exact m_aretN X hS hP rfl dX5_comesOfModule_30
      · have hF := ite_F c3 hF
        refine lv_aload_n hx hb dX5_comesOfModule_20 rfl (lv_at hl 0 rfl) ?_
        refine gf_0_5 hx hb htm hown hE hP hw (htm _ qw_129) dX5_comesOfModule_21 ?_
        refine lv_bipush (v := 24) hx hb dX5_comesOfModule_24 (by decide) ?_
        refine lv_icmp_lt (tgt := 31) hx hb dX5_comesOfModule_26 (by decide) (fun c4 => ?_) (fun c4 => ?_)
        · have hF := ite_T c4 hF
          refine lv_aload_n hx hb dX5_comesOfModule_31 rfl (lv_at hl 0 rfl) ?_
          refine gf_0_4 hx hb htm hown hE hP hw (htm _ qw_121) dX5_comesOfModule_32 ?_
          refine lv_aload_n hx hb dX5_comesOfModule_35 rfl (lv_at hl 0 rfl) ?_
          refine gf_0_5 hx hb htm hown hE hP hw (htm _ qw_129) dX5_comesOfModule_36 ?_
          obtain ⟨hn5, hF⟩ := ite_S hF
          refine mql hx hb htm hown hE hP hw hn5 dX5_comesOfModule_39 ?_
          have hj6 : Int32.toNatClampNeg (V 0 0 5) < 24 := Nat.not_le.mp fun q => hn5 (Or.inr q)
          refine lv_astore_n (lv' := [(3, .ref (ad w 7 (Int32.toNatClampNeg (V 0 0 5)))), (0, .ref (ad w 0 0)), (1, .int x1), (2, .int x2)]) hx hb dX5_comesOfModule_40 rfl hl (by decide) rfl (fun ls hl => ?_)
          refine lv_aload_n hx hb dX5_comesOfModule_41 rfl (lv_at hl 1 rfl) ?_
          refine lv_dup hx hb dX5_comesOfModule_42 rfl ?_
          refine gf_0_5 hx hb htm hown hE hP hw (htm _ qw_129) dX5_comesOfModule_43 ?_
          refine lv_iconst (v := 1) hx hb dX5_comesOfModule_46 (by decide) ?_
          refine lv_iadd hx hb dX5_comesOfModule_47 ?_
          refine pf_0_5 hx hb htm hown hE hP hS hw (htm _ qw_129) dX5_comesOfModule_48 (fun H locs hP hS => ?_)
          refine lv_aload_n hx hb dX5_comesOfModule_51 rfl (lv_at hl 0 rfl) ?_
          refine lv_iload_n hx hb dX5_comesOfModule_52 rfl (lv_at hl 2 rfl) ?_
          refine pf_7_1 hx hb htm hown hE hP hS hw hj6 (htm _ qw_150) dX5_comesOfModule_53 (fun H locs hP hS => ?_)
          refine lv_aload_n hx hb dX5_comesOfModule_56 rfl (lv_at hl 0 rfl) ?_
          refine lv_aload_n hx hb dX5_comesOfModule_57 rfl (lv_at hl 1 rfl) ?_
          refine gf_0_2 hx hb htm hown hE hP hw (htm _ qw_119) dX5_comesOfModule_58 ?_
          refine lv_iload_n hx hb dX5_comesOfModule_61 rfl (lv_at hl 2 rfl) ?_
          obtain ⟨hn7, hF⟩ := ite_S hF
          refine al_1 hx hb htm hown hE hP hw hn7 dX5_comesOfModule_62 ?_
          refine pf_7_2 hx hb htm hown hE hP hS hw hj6 (htm _ qw_151) dX5_comesOfModule_63 (fun H locs hP hS => ?_)
          refine lv_aload_n hx hb dX5_comesOfModule_66 rfl (lv_at hl 0 rfl) ?_
          refine lv_iload_n hx hb dX5_comesOfModule_67 rfl (lv_at hl 3 rfl) ?_
          refine pf_7_4 hx hb htm hown hE hP hS hw hj6 (htm _ qw_152) dX5_comesOfModule_68 (fun H locs hP hS => ?_)
          refine lv_aload_n hx hb dX5_comesOfModule_71 rfl (lv_at hl 0 rfl) ?_
          refine lv_iconst (v := 0) hx hb dX5_comesOfModule_72 (by decide) ?_
          refine pf_7_5 hx hb htm hown hE hP hS hw hj6 (htm _ qw_144) dX5_comesOfModule_73 (fun H locs hP hS => ?_)
          refine lv_aload_n hx hb dX5_comesOfModule_76 rfl (lv_at hl 0 rfl) ?_
          refine lv_aload_n hx hb dX5_comesOfModule_77 rfl (lv_at hl 1 rfl) ?_
          refine gf_0_10 hx hb htm hown hE hP hw (htm _ qw_135) dX5_comesOfModule_78 ?_
          refine pf_7_11 hx hb htm hown hE hP hS hw hj6 (htm _ qw_153) dX5_comesOfModule_81 (fun H locs hP hS => ?_)
          refine lv_aload_n hx hb dX5_comesOfModule_84 rfl (lv_at hl 1 rfl) ?_
          refine lv_dup hx hb dX5_comesOfModule_85 rfl ?_
          refine gf_0_10 hx hb htm hown hE hP hw (htm _ qw_135) dX5_comesOfModule_86 ?_
          refine lv_iconst (v := 1) hx hb dX5_comesOfModule_89 (by decide) ?_
          refine lv_iadd hx hb dX5_comesOfModule_90 ?_
          refine pf_0_10 hx hb htm hown hE hP hS hw (htm _ qw_135) dX5_comesOfModule_91 (fun H locs hP hS => ?_)
          refine lv_aload_n hx hb dX5_comesOfModule_94 rfl (lv_at hl 0 rfl) ?_
          cases hF
          exact m_aretR X hS hP rfl dX5_comesOfModule_95
        · have hF := ite_F c4 hF
          refine lv_null hx hb dX5_comesOfModule_29 ?_
          cases hF
          exact m_aretN X hS hP rfl dX5_comesOfModule_30
end
section
theorem vw_X5_comesOfSpec : VW RX5 yX5_comesOfSpec cX5_comesOfSpec 4 (some (.object "MailDen$Proc")) 2 := ⟨qw_175, qw_176, qw_177, qw_157, ⟨rfl, by decide, by decide, by decide +kernel⟩⟩
theorem vw_X5_ready : VW RX5 yX5_ready cX5_ready 2 none 1 := ⟨qw_204, qw_205, qw_177, qw_159, ⟨rfl, by decide, by decide, by decide +kernel⟩⟩
theorem vw_X5_putMail : VW RX5 yX5_putMail cX5_putMail 5 (some .boolean) 3 := ⟨qw_212, qw_213, qw_177, qw_206, ⟨rfl, by decide, by decide, by decide +kernel⟩⟩
def f_X5_comesOfSpec (G V : MT) (x1 : Int32) (x2 : Int32) : Option (Option Nat × MT) :=
  if V 0 0 5 < 24 then (if ¬ (V 0 0 5 < 0 ∨ 24 ≤ Int32.toNatClampNeg (V 0 0 5)) then (some ((some (Int32.toNatClampNeg (V 0 0 5))), (pt (pt (pt (pt V 0 0 5 ((V 0 0 5) + 1)) 7 (Int32.toNatClampNeg (V 0 0 5)) 3 x1) 7 (Int32.toNatClampNeg (V 0 0 5)) 4 x2) 7 (Int32.toNatClampNeg (V 0 0 5)) 8 (-1)))) else none) else (some (none, V))
def rm_X5_comesOfSpec : Room := { frames := 0, cells := 0, slots := 0, locals := 0 }
set_option maxRecDepth 20000 in
set_option maxHeartbeats 4000000 in
theorem c_X5_comesOfSpec {l : Launch} {D : va_G} {ad : Nat → Nat → Nat → Nat} {cI cZ cP : ClassId} {A : Nat → Prop} {w : Nat} (hw : w < 2) {G V U : MT} {x1 : Int32} {x2 : Int32} {r : Option Nat} {V' : MT}  (hF : f_X5_comesOfSpec G V x1 x2 = some (r, V')) : Met l yX5_comesOfSpec (.code yX5_comesOfSpec cX5_comesOfSpec 4 (some (.object "MailDen$Proc")) :: WM) rm_X5_comesOfSpec (PcM D ad cI cZ cP A [.ref (ad w 0 0), .int x1, .int x2] (Pic D ad cI cZ cP w G V U)) (QcQ A (r.map (ad w 7)) (Pic D ad cI cZ cP w G V' U)) 0 0 A := by
  refine m_entry (by decide) (Nat.le_of_ble_eq_true rfl) (fun p e s m below meth c ls X hP hS hl => ?_)
  have X : MX p s m _ meth c cX5_comesOfSpec RX5 4 (some (.object "MailDen$Proc")) D ad cI cZ cP A := X
  obtain ⟨hx, hb, hml, hown, htm, hr, hlk, hE⟩ := id X
  have hl : lv_has ls 4 [(0, .ref (ad w 0 0)), (1, .int x1), (2, .int x2)] := hl
  refine lv_aload_n hx hb dX5_comesOfSpec_0 rfl (lv_at hl 0 rfl) ?_
  refine gf_0_5 hx hb htm hown hE hP hw (htm _ qw_129) dX5_comesOfSpec_1 ?_
  refine lv_bipush (v := 24) hx hb dX5_comesOfSpec_4 (by decide) ?_
  refine lv_icmp_lt (tgt := 11) hx hb dX5_comesOfSpec_6 (by decide) (fun c1 => ?_) (fun c1 => ?_)
  · have hF := ite_T c1 hF
    refine lv_aload_n hx hb dX5_comesOfSpec_11 rfl (lv_at hl 0 rfl) ?_
    refine gf_0_4 hx hb htm hown hE hP hw (htm _ qw_121) dX5_comesOfSpec_12 ?_
    refine lv_aload_n hx hb dX5_comesOfSpec_15 rfl (lv_at hl 0 rfl) ?_
    refine gf_0_5 hx hb htm hown hE hP hw (htm _ qw_129) dX5_comesOfSpec_16 ?_
    obtain ⟨hn2, hF⟩ := ite_S hF
    refine mql hx hb htm hown hE hP hw hn2 dX5_comesOfSpec_19 ?_
    have hj3 : Int32.toNatClampNeg (V 0 0 5) < 24 := Nat.not_le.mp fun q => hn2 (Or.inr q)
    refine lv_astore_n (lv' := [(3, .ref (ad w 7 (Int32.toNatClampNeg (V 0 0 5)))), (0, .ref (ad w 0 0)), (1, .int x1), (2, .int x2)]) hx hb dX5_comesOfSpec_20 rfl hl (by decide) rfl (fun ls hl => ?_)
    refine lv_aload_n hx hb dX5_comesOfSpec_21 rfl (lv_at hl 1 rfl) ?_
    refine lv_dup hx hb dX5_comesOfSpec_22 rfl ?_
    refine gf_0_5 hx hb htm hown hE hP hw (htm _ qw_129) dX5_comesOfSpec_23 ?_
    refine lv_iconst (v := 1) hx hb dX5_comesOfSpec_26 (by decide) ?_
    refine lv_iadd hx hb dX5_comesOfSpec_27 ?_
    refine pf_0_5 hx hb htm hown hE hP hS hw (htm _ qw_129) dX5_comesOfSpec_28 (fun H locs hP hS => ?_)
    refine lv_aload_n hx hb dX5_comesOfSpec_31 rfl (lv_at hl 0 rfl) ?_
    refine lv_iload_n hx hb dX5_comesOfSpec_32 rfl (lv_at hl 2 rfl) ?_
    refine pf_7_3 hx hb htm hown hE hP hS hw hj3 (htm _ qw_155) dX5_comesOfSpec_33 (fun H locs hP hS => ?_)
    refine lv_aload_n hx hb dX5_comesOfSpec_36 rfl (lv_at hl 0 rfl) ?_
    refine lv_iload_n hx hb dX5_comesOfSpec_37 rfl (lv_at hl 3 rfl) ?_
    refine pf_7_4 hx hb htm hown hE hP hS hw hj3 (htm _ qw_152) dX5_comesOfSpec_38 (fun H locs hP hS => ?_)
    refine lv_aload_n hx hb dX5_comesOfSpec_41 rfl (lv_at hl 0 rfl) ?_
    refine lv_iconst (v := (-1)) hx hb dX5_comesOfSpec_42 (by decide) ?_
    refine pf_7_8 hx hb htm hown hE hP hS hw hj3 (htm _ qw_156) dX5_comesOfSpec_43 (fun H locs hP hS => ?_)
    refine lv_aload_n hx hb dX5_comesOfSpec_46 rfl (lv_at hl 0 rfl) ?_
    cases hF
    exact m_aretR X hS hP rfl dX5_comesOfSpec_47
  · have hF := ite_F c1 hF
    refine lv_null hx hb dX5_comesOfSpec_9 ?_
    cases hF
    exact m_aretN X hS hP rfl dX5_comesOfSpec_10
def f_X5_ready (G V : MT) (i1 : Nat) : Option (MT) :=
  some (pt (pt (pt (pt V 7 i1 5 0) 7 i1 9 (-1)) 7 i1 11 ((pt (pt V 7 i1 5 0) 7 i1 9 (-1)) 0 0 10)) 0 0 10 (((pt (pt (pt V 7 i1 5 0) 7 i1 9 (-1)) 7 i1 11 ((pt (pt V 7 i1 5 0) 7 i1 9 (-1)) 0 0 10)) 0 0 10) + 1))
def rm_X5_ready : Room := { frames := 0, cells := 0, slots := 0, locals := 0 }
set_option maxRecDepth 20000 in
set_option maxHeartbeats 4000000 in
theorem c_X5_ready {l : Launch} {D : va_G} {ad : Nat → Nat → Nat → Nat} {cI cZ cP : ClassId} {A : Nat → Prop} {w : Nat} (hw : w < 2) {G V U : MT} {i1 : Nat} {V' : MT}  (hi1 : i1 < 24) (hF : f_X5_ready G V i1 = some V') : Met l yX5_ready (.code yX5_ready cX5_ready 2 none :: WM) rm_X5_ready (PcM D ad cI cZ cP A [.ref (ad w 0 0), .ref (ad w 7 i1)] (Pic D ad cI cZ cP w G V U)) (QcV A (Pic D ad cI cZ cP w G V' U)) 0 0 A := by
  refine m_entry (by decide) (Nat.le_of_ble_eq_true rfl) (fun p e s m below meth c ls X hP hS hl => ?_)
  have X : MX p s m _ meth c cX5_ready RX5 2 none D ad cI cZ cP A := X
  obtain ⟨hx, hb, hml, hown, htm, hr, hlk, hE⟩ := id X
  have hl : lv_has ls 2 [(0, .ref (ad w 0 0)), (1, .ref (ad w 7 i1))] := hl
  refine lv_aload_n hx hb dX5_ready_0 rfl (lv_at hl 1 rfl) ?_
  refine lv_iconst (v := 0) hx hb dX5_ready_1 (by decide) ?_
  refine pf_7_5 hx hb htm hown hE hP hS hw hi1 (htm _ qw_144) dX5_ready_2 (fun H locs hP hS => ?_)
  refine lv_aload_n hx hb dX5_ready_5 rfl (lv_at hl 1 rfl) ?_
  refine lv_iconst (v := (-1)) hx hb dX5_ready_6 (by decide) ?_
  refine pf_7_9 hx hb htm hown hE hP hS hw hi1 (htm _ qw_158) dX5_ready_7 (fun H locs hP hS => ?_)
  refine lv_aload_n hx hb dX5_ready_10 rfl (lv_at hl 1 rfl) ?_
  refine lv_aload_n hx hb dX5_ready_11 rfl (lv_at hl 0 rfl) ?_
  refine gf_0_10 hx hb htm hown hE hP hw (htm _ qw_135) dX5_ready_12 ?_
  refine pf_7_11 hx hb htm hown hE hP hS hw hi1 (htm _ qw_153) dX5_ready_15 (fun H locs hP hS => ?_)
  refine lv_aload_n hx hb dX5_ready_18 rfl (lv_at hl 0 rfl) ?_
  refine lv_dup hx hb dX5_ready_19 rfl ?_
  refine gf_0_10 hx hb htm hown hE hP hw (htm _ qw_135) dX5_ready_20 ?_
  refine lv_iconst (v := 1) hx hb dX5_ready_23 (by decide) ?_
  refine lv_iadd hx hb dX5_ready_24 ?_
  refine pf_0_10 hx hb htm hown hE hP hS hw (htm _ qw_135) dX5_ready_25 (fun H locs hP hS => ?_)
  cases hF
  exact m_vret X hS hP dX5_ready_28
def f_X5_putMail (G V : MT) (x1 : Int32) (x2 : Int32) (x3 : Int32) : Option (Int32 × MT) :=
  (f_X5_living G V x1).bind (fun q1_ => oc q1_ (some (0, (pt V 0 0 7 ((V 0 0 7) + 1)))) (fun e1 => if e1 < 24 then ((f_X2_isSupervisor V e1).bind (fun q2_ => if q2_ = 0 then ((f_X0_put V e1 x2 x3).bind (fun q4_ => if q4_.1 = 0 then (some (0, (pt q4_.2 0 0 7 ((q4_.2 0 0 7) + 1)))) else ((f_X2_waitsForMail q4_.2 e1 x2).bind (fun q6_ => if q6_ = 0 then (some (1, q4_.2)) else ((f_X5_ready G q4_.2 e1).bind (fun q8_ => some (1, q8_))))))) else (some (0, (pt V 0 0 7 ((V 0 0 7) + 1)))))) else none))
def rm_X5_putMail : Room := { frames := 1, cells := 0, slots := 0, locals := 22 }
set_option maxRecDepth 20000 in
set_option maxHeartbeats 4000000 in
theorem c_X5_putMail {l : Launch} {D : va_G} {ad : Nat → Nat → Nat → Nat} {cI cZ cP : ClassId} {A : Nat → Prop} {w : Nat} (hw : w < 2) {G V U : MT} {x1 : Int32} {x2 : Int32} {x3 : Int32} {r : Int32} {V' : MT}  (hF : f_X5_putMail G V x1 x2 x3 = some (r, V')) : Met l yX5_putMail (.code yX5_putMail cX5_putMail 5 (some .boolean) :: WM) rm_X5_putMail (PcM D ad cI cZ cP A [.ref (ad w 0 0), .int x1, .int x2, .int x3] (Pic D ad cI cZ cP w G V U)) (QcI A r (Pic D ad cI cZ cP w G V' U)) 0 0 A := by
  refine m_entry (by decide) (Nat.le_of_ble_eq_true rfl) (fun p e s m below meth c ls X hP hS hl => ?_)
  have X : MX p s m _ meth c cX5_putMail RX5 5 (some .boolean) D ad cI cZ cP A := X
  obtain ⟨hx, hb, hml, hown, htm, hr, hlk, hE⟩ := id X
  have hl : lv_has ls 5 [(0, .ref (ad w 0 0)), (1, .int x1), (2, .int x2), (3, .int x3)] := hl
  refine lv_aload_n hx hb dX5_putMail_0 rfl (lv_at hl 0 rfl) ?_
  refine lv_iload_n hx hb dX5_putMail_1 rfl (lv_at hl 1 rfl) ?_
  obtain ⟨r1, hc1, hF⟩ := ob_S hF
  refine m_cVq X hS vw_X5_living qw_191 (c_X5_living hw hc1) ⟨rfl, rfl⟩ ⟨Nat.le_of_ble_eq_true rfl, Nat.le_of_ble_eq_true rfl⟩ (rc_0 hE hP hw) hP rfl hl.1 (rest := []) rfl (Nat.le_of_ble_eq_true rfl) dX5_putMail_2 (fun H locs hP hS => ?_)
  rcases r1 with _ | e1
  · skip
    refine lv_astoreN (lv' := [(4, .null), (0, .ref (ad w 0 0)), (1, .int x1), (2, .int x2), (3, .int x3)]) hx hb dX5_putMail_5 hl (by decide) rfl (fun ls hl => ?_)
    refine lv_aloadN hx hb dX5_putMail_7 (lv_at hl 0 rfl) ?_
    refine lv_ifnullN (tgt := 33) hx hb dX5_putMail_9 (by decide) ?_
    refine lv_aload_n hx hb dX5_putMail_33 rfl (lv_at hl 1 rfl) ?_
    refine lv_dup hx hb dX5_putMail_34 rfl ?_
    refine gf_0_7 hx hb htm hown hE hP hw (htm _ qw_132) dX5_putMail_35 ?_
    refine lv_iconst (v := 1) hx hb dX5_putMail_38 (by decide) ?_
    refine lv_iadd hx hb dX5_putMail_39 ?_
    refine pf_0_7 hx hb htm hown hE hP hS hw (htm _ qw_132) dX5_putMail_40 (fun H locs hP hS => ?_)
    refine lv_iconst (v := 0) hx hb dX5_putMail_43 (by decide) ?_
    cases hF
    exact m_zret X hS hP rfl (Or.inl rfl) dX5_putMail_44
  · obtain ⟨he1, hF⟩ := ite_S hF
    refine lv_astore (lv' := [(4, .ref (ad w 7 e1)), (0, .ref (ad w 0 0)), (1, .int x1), (2, .int x2), (3, .int x3)]) hx hb dX5_putMail_5 hl (by decide) rfl (fun ls hl => ?_)
    refine lv_aload hx hb dX5_putMail_7 (lv_at hl 0 rfl) ?_
    refine lv_ifnull hx hb dX5_putMail_9 ?_
    refine lv_aload hx hb dX5_putMail_12 (lv_at hl 0 rfl) ?_
    obtain ⟨r2, hc2, hF⟩ := ob_S hF
    refine m_cVi X hS vw_X2_isSupervisor qw_194 (c_X2_isSupervisor hw he1 hc2) ⟨rfl, rfl⟩ ⟨Nat.le_of_ble_eq_true rfl, Nat.le_of_ble_eq_true rfl⟩ (rc_7 hE hP hw he1) hP rfl hl.1 (rest := []) rfl (Nat.le_of_ble_eq_true rfl) dX5_putMail_14 (fun H locs hP hS => ?_)
    refine lv_if_ne (tgt := 33) hx hb dX5_putMail_17 (by decide) (fun c3 => ?_) (fun c3 => ?_)
    · have hF := ite_F c3 hF
      refine lv_aload_n hx hb dX5_putMail_33 rfl (lv_at hl 1 rfl) ?_
      refine lv_dup hx hb dX5_putMail_34 rfl ?_
      refine gf_0_7 hx hb htm hown hE hP hw (htm _ qw_132) dX5_putMail_35 ?_
      refine lv_iconst (v := 1) hx hb dX5_putMail_38 (by decide) ?_
      refine lv_iadd hx hb dX5_putMail_39 ?_
      refine pf_0_7 hx hb htm hown hE hP hS hw (htm _ qw_132) dX5_putMail_40 (fun H locs hP hS => ?_)
      refine lv_iconst (v := 0) hx hb dX5_putMail_43 (by decide) ?_
      cases hF
      exact m_zret X hS hP rfl (Or.inl rfl) dX5_putMail_44
    · have hF := ite_T c3 hF
      refine lv_aload hx hb dX5_putMail_20 (lv_at hl 0 rfl) ?_
      refine gf_7_17 hx hb htm hown hE hP hw he1 (htm _ qw_161) dX5_putMail_22 ?_
      refine lv_iload_n hx hb dX5_putMail_25 rfl (lv_at hl 3 rfl) ?_
      refine lv_iload_n hx hb dX5_putMail_26 rfl (lv_at hl 4 rfl) ?_
      obtain ⟨⟨r4, V4⟩, hc4, hF⟩ := ob_S hF
      refine m_cVi X hS vw_X0_put qw_197 (c_X0_put hw he1 hc4) ⟨rfl, rfl⟩ ⟨Nat.le_of_ble_eq_true rfl, Nat.le_of_ble_eq_true rfl⟩ (rc_10 hE hP hw he1) hP rfl hl.1 (rest := []) rfl (Nat.le_of_ble_eq_true rfl) dX5_putMail_27 (fun H locs hP hS => ?_)
      refine lv_if_ne (tgt := 45) hx hb dX5_putMail_30 (by decide) (fun c5 => ?_) (fun c5 => ?_)
      · have hF := ite_F c5 hF
        refine lv_aload hx hb dX5_putMail_45 (lv_at hl 0 rfl) ?_
        refine lv_iload_n hx hb dX5_putMail_47 rfl (lv_at hl 3 rfl) ?_
        obtain ⟨r6, hc6, hF⟩ := ob_S hF
        refine m_cVi X hS vw_X2_waitsForMail qw_200 (c_X2_waitsForMail hw he1 hc6) ⟨rfl, rfl⟩ ⟨Nat.le_of_ble_eq_true rfl, Nat.le_of_ble_eq_true rfl⟩ (rc_7 hE hP hw he1) hP rfl hl.1 (rest := []) rfl (Nat.le_of_ble_eq_true rfl) dX5_putMail_48 (fun H locs hP hS => ?_)
        refine lv_if_eq (tgt := 60) hx hb dX5_putMail_51 (by decide) (fun c7 => ?_) (fun c7 => ?_)
        · have hF := ite_T c7 hF
          refine lv_iconst (v := 1) hx hb dX5_putMail_60 (by decide) ?_
          cases hF
          exact m_zret X hS hP rfl (Or.inr rfl) dX5_putMail_61
        · have hF := ite_F c7 hF
          refine lv_aload_n hx hb dX5_putMail_54 rfl (lv_at hl 1 rfl) ?_
          refine lv_aload hx hb dX5_putMail_55 (lv_at hl 0 rfl) ?_
          obtain ⟨V8, hc8, hF⟩ := ob_S hF
          refine m_cVv X hS vw_X5_ready qw_203 (c_X5_ready hw he1 hc8) ⟨rfl, rfl⟩ ⟨Nat.le_of_ble_eq_true rfl, Nat.le_of_ble_eq_true rfl⟩ (rc_0 hE hP hw) hP rfl hl.1 (rest := []) rfl (Nat.le_of_ble_eq_true rfl) dX5_putMail_57 (fun H locs hP hS => ?_)
          refine lv_iconst (v := 1) hx hb dX5_putMail_60 (by decide) ?_
          cases hF
          exact m_zret X hS hP rfl (Or.inr rfl) dX5_putMail_61
      · have hF := ite_T c5 hF
        refine lv_aload_n hx hb dX5_putMail_33 rfl (lv_at hl 1 rfl) ?_
        refine lv_dup hx hb dX5_putMail_34 rfl ?_
        refine gf_0_7 hx hb htm hown hE hP hw (htm _ qw_132) dX5_putMail_35 ?_
        refine lv_iconst (v := 1) hx hb dX5_putMail_38 (by decide) ?_
        refine lv_iadd hx hb dX5_putMail_39 ?_
        refine pf_0_7 hx hb htm hown hE hP hS hw (htm _ qw_132) dX5_putMail_40 (fun H locs hP hS => ?_)
        refine lv_iconst (v := 0) hx hb dX5_putMail_43 (by decide) ?_
        cases hF
        exact m_zret X hS hP rfl (Or.inl rfl) dX5_putMail_44
end
section
theorem vw_X5_end : VW RX5 yX5_end cX5_end 4 none 2 := ⟨qw_182, qw_183, qw_177, qw_164, ⟨rfl, by decide, by decide, by decide +kernel⟩⟩
def f_X5_end_43 (G : MT) : Nat → Nat → Int32 → MT → Option (MT)
  | 0, _, _, _ => none
  | n + 1, j1, y3, V => if 4 ≤ y3 then (if ¬ (V 0 0 12 < 0 ∨ 24 ≤ Int32.toNatClampNeg (V 0 0 12)) then (some (pt (pt V 4 0 (Int32.toNatClampNeg (V 0 0 12)) (nI j1)) 0 0 12 (((pt V 4 0 (Int32.toNatClampNeg (V 0 0 12)) (nI j1)) 0 0 12) + 1))) else none) else (if ¬ (y3 < 0 ∨ 4 ≤ Int32.toNatClampNeg y3) then (if V 2 0 (Int32.toNatClampNeg y3) = nI j1 then (if ¬ (y3 < 0 ∨ 4 ≤ Int32.toNatClampNeg y3) then ((f_X5_end_43 G n) j1 (y3 + 1) (pt V 2 0 (Int32.toNatClampNeg y3) (-1))) else none) else ((f_X5_end_43 G n) j1 (y3 + 1) V)) else none)
def f_X5_end (G V : MT) (i1 : Nat) (x2 : Int32) : Option (MT) :=
  if V 7 i1 5 = 2 then (some V) else (if V 0 0 12 < 24 then (f_X5_end_43 G  30 i1 0 (pt (pt (pt (pt V 7 i1 5 2) 7 i1 6 x2) 7 i1 9 (-1)) 10 i1 2 0)) else (some V))
def rm_X5_end : Room := { frames := 0, cells := 0, slots := 0, locals := 0 }
set_option maxRecDepth 20000 in
set_option maxHeartbeats 4000000 in
theorem l_X5_end_43 {p : Program} {l : Launch} {e : Env} {s : State} {m : MethodId} {args : Array Value} {below : List Frame} {meth : Method} {c : Code} {D : va_G} {ad : Nat → Nat → Nat → Nat} {cI cZ cP : ClassId} {A : Nat → Prop} {G U : MT} {V' : MT} (X : MX p s m args meth c cX5_end RX5 4 none D ad cI cZ cP A) {w : Nat} (hw : w < 2) (n : Nat) : ∀ {H : Heap} {locs : List Loc} {ls : Array Slot} (j1 : Nat) (y3 : Int32) (V : MT), j1 < 24 → Pic D ad cI cZ cP w G V U H → va_S A s.heap H locs → lv_has ls 4 [(0, .ref (ad w 0 0)), (1, .ref (ad w 7 j1)), (3, .int y3)] → f_X5_end_43 G n j1 y3 V = some V' → W p l e rm_X5_end s m args below meth c H locs 0 0 (MQ below (QcV A (Pic D ad cI cZ cP w G V' U)) args s 0 0 A) (F0 m 43 ls []) := by
  obtain ⟨hx, hb, hml, hown, htm, hr, hlk, hE⟩ := id X
  induction n with
  | zero =>
    intros
    exact ns_S (by assumption)
  | succ n ih43 =>
    intro H locs ls j1 y3 V hj1  hP hS hl hF
    rw [f_X5_end_43] at hF
    refine lv_iload_n hx hb dX5_end_43 rfl (lv_at hl 2 rfl) ?_
    refine lv_iconst (v := 4) hx hb dX5_end_44 (by decide) ?_
    refine lv_icmp_ge (tgt := 74) hx hb dX5_end_45 (by decide) (fun c3 => ?_) (fun c3 => ?_)
    · have hF := ite_T c3 hF
      refine lv_aload_n hx hb dX5_end_74 rfl (lv_at hl 0 rfl) ?_
      refine gf_0_11 hx hb htm hown hE hP hw (htm _ qw_122) dX5_end_75 ?_
      refine lv_aload_n hx hb dX5_end_78 rfl (lv_at hl 0 rfl) ?_
      refine gf_0_12 hx hb htm hown hE hP hw (htm _ qw_136) dX5_end_79 ?_
      refine lv_aload_n hx hb dX5_end_82 rfl (lv_at hl 1 rfl) ?_
      refine gf_7_0 hx hb htm hown hE hP hw hj1 (htm _ qw_163) dX5_end_83 ?_
      obtain ⟨hn4, hF⟩ := ite_S hF
      refine as_4 hx hb htm hown hE hP hS hw hn4 dX5_end_86 (fun H locs hP hS => ?_)
      refine lv_aload_n hx hb dX5_end_87 rfl (lv_at hl 0 rfl) ?_
      refine lv_dup hx hb dX5_end_88 rfl ?_
      refine gf_0_12 hx hb htm hown hE hP hw (htm _ qw_136) dX5_end_89 ?_
      refine lv_iconst (v := 1) hx hb dX5_end_92 (by decide) ?_
      refine lv_iadd hx hb dX5_end_93 ?_
      refine pf_0_12 hx hb htm hown hE hP hS hw (htm _ qw_136) dX5_end_94 (fun H locs hP hS => ?_)
      cases hF
      exact m_vret X hS hP dX5_end_97
    · have hF := ite_F c3 hF
      refine lv_aload_n hx hb dX5_end_48 rfl (lv_at hl 0 rfl) ?_
      refine gf_0_3 hx hb htm hown hE hP hw (htm _ qw_120) dX5_end_49 ?_
      refine lv_iload_n hx hb dX5_end_52 rfl (lv_at hl 2 rfl) ?_
      obtain ⟨hn5, hF⟩ := ite_S hF
      refine al_2 hx hb htm hown hE hP hw hn5 dX5_end_53 ?_
      refine lv_aload_n hx hb dX5_end_54 rfl (lv_at hl 1 rfl) ?_
      refine gf_7_0 hx hb htm hown hE hP hw hj1 (htm _ qw_163) dX5_end_55 ?_
      refine lv_icmp_ne (tgt := 68) hx hb dX5_end_58 (by decide) (fun c6 => ?_) (fun c6 => ?_)
      · have hF := ite_F c6 hF
        refine lv_iinc (v := y3 + 1) (lv' := [(3, .int (y3 + 1)), (0, .ref (ad w 0 0)), (1, .ref (ad w 7 j1))]) hx hb dX5_end_68 hl (k := 2) rfl rfl (by decide) rfl (fun ls hl => ?_)
        refine lv_goto (tgt := 43) hx hb dX5_end_71 (by decide) ?_
        exact ih43 _ _ _ hj1 hP hS (lv_sub hl [1, 2, 0] rfl) hF
      · have hF := ite_T c6 hF
        refine lv_aload_n hx hb dX5_end_61 rfl (lv_at hl 0 rfl) ?_
        refine gf_0_3 hx hb htm hown hE hP hw (htm _ qw_120) dX5_end_62 ?_
        refine lv_iload_n hx hb dX5_end_65 rfl (lv_at hl 2 rfl) ?_
        refine lv_iconst (v := (-1)) hx hb dX5_end_66 (by decide) ?_
        obtain ⟨hn7, hF⟩ := ite_S hF
        refine as_2 hx hb htm hown hE hP hS hw hn7 dX5_end_67 (fun H locs hP hS => ?_)
        refine lv_iinc (v := y3 + 1) (lv' := [(3, .int (y3 + 1)), (0, .ref (ad w 0 0)), (1, .ref (ad w 7 j1))]) hx hb dX5_end_68 hl (k := 2) rfl rfl (by decide) rfl (fun ls hl => ?_)
        refine lv_goto (tgt := 43) hx hb dX5_end_71 (by decide) ?_
        exact ih43 _ _ _ hj1 hP hS (lv_sub hl [1, 2, 0] rfl) hF
set_option maxRecDepth 20000 in
set_option maxHeartbeats 4000000 in
theorem c_X5_end {l : Launch} {D : va_G} {ad : Nat → Nat → Nat → Nat} {cI cZ cP : ClassId} {A : Nat → Prop} {w : Nat} (hw : w < 2) {G V U : MT} {i1 : Nat} {x2 : Int32} {V' : MT}  (hi1 : i1 < 24) (hF : f_X5_end G V i1 x2 = some V') : Met l yX5_end (.code yX5_end cX5_end 4 none :: WM) rm_X5_end (PcM D ad cI cZ cP A [.ref (ad w 0 0), .ref (ad w 7 i1), .int x2] (Pic D ad cI cZ cP w G V U)) (QcV A (Pic D ad cI cZ cP w G V' U)) 0 0 A := by
  refine m_entry (by decide) (Nat.le_of_ble_eq_true rfl) (fun p e s m below meth c ls X hP hS hl => ?_)
  have X : MX p s m _ meth c cX5_end RX5 4 none D ad cI cZ cP A := X
  obtain ⟨hx, hb, hml, hown, htm, hr, hlk, hE⟩ := id X
  have hl : lv_has ls 4 [(0, .ref (ad w 0 0)), (1, .ref (ad w 7 i1)), (2, .int x2)] := hl
  refine lv_aload_n hx hb dX5_end_0 rfl (lv_at hl 1 rfl) ?_
  refine gf_7_5 hx hb htm hown hE hP hw hi1 (htm _ qw_144) dX5_end_1 ?_
  refine lv_iconst (v := 2) hx hb dX5_end_4 (by decide) ?_
  refine lv_icmp_eq (tgt := 17) hx hb dX5_end_5 (by decide) (fun c1 => ?_) (fun c1 => ?_)
  · have hF := ite_T c1 hF
    cases hF
    exact m_vret X hS hP dX5_end_17
  · have hF := ite_F c1 hF
    refine lv_aload_n hx hb dX5_end_8 rfl (lv_at hl 0 rfl) ?_
    refine gf_0_12 hx hb htm hown hE hP hw (htm _ qw_136) dX5_end_9 ?_
    refine lv_bipush (v := 24) hx hb dX5_end_12 (by decide) ?_
    refine lv_icmp_lt (tgt := 18) hx hb dX5_end_14 (by decide) (fun c2 => ?_) (fun c2 => ?_)
    · have hF := ite_T c2 hF
      refine lv_aload_n hx hb dX5_end_18 rfl (lv_at hl 1 rfl) ?_
      refine lv_iconst (v := 2) hx hb dX5_end_19 (by decide) ?_
      refine pf_7_5 hx hb htm hown hE hP hS hw hi1 (htm _ qw_144) dX5_end_20 (fun H locs hP hS => ?_)
      refine lv_aload_n hx hb dX5_end_23 rfl (lv_at hl 1 rfl) ?_
      refine lv_iload_n hx hb dX5_end_24 rfl (lv_at hl 2 rfl) ?_
      refine pf_7_6 hx hb htm hown hE hP hS hw hi1 (htm _ qw_160) dX5_end_25 (fun H locs hP hS => ?_)
      refine lv_aload_n hx hb dX5_end_28 rfl (lv_at hl 1 rfl) ?_
      refine lv_iconst (v := (-1)) hx hb dX5_end_29 (by decide) ?_
      refine pf_7_9 hx hb htm hown hE hP hS hw hi1 (htm _ qw_158) dX5_end_30 (fun H locs hP hS => ?_)
      refine lv_aload_n hx hb dX5_end_33 rfl (lv_at hl 1 rfl) ?_
      refine gf_7_17 hx hb htm hown hE hP hw hi1 (htm _ qw_161) dX5_end_34 ?_
      refine lv_iconst (v := 0) hx hb dX5_end_37 (by decide) ?_
      refine pf_10_2 hx hb htm hown hE hP hS hw hi1 (htm _ qw_162) dX5_end_38 (fun H locs hP hS => ?_)
      refine lv_iconst (v := 0) hx hb dX5_end_41 (by decide) ?_
      refine lv_istore_n (lv' := [(3, .int 0), (0, .ref (ad w 0 0)), (1, .ref (ad w 7 i1)), (2, .int x2)]) hx hb dX5_end_42 rfl hl (by decide) rfl (fun ls hl => ?_)
      exact l_X5_end_43 X hw  30 _ _ _ hi1 hP hS (lv_sub hl [1, 2, 0] rfl) hF
    · have hF := ite_F c2 hF
      cases hF
      exact m_vret X hS hP dX5_end_17
end
section
theorem vw_X5_signalTo : VW RX5 yX5_signalTo cX5_signalTo 5 none 3 := ⟨qw_254, qw_255, qw_177, qw_218, ⟨rfl, by decide, by decide, by decide +kernel⟩⟩
def f_X5_signalTo (G V : MT) (x1 : Int32) (x2 : Int32) (x3 : Int32) : Option (MT) :=
  (f_X5_living G V x1).bind (fun q1_ => oc q1_ (some V) (fun e1 => if e1 < 24 then (if x3 = 9 then ((f_X5_end G V e1 8).bind (fun q9_ => some q9_)) else ((f_X2_isSupervisor V e1).bind (fun q3_ => if q3_ = 0 then (if V 7 e1 12 = 0 then (if x3 = 0 then (some V) else ((f_X5_end G V e1 x3).bind (fun q7_ => some q7_))) else ((f_X5_putMail G V x1 3 ((10 * x2) + x3)).bind (fun q8_ => some q8_.2))) else (some V)))) else none))
def rm_X5_signalTo : Room := { frames := 2, cells := 0, slots := 0, locals := 46 }
set_option maxRecDepth 20000 in
set_option maxHeartbeats 4000000 in
theorem c_X5_signalTo {l : Launch} {D : va_G} {ad : Nat → Nat → Nat → Nat} {cI cZ cP : ClassId} {A : Nat → Prop} {w : Nat} (hw : w < 2) {G V U : MT} {x1 : Int32} {x2 : Int32} {x3 : Int32} {V' : MT}  (hF : f_X5_signalTo G V x1 x2 x3 = some V') : Met l yX5_signalTo (.code yX5_signalTo cX5_signalTo 5 none :: WM) rm_X5_signalTo (PcM D ad cI cZ cP A [.ref (ad w 0 0), .int x1, .int x2, .int x3] (Pic D ad cI cZ cP w G V U)) (QcV A (Pic D ad cI cZ cP w G V' U)) 0 0 A := by
  refine m_entry (by decide) (Nat.le_of_ble_eq_true rfl) (fun p e s m below meth c ls X hP hS hl => ?_)
  have X : MX p s m _ meth c cX5_signalTo RX5 5 none D ad cI cZ cP A := X
  obtain ⟨hx, hb, hml, hown, htm, hr, hlk, hE⟩ := id X
  have hl : lv_has ls 5 [(0, .ref (ad w 0 0)), (1, .int x1), (2, .int x2), (3, .int x3)] := hl
  refine lv_aload_n hx hb dX5_signalTo_0 rfl (lv_at hl 0 rfl) ?_
  refine lv_iload_n hx hb dX5_signalTo_1 rfl (lv_at hl 1 rfl) ?_
  obtain ⟨r1, hc1, hF⟩ := ob_S hF
  refine m_cVq X hS vw_X5_living qw_191 (c_X5_living hw hc1) ⟨rfl, rfl⟩ ⟨Nat.le_of_ble_eq_true rfl, Nat.le_of_ble_eq_true rfl⟩ (rc_0 hE hP hw) hP rfl hl.1 (rest := []) rfl (Nat.le_of_ble_eq_true rfl) dX5_signalTo_2 (fun H locs hP hS => ?_)
  rcases r1 with _ | e1
  · skip
    refine lv_astoreN (lv' := [(4, .null), (0, .ref (ad w 0 0)), (1, .int x1), (2, .int x2), (3, .int x3)]) hx hb dX5_signalTo_5 hl (by decide) rfl (fun ls hl => ?_)
    refine lv_aloadN hx hb dX5_signalTo_7 (lv_at hl 0 rfl) ?_
    refine lv_ifnonnullN hx hb dX5_signalTo_9 ?_
    cases hF
    exact m_vret X hS hP dX5_signalTo_12
  · obtain ⟨he1, hF⟩ := ite_S hF
    refine lv_astore (lv' := [(4, .ref (ad w 7 e1)), (0, .ref (ad w 0 0)), (1, .int x1), (2, .int x2), (3, .int x3)]) hx hb dX5_signalTo_5 hl (by decide) rfl (fun ls hl => ?_)
    refine lv_aload hx hb dX5_signalTo_7 (lv_at hl 0 rfl) ?_
    refine lv_ifnonnull (tgt := 13) hx hb dX5_signalTo_9 (by decide) ?_
    refine lv_iload_n hx hb dX5_signalTo_13 rfl (lv_at hl 4 rfl) ?_
    refine lv_bipush (v := 9) hx hb dX5_signalTo_14 (by decide) ?_
    refine lv_icmp_ne (tgt := 30) hx hb dX5_signalTo_16 (by decide) (fun c2 => ?_) (fun c2 => ?_)
    · have hF := ite_F c2 hF
      refine lv_aload hx hb dX5_signalTo_30 (lv_at hl 0 rfl) ?_
      obtain ⟨r3, hc3, hF⟩ := ob_S hF
      refine m_cVi X hS vw_X2_isSupervisor qw_194 (c_X2_isSupervisor hw he1 hc3) ⟨rfl, rfl⟩ ⟨Nat.le_of_ble_eq_true rfl, Nat.le_of_ble_eq_true rfl⟩ (rc_7 hE hP hw he1) hP rfl hl.1 (rest := []) rfl (Nat.le_of_ble_eq_true rfl) dX5_signalTo_32 (fun H locs hP hS => ?_)
      refine lv_if_eq (tgt := 39) hx hb dX5_signalTo_35 (by decide) (fun c4 => ?_) (fun c4 => ?_)
      · have hF := ite_T c4 hF
        refine lv_aload hx hb dX5_signalTo_39 (lv_at hl 0 rfl) ?_
        refine gf_7_12 hx hb htm hown hE hP hw he1 (htm _ qw_217) dX5_signalTo_41 ?_
        refine lv_if_eq (tgt := 63) hx hb dX5_signalTo_44 (by decide) (fun c5 => ?_) (fun c5 => ?_)
        · have hF := ite_T c5 hF
          refine lv_iload_n hx hb dX5_signalTo_63 rfl (lv_at hl 4 rfl) ?_
          refine lv_if_eq (tgt := 74) hx hb dX5_signalTo_64 (by decide) (fun c6 => ?_) (fun c6 => ?_)
          · have hF := ite_T c6 hF
            cases hF
            exact m_vret X hS hP dX5_signalTo_74
          · have hF := ite_F c6 hF
            refine lv_aload_n hx hb dX5_signalTo_67 rfl (lv_at hl 1 rfl) ?_
            refine lv_aload hx hb dX5_signalTo_68 (lv_at hl 0 rfl) ?_
            refine lv_iload_n hx hb dX5_signalTo_70 rfl (lv_at hl 4 rfl) ?_
            obtain ⟨V7, hc7, hF⟩ := ob_S hF
            refine m_cVv X hS vw_X5_end qw_181 (c_X5_end hw he1 hc7) ⟨rfl, rfl⟩ ⟨Nat.le_of_ble_eq_true rfl, Nat.le_of_ble_eq_true rfl⟩ (rc_0 hE hP hw) hP rfl hl.1 (rest := []) rfl (Nat.le_of_ble_eq_true rfl) dX5_signalTo_71 (fun H locs hP hS => ?_)
            cases hF
            exact m_vret X hS hP dX5_signalTo_74
        · have hF := ite_F c5 hF
          refine lv_aload_n hx hb dX5_signalTo_47 rfl (lv_at hl 1 rfl) ?_
          refine lv_iload_n hx hb dX5_signalTo_48 rfl (lv_at hl 2 rfl) ?_
          refine lv_iconst (v := 3) hx hb dX5_signalTo_49 (by decide) ?_
          refine lv_bipush (v := 10) hx hb dX5_signalTo_50 (by decide) ?_
          refine lv_iload_n hx hb dX5_signalTo_52 rfl (lv_at hl 3 rfl) ?_
          refine lv_imul hx hb dX5_signalTo_53 ?_
          refine lv_iload_n hx hb dX5_signalTo_54 rfl (lv_at hl 4 rfl) ?_
          refine lv_iadd hx hb dX5_signalTo_55 ?_
          obtain ⟨⟨r8, V8⟩, hc8, hF⟩ := ob_S hF
          refine m_cVi X hS vw_X5_putMail qw_211 (c_X5_putMail hw hc8) ⟨rfl, rfl⟩ ⟨Nat.le_of_ble_eq_true rfl, Nat.le_of_ble_eq_true rfl⟩ (rc_0 hE hP hw) hP rfl hl.1 (rest := []) rfl (Nat.le_of_ble_eq_true rfl) dX5_signalTo_56 (fun H locs hP hS => ?_)
          refine lv_pop hx hb dX5_signalTo_59 rfl ?_
          refine lv_goto (tgt := 74) hx hb dX5_signalTo_60 (by decide) ?_
          cases hF
          exact m_vret X hS hP dX5_signalTo_74
      · have hF := ite_F c4 hF
        cases hF
        exact m_vret X hS hP dX5_signalTo_38
    · have hF := ite_T c2 hF
      refine lv_aload_n hx hb dX5_signalTo_19 rfl (lv_at hl 1 rfl) ?_
      refine lv_aload hx hb dX5_signalTo_20 (lv_at hl 0 rfl) ?_
      refine lv_bipush (v := 8) hx hb dX5_signalTo_22 (by decide) ?_
      obtain ⟨V9, hc9, hF⟩ := ob_S hF
      refine m_cVv X hS vw_X5_end qw_181 (c_X5_end hw he1 hc9) ⟨rfl, rfl⟩ ⟨Nat.le_of_ble_eq_true rfl, Nat.le_of_ble_eq_true rfl⟩ (rc_0 hE hP hw) hP rfl hl.1 (rest := []) rfl (Nat.le_of_ble_eq_true rfl) dX5_signalTo_24 (fun H locs hP hS => ?_)
      refine lv_goto (tgt := 74) hx hb dX5_signalTo_27 (by decide) ?_
      cases hF
      exact m_vret X hS hP dX5_signalTo_74
end
section
theorem vw_X5_noteRestart : VW RX5 yX5_noteRestart cX5_noteRestart 2 none 1 := ⟨qw_235, qw_236, qw_177, qw_219, ⟨rfl, by decide, by decide, by decide +kernel⟩⟩
theorem vw_X5_restartsAbove : VW RX5 yX5_restartsAbove cX5_restartsAbove 5 (some .int) 2 := ⟨qw_224, qw_225, qw_177, qw_220, ⟨rfl, by decide, by decide, by decide +kernel⟩⟩
theorem vw_X5_restartsEver : VW RX5 yX5_restartsEver cX5_restartsEver 2 (some .int) 1 := ⟨qw_460, qw_461, qw_177, qw_265, ⟨rfl, by decide, by decide, by decide +kernel⟩⟩
theorem vw_X5_restartsLately : VW RX5 yX5_restartsLately cX5_restartsLately 2 (some .int) 1 := ⟨qw_238, qw_239, qw_177, qw_226, ⟨rfl, by decide, by decide, by decide +kernel⟩⟩
def f_X5_noteRestart (G V : MT) (x1 : Int32) : Option (MT) :=
  if 48 ≤ V 0 0 16 then (some V) else (if ¬ (V 0 0 16 < 0 ∨ 48 ≤ Int32.toNatClampNeg (V 0 0 16)) then (if ¬ ((pt V 5 0 (Int32.toNatClampNeg (V 0 0 16)) x1) 0 0 16 < 0 ∨ 48 ≤ Int32.toNatClampNeg ((pt V 5 0 (Int32.toNatClampNeg (V 0 0 16)) x1) 0 0 16)) then (some (pt (pt (pt V 5 0 (Int32.toNatClampNeg (V 0 0 16)) x1) 6 0 (Int32.toNatClampNeg ((pt V 5 0 (Int32.toNatClampNeg (V 0 0 16)) x1) 0 0 16)) ((pt V 5 0 (Int32.toNatClampNeg (V 0 0 16)) x1) 0 0 6)) 0 0 16 (((pt (pt V 5 0 (Int32.toNatClampNeg (V 0 0 16)) x1) 6 0 (Int32.toNatClampNeg ((pt V 5 0 (Int32.toNatClampNeg (V 0 0 16)) x1) 0 0 16)) ((pt V 5 0 (Int32.toNatClampNeg (V 0 0 16)) x1) 0 0 6)) 0 0 16) + 1))) else none) else none)
def rm_X5_noteRestart : Room := { frames := 0, cells := 0, slots := 0, locals := 0 }
set_option maxRecDepth 20000 in
set_option maxHeartbeats 4000000 in
theorem c_X5_noteRestart {l : Launch} {D : va_G} {ad : Nat → Nat → Nat → Nat} {cI cZ cP : ClassId} {A : Nat → Prop} {w : Nat} (hw : w < 2) {G V U : MT} {x1 : Int32} {V' : MT}  (hF : f_X5_noteRestart G V x1 = some V') : Met l yX5_noteRestart (.code yX5_noteRestart cX5_noteRestart 2 none :: WM) rm_X5_noteRestart (PcM D ad cI cZ cP A [.ref (ad w 0 0), .int x1] (Pic D ad cI cZ cP w G V U)) (QcV A (Pic D ad cI cZ cP w G V' U)) 0 0 A := by
  refine m_entry (by decide) (Nat.le_of_ble_eq_true rfl) (fun p e s m below meth c ls X hP hS hl => ?_)
  have X : MX p s m _ meth c cX5_noteRestart RX5 2 none D ad cI cZ cP A := X
  obtain ⟨hx, hb, hml, hown, htm, hr, hlk, hE⟩ := id X
  have hl : lv_has ls 2 [(0, .ref (ad w 0 0)), (1, .int x1)] := hl
  refine lv_aload_n hx hb dX5_noteRestart_0 rfl (lv_at hl 0 rfl) ?_
  refine gf_0_16 hx hb htm hown hE hP hw (htm _ qw_138) dX5_noteRestart_1 ?_
  refine lv_bipush (v := 48) hx hb dX5_noteRestart_4 (by decide) ?_
  refine lv_icmp_ge (tgt := 42) hx hb dX5_noteRestart_6 (by decide) (fun c1 => ?_) (fun c1 => ?_)
  · have hF := ite_T c1 hF
    cases hF
    exact m_vret X hS hP dX5_noteRestart_42
  · have hF := ite_F c1 hF
    refine lv_aload_n hx hb dX5_noteRestart_9 rfl (lv_at hl 0 rfl) ?_
    refine gf_0_14 hx hb htm hown hE hP hw (htm _ qw_123) dX5_noteRestart_10 ?_
    refine lv_aload_n hx hb dX5_noteRestart_13 rfl (lv_at hl 0 rfl) ?_
    refine gf_0_16 hx hb htm hown hE hP hw (htm _ qw_138) dX5_noteRestart_14 ?_
    refine lv_iload_n hx hb dX5_noteRestart_17 rfl (lv_at hl 1 rfl) ?_
    obtain ⟨hn2, hF⟩ := ite_S hF
    refine as_5 hx hb htm hown hE hP hS hw hn2 dX5_noteRestart_18 (fun H locs hP hS => ?_)
    refine lv_aload_n hx hb dX5_noteRestart_19 rfl (lv_at hl 0 rfl) ?_
    refine gf_0_15 hx hb htm hown hE hP hw (htm _ qw_124) dX5_noteRestart_20 ?_
    refine lv_aload_n hx hb dX5_noteRestart_23 rfl (lv_at hl 0 rfl) ?_
    refine gf_0_16 hx hb htm hown hE hP hw (htm _ qw_138) dX5_noteRestart_24 ?_
    refine lv_aload_n hx hb dX5_noteRestart_27 rfl (lv_at hl 0 rfl) ?_
    refine gf_0_6 hx hb htm hown hE hP hw (htm _ qw_131) dX5_noteRestart_28 ?_
    obtain ⟨hn3, hF⟩ := ite_S hF
    refine as_6 hx hb htm hown hE hP hS hw hn3 dX5_noteRestart_31 (fun H locs hP hS => ?_)
    refine lv_aload_n hx hb dX5_noteRestart_32 rfl (lv_at hl 0 rfl) ?_
    refine lv_dup hx hb dX5_noteRestart_33 rfl ?_
    refine gf_0_16 hx hb htm hown hE hP hw (htm _ qw_138) dX5_noteRestart_34 ?_
    refine lv_iconst (v := 1) hx hb dX5_noteRestart_37 (by decide) ?_
    refine lv_iadd hx hb dX5_noteRestart_38 ?_
    refine pf_0_16 hx hb htm hown hE hP hS hw (htm _ qw_138) dX5_noteRestart_39 (fun H locs hP hS => ?_)
    cases hF
    exact m_vret X hS hP dX5_noteRestart_42
def f_X5_restartsAbove_5 (G V : MT) : Nat → Nat → Int32 → Int32 → Int32 → Option (Int32)
  | 0, _, _, _, _ => none
  | n + 1, j1, y2, y3, y4 => if V 0 0 16 ≤ y4 then (some y3) else (if 48 ≤ y4 then (some y3) else (if ¬ (y4 < 0 ∨ 48 ≤ Int32.toNatClampNeg y4) then (if V 5 0 (Int32.toNatClampNeg y4) = nI j1 then (if ¬ (y4 < 0 ∨ 48 ≤ Int32.toNatClampNeg y4) then (if V 6 0 (Int32.toNatClampNeg y4) ≤ y2 then ((f_X5_restartsAbove_5 G V n) j1 y2 y3 (y4 + 1)) else ((f_X5_restartsAbove_5 G V n) j1 y2 (y3 + 1) (y4 + 1))) else none) else ((f_X5_restartsAbove_5 G V n) j1 y2 y3 (y4 + 1))) else none))
def f_X5_restartsAbove (G V : MT) (i1 : Nat) (x2 : Int32) : Option (Int32) :=
  f_X5_restartsAbove_5 G V  60 i1 x2 0 0
def rm_X5_restartsAbove : Room := { frames := 0, cells := 0, slots := 0, locals := 0 }
set_option maxRecDepth 20000 in
set_option maxHeartbeats 4000000 in
theorem l_X5_restartsAbove_5 {p : Program} {l : Launch} {e : Env} {s : State} {m : MethodId} {args : Array Value} {below : List Frame} {meth : Method} {c : Code} {D : va_G} {ad : Nat → Nat → Nat → Nat} {cI cZ cP : ClassId} {A : Nat → Prop} {G V U : MT} {r : Int32} (X : MX p s m args meth c cX5_restartsAbove RX5 5 (some .int) D ad cI cZ cP A) {w : Nat} (hw : w < 2) (n : Nat) : ∀ {H : Heap} {locs : List Loc} {ls : Array Slot} (j1 : Nat) (y2 : Int32) (y3 : Int32) (y4 : Int32), j1 < 24 → Pic D ad cI cZ cP w G V U H → va_S A s.heap H locs → lv_has ls 5 [(0, .ref (ad w 0 0)), (1, .ref (ad w 7 j1)), (2, .int y2), (3, .int y3), (4, .int y4)] → f_X5_restartsAbove_5 G V n j1 y2 y3 y4 = some r → W p l e rm_X5_restartsAbove s m args below meth c H locs 0 0 (MQ below (QcI A r (Pic D ad cI cZ cP w G V U)) args s 0 0 A) (F0 m 5 ls []) := by
  obtain ⟨hx, hb, hml, hown, htm, hr, hlk, hE⟩ := id X
  induction n with
  | zero =>
    intros
    exact ns_S (by assumption)
  | succ n ih5 =>
    intro H locs ls j1 y2 y3 y4 hj1  hP hS hl hF
    rw [f_X5_restartsAbove_5] at hF
    refine lv_iload hx hb dX5_restartsAbove_5 (lv_at hl 4 rfl) ?_
    refine lv_aload_n hx hb dX5_restartsAbove_7 rfl (lv_at hl 0 rfl) ?_
    refine gf_0_16 hx hb htm hown hE hP hw (htm _ qw_138) dX5_restartsAbove_8 ?_
    refine lv_icmp_ge (tgt := 55) hx hb dX5_restartsAbove_11 (by decide) (fun c1 => ?_) (fun c1 => ?_)
    · have hF := ite_T c1 hF
      refine lv_iload_n hx hb dX5_restartsAbove_55 rfl (lv_at hl 3 rfl) ?_
      cases hF
      exact m_iret X hS hP rfl dX5_restartsAbove_56
    · have hF := ite_F c1 hF
      refine lv_iload hx hb dX5_restartsAbove_14 (lv_at hl 4 rfl) ?_
      refine lv_bipush (v := 48) hx hb dX5_restartsAbove_16 (by decide) ?_
      refine lv_icmp_ge (tgt := 55) hx hb dX5_restartsAbove_18 (by decide) (fun c2 => ?_) (fun c2 => ?_)
      · have hF := ite_T c2 hF
        refine lv_iload_n hx hb dX5_restartsAbove_55 rfl (lv_at hl 3 rfl) ?_
        cases hF
        exact m_iret X hS hP rfl dX5_restartsAbove_56
      · have hF := ite_F c2 hF
        refine lv_aload_n hx hb dX5_restartsAbove_21 rfl (lv_at hl 0 rfl) ?_
        refine gf_0_14 hx hb htm hown hE hP hw (htm _ qw_123) dX5_restartsAbove_22 ?_
        refine lv_iload hx hb dX5_restartsAbove_25 (lv_at hl 4 rfl) ?_
        obtain ⟨hn3, hF⟩ := ite_S hF
        refine al_5 hx hb htm hown hE hP hw hn3 dX5_restartsAbove_27 ?_
        refine lv_aload_n hx hb dX5_restartsAbove_28 rfl (lv_at hl 1 rfl) ?_
        refine gf_7_0 hx hb htm hown hE hP hw hj1 (htm _ qw_163) dX5_restartsAbove_29 ?_
        refine lv_icmp_ne (tgt := 49) hx hb dX5_restartsAbove_32 (by decide) (fun c4 => ?_) (fun c4 => ?_)
        · have hF := ite_F c4 hF
          refine lv_iinc (v := y4 + 1) (lv' := [(4, .int (y4 + 1)), (0, .ref (ad w 0 0)), (1, .ref (ad w 7 j1)), (2, .int y2), (3, .int y3)]) hx hb dX5_restartsAbove_49 hl (k := 4) rfl rfl (by decide) rfl (fun ls hl => ?_)
          refine lv_goto (tgt := 5) hx hb dX5_restartsAbove_52 (by decide) ?_
          exact ih5 _ _ _ _ hj1 hP hS (lv_sub hl [1, 2, 3, 4, 0] rfl) hF
        · have hF := ite_T c4 hF
          refine lv_aload_n hx hb dX5_restartsAbove_35 rfl (lv_at hl 0 rfl) ?_
          refine gf_0_15 hx hb htm hown hE hP hw (htm _ qw_124) dX5_restartsAbove_36 ?_
          refine lv_iload hx hb dX5_restartsAbove_39 (lv_at hl 4 rfl) ?_
          obtain ⟨hn5, hF⟩ := ite_S hF
          refine al_6 hx hb htm hown hE hP hw hn5 dX5_restartsAbove_41 ?_
          refine lv_iload_n hx hb dX5_restartsAbove_42 rfl (lv_at hl 2 rfl) ?_
          refine lv_icmp_le (tgt := 49) hx hb dX5_restartsAbove_43 (by decide) (fun c6 => ?_) (fun c6 => ?_)
          · have hF := ite_T c6 hF
            refine lv_iinc (v := y4 + 1) (lv' := [(4, .int (y4 + 1)), (0, .ref (ad w 0 0)), (1, .ref (ad w 7 j1)), (2, .int y2), (3, .int y3)]) hx hb dX5_restartsAbove_49 hl (k := 4) rfl rfl (by decide) rfl (fun ls hl => ?_)
            refine lv_goto (tgt := 5) hx hb dX5_restartsAbove_52 (by decide) ?_
            exact ih5 _ _ _ _ hj1 hP hS (lv_sub hl [1, 2, 3, 4, 0] rfl) hF
          · have hF := ite_F c6 hF
            refine lv_iinc (v := y3 + 1) (lv' := [(3, .int (y3 + 1)), (0, .ref (ad w 0 0)), (1, .ref (ad w 7 j1)), (2, .int y2), (4, .int y4)]) hx hb dX5_restartsAbove_46 hl (k := 3) rfl rfl (by decide) rfl (fun ls hl => ?_)
            refine lv_iinc (v := y4 + 1) (lv' := [(4, .int (y4 + 1)), (3, .int (y3 + 1)), (0, .ref (ad w 0 0)), (1, .ref (ad w 7 j1)), (2, .int y2)]) hx hb dX5_restartsAbove_49 hl (k := 4) rfl rfl (by decide) rfl (fun ls hl => ?_)
            refine lv_goto (tgt := 5) hx hb dX5_restartsAbove_52 (by decide) ?_
            exact ih5 _ _ _ _ hj1 hP hS (lv_sub hl [2, 3, 4, 1, 0] rfl) hF
set_option maxRecDepth 20000 in
set_option maxHeartbeats 4000000 in
theorem c_X5_restartsAbove {l : Launch} {D : va_G} {ad : Nat → Nat → Nat → Nat} {cI cZ cP : ClassId} {A : Nat → Prop} {w : Nat} (hw : w < 2) {G V U : MT} {i1 : Nat} {x2 : Int32} {r : Int32}  (hi1 : i1 < 24) (hF : f_X5_restartsAbove G V i1 x2 = some r) : Met l yX5_restartsAbove (.code yX5_restartsAbove cX5_restartsAbove 5 (some .int) :: WM) rm_X5_restartsAbove (PcM D ad cI cZ cP A [.ref (ad w 0 0), .ref (ad w 7 i1), .int x2] (Pic D ad cI cZ cP w G V U)) (QcI A r (Pic D ad cI cZ cP w G V U)) 0 0 A := by
  refine m_entry (by decide) (Nat.le_of_ble_eq_true rfl) (fun p e s m below meth c ls X hP hS hl => ?_)
  have X : MX p s m _ meth c cX5_restartsAbove RX5 5 (some .int) D ad cI cZ cP A := X
  obtain ⟨hx, hb, hml, hown, htm, hr, hlk, hE⟩ := id X
  have hl : lv_has ls 5 [(0, .ref (ad w 0 0)), (1, .ref (ad w 7 i1)), (2, .int x2)] := hl
  refine lv_iconst (v := 0) hx hb dX5_restartsAbove_0 (by decide) ?_
  refine lv_istore_n (lv' := [(3, .int 0), (0, .ref (ad w 0 0)), (1, .ref (ad w 7 i1)), (2, .int x2)]) hx hb dX5_restartsAbove_1 rfl hl (by decide) rfl (fun ls hl => ?_)
  refine lv_iconst (v := 0) hx hb dX5_restartsAbove_2 (by decide) ?_
  refine lv_istore (lv' := [(4, .int 0), (3, .int 0), (0, .ref (ad w 0 0)), (1, .ref (ad w 7 i1)), (2, .int x2)]) hx hb dX5_restartsAbove_3 hl (by decide) rfl (fun ls hl => ?_)
  exact l_X5_restartsAbove_5 X hw  60 _ _ _ _ hi1 hP hS (lv_sub hl [2, 3, 4, 1, 0] rfl) hF
def f_X5_restartsEver (G V : MT) (i1 : Nat) : Option (Int32) :=
  (f_X5_restartsAbove G V i1 (-1)).bind (fun q1_ => some q1_)
def rm_X5_restartsEver : Room := { frames := 1, cells := 0, slots := 0, locals := 24 }
set_option maxRecDepth 20000 in
set_option maxHeartbeats 4000000 in
theorem c_X5_restartsEver {l : Launch} {D : va_G} {ad : Nat → Nat → Nat → Nat} {cI cZ cP : ClassId} {A : Nat → Prop} {w : Nat} (hw : w < 2) {G V U : MT} {i1 : Nat} {r : Int32}  (hi1 : i1 < 24) (hF : f_X5_restartsEver G V i1 = some r) : Met l yX5_restartsEver (.code yX5_restartsEver cX5_restartsEver 2 (some .int) :: WM) rm_X5_restartsEver (PcM D ad cI cZ cP A [.ref (ad w 0 0), .ref (ad w 7 i1)] (Pic D ad cI cZ cP w G V U)) (QcI A r (Pic D ad cI cZ cP w G V U)) 0 0 A := by
  refine m_entry (by decide) (Nat.le_of_ble_eq_true rfl) (fun p e s m below meth c ls X hP hS hl => ?_)
  have X : MX p s m _ meth c cX5_restartsEver RX5 2 (some .int) D ad cI cZ cP A := X
  obtain ⟨hx, hb, hml, hown, htm, hr, hlk, hE⟩ := id X
  have hl : lv_has ls 2 [(0, .ref (ad w 0 0)), (1, .ref (ad w 7 i1))] := hl
  refine lv_aload_n hx hb dX5_restartsEver_0 rfl (lv_at hl 0 rfl) ?_
  refine lv_aload_n hx hb dX5_restartsEver_1 rfl (lv_at hl 1 rfl) ?_
  refine lv_iconst (v := (-1)) hx hb dX5_restartsEver_2 (by decide) ?_
  obtain ⟨r1, hc1, hF⟩ := ob_S hF
  refine m_cVi X hS vw_X5_restartsAbove qw_223 (c_X5_restartsAbove hw hi1 hc1) ⟨rfl, rfl⟩ ⟨Nat.le_of_ble_eq_true rfl, Nat.le_of_ble_eq_true rfl⟩ (rc_0 hE hP hw) hP rfl hl.1 (rest := []) rfl (Nat.le_of_ble_eq_true rfl) dX5_restartsEver_3 (fun H locs hP hS => ?_)
  cases hF
  exact m_iret X hS hP rfl dX5_restartsEver_6
def f_X5_restartsLately (G V : MT) (i1 : Nat) : Option (Int32) :=
  (f_X3_hasSpec G (V 7 i1 3)).bind (fun q1_ => if q1_ = 0 then (some 0) else (if ¬ (V 7 i1 3 < 0 ∨ 5 ≤ Int32.toNatClampNeg (V 7 i1 3)) then ((f_X5_restartsAbove G V i1 ((V 0 0 6) - (G 25 0 (Int32.toNatClampNeg (V 7 i1 3))))).bind (fun q4_ => some q4_)) else none))
def rm_X5_restartsLately : Room := { frames := 1, cells := 0, slots := 0, locals := 24 }
set_option maxRecDepth 20000 in
set_option maxHeartbeats 4000000 in
theorem c_X5_restartsLately {l : Launch} {D : va_G} {ad : Nat → Nat → Nat → Nat} {cI cZ cP : ClassId} {A : Nat → Prop} {w : Nat} (hw : w < 2) {G V U : MT} {i1 : Nat} {r : Int32}  (hi1 : i1 < 24) (hF : f_X5_restartsLately G V i1 = some r) : Met l yX5_restartsLately (.code yX5_restartsLately cX5_restartsLately 2 (some .int) :: WM) rm_X5_restartsLately (PcM D ad cI cZ cP A [.ref (ad w 0 0), .ref (ad w 7 i1)] (Pic D ad cI cZ cP w G V U)) (QcI A r (Pic D ad cI cZ cP w G V U)) 0 0 A := by
  refine m_entry (by decide) (Nat.le_of_ble_eq_true rfl) (fun p e s m below meth c ls X hP hS hl => ?_)
  have X : MX p s m _ meth c cX5_restartsLately RX5 2 (some .int) D ad cI cZ cP A := X
  obtain ⟨hx, hb, hml, hown, htm, hr, hlk, hE⟩ := id X
  have hl : lv_has ls 2 [(0, .ref (ad w 0 0)), (1, .ref (ad w 7 i1))] := hl
  refine lv_aload_n hx hb dX5_restartsLately_0 rfl (lv_at hl 0 rfl) ?_
  refine gf_0_1 hx hb htm hown hE hP hw (htm _ qw_126) dX5_restartsLately_1 ?_
  refine lv_aload_n hx hb dX5_restartsLately_4 rfl (lv_at hl 1 rfl) ?_
  refine gf_7_3 hx hb htm hown hE hP hw hi1 (htm _ qw_155) dX5_restartsLately_5 ?_
  obtain ⟨r1, hc1, hF⟩ := ob_S hF
  refine m_cVi X hS vw_X3_hasSpec qw_222 (c_X3_hasSpec hw hc1) ⟨rfl, rfl⟩ ⟨Nat.le_of_ble_eq_true rfl, Nat.le_of_ble_eq_true rfl⟩ (rc_22 hE hP) hP rfl hl.1 (rest := []) rfl (Nat.le_of_ble_eq_true rfl) dX5_restartsLately_8 (fun H locs hP hS => ?_)
  refine lv_if_eq (tgt := 39) hx hb dX5_restartsLately_11 (by decide) (fun c2 => ?_) (fun c2 => ?_)
  · have hF := ite_T c2 hF
    refine lv_iconst (v := 0) hx hb dX5_restartsLately_39 (by decide) ?_
    cases hF
    exact m_iret X hS hP rfl dX5_restartsLately_40
  · have hF := ite_F c2 hF
    refine lv_aload_n hx hb dX5_restartsLately_14 rfl (lv_at hl 0 rfl) ?_
    refine lv_aload_n hx hb dX5_restartsLately_15 rfl (lv_at hl 1 rfl) ?_
    refine lv_aload_n hx hb dX5_restartsLately_16 rfl (lv_at hl 0 rfl) ?_
    refine gf_0_6 hx hb htm hown hE hP hw (htm _ qw_131) dX5_restartsLately_17 ?_
    refine lv_aload_n hx hb dX5_restartsLately_20 rfl (lv_at hl 0 rfl) ?_
    refine gf_0_1 hx hb htm hown hE hP hw (htm _ qw_126) dX5_restartsLately_21 ?_
    refine gf_22_3 hx hb htm hown hE hP (htm _ qw_221) dX5_restartsLately_24 ?_
    refine lv_aload_n hx hb dX5_restartsLately_27 rfl (lv_at hl 1 rfl) ?_
    refine gf_7_3 hx hb htm hown hE hP hw hi1 (htm _ qw_155) dX5_restartsLately_28 ?_
    obtain ⟨hn3, hF⟩ := ite_S hF
    refine al_25 hx hb htm hown hE hP hn3 dX5_restartsLately_31 ?_
    refine lv_isub hx hb dX5_restartsLately_32 ?_
    obtain ⟨r4, hc4, hF⟩ := ob_S hF
    refine m_cVi X hS vw_X5_restartsAbove qw_223 (c_X5_restartsAbove hw hi1 hc4) ⟨rfl, rfl⟩ ⟨Nat.le_of_ble_eq_true rfl, Nat.le_of_ble_eq_true rfl⟩ (rc_0 hE hP hw) hP rfl hl.1 (rest := []) rfl (Nat.le_of_ble_eq_true rfl) dX5_restartsLately_33 (fun H locs hP hS => ?_)
    refine lv_goto (tgt := 40) hx hb dX5_restartsLately_36 (by decide) ?_
    cases hF
    exact m_iret X hS hP rfl dX5_restartsLately_40
end
section
theorem vw_X5_endedBehind : VW RX5 yX5_endedBehind cX5_endedBehind 4 (some .int) 1 := ⟨qw_488, qw_489, qw_177, qw_266, ⟨rfl, by decide, by decide, by decide +kernel⟩⟩
theorem vw_X5_link : VW RX5 yX5_link cX5_link 3 none 2 := ⟨qw_273, qw_274, qw_177, qw_264, ⟨rfl, by decide, by decide, by decide +kernel⟩⟩
theorem vw_X5_unlink : VW RX5 yX5_unlink cX5_unlink 3 none 2 := ⟨qw_251, qw_252, qw_177, qw_216, ⟨rfl, by decide, by decide, by decide +kernel⟩⟩
def f_X5_endedBehind_8 (G V : MT) : Nat → Int32 → Int32 → Option (Int32)
  | 0, _, _ => none
  | n + 1, y2, y3 => if V 0 0 12 ≤ y3 then (some y2) else (if 24 ≤ y3 then (some y2) else (if ¬ (y3 < 0 ∨ 24 ≤ Int32.toNatClampNeg y3) then ((f_X5_endedBehind_8 G V n) (y2 ||| (1 <<< ((V 4 0 (Int32.toNatClampNeg y3)) &&& 31))) (y3 + 1)) else none))
def f_X5_endedBehind (G V : MT) (x1 : Int32) : Option (Int32) :=
  f_X5_endedBehind_8 G V  30 0 (if 0 < x1 then x1 else 0)
def rm_X5_endedBehind : Room := { frames := 1, cells := 0, slots := 0, locals := 22 }
set_option maxRecDepth 20000 in
set_option maxHeartbeats 4000000 in
theorem l_X5_endedBehind_8 {p : Program} {l : Launch} {e : Env} {s : State} {m : MethodId} {args : Array Value} {below : List Frame} {meth : Method} {c : Code} {D : va_G} {ad : Nat → Nat → Nat → Nat} {cI cZ cP : ClassId} {A : Nat → Prop} {G V U : MT} {r : Int32} (X : MX p s m args meth c cX5_endedBehind RX5 4 (some .int) D ad cI cZ cP A) {w : Nat} (hw : w < 2) (n : Nat) : ∀ {H : Heap} {locs : List Loc} {ls : Array Slot} (y2 : Int32) (y3 : Int32), Pic D ad cI cZ cP w G V U H → va_S A s.heap H locs → lv_has ls 4 [(0, .ref (ad w 0 0)), (2, .int y2), (3, .int y3)] → f_X5_endedBehind_8 G V n y2 y3 = some r → W p l e rm_X5_endedBehind s m args below meth c H locs 0 0 (MQ below (QcI A r (Pic D ad cI cZ cP w G V U)) args s 0 0 A) (F0 m 8 ls []) := by
  obtain ⟨hx, hb, hml, hown, htm, hr, hlk, hE⟩ := id X
  induction n with
  | zero =>
    intros
    exact ns_S (by assumption)
  | succ n ih8 =>
    intro H locs ls y2 y3   hP hS hl hF
    rw [f_X5_endedBehind_8] at hF
    refine lv_iload_n hx hb dX5_endedBehind_8 rfl (lv_at hl 2 rfl) ?_
    refine lv_aload_n hx hb dX5_endedBehind_9 rfl (lv_at hl 0 rfl) ?_
    refine gf_0_12 hx hb htm hown hE hP hw (htm _ qw_136) dX5_endedBehind_10 ?_
    refine lv_icmp_ge (tgt := 39) hx hb dX5_endedBehind_13 (by decide) (fun c1 => ?_) (fun c1 => ?_)
    · have hF := ite_T c1 hF
      refine lv_iload_n hx hb dX5_endedBehind_39 rfl (lv_at hl 1 rfl) ?_
      cases hF
      exact m_iret X hS hP rfl dX5_endedBehind_40
    · have hF := ite_F c1 hF
      refine lv_iload_n hx hb dX5_endedBehind_16 rfl (lv_at hl 2 rfl) ?_
      refine lv_bipush (v := 24) hx hb dX5_endedBehind_17 (by decide) ?_
      refine lv_icmp_ge (tgt := 39) hx hb dX5_endedBehind_19 (by decide) (fun c2 => ?_) (fun c2 => ?_)
      · have hF := ite_T c2 hF
        refine lv_iload_n hx hb dX5_endedBehind_39 rfl (lv_at hl 1 rfl) ?_
        cases hF
        exact m_iret X hS hP rfl dX5_endedBehind_40
      · have hF := ite_F c2 hF
        refine lv_iload_n hx hb dX5_endedBehind_22 rfl (lv_at hl 1 rfl) ?_
        refine lv_iconst (v := 1) hx hb dX5_endedBehind_23 (by decide) ?_
        refine lv_aload_n hx hb dX5_endedBehind_24 rfl (lv_at hl 0 rfl) ?_
        refine gf_0_11 hx hb htm hown hE hP hw (htm _ qw_122) dX5_endedBehind_25 ?_
        refine lv_iload_n hx hb dX5_endedBehind_28 rfl (lv_at hl 2 rfl) ?_
        obtain ⟨hn3, hF⟩ := ite_S hF
        refine al_4 hx hb htm hown hE hP hw hn3 dX5_endedBehind_29 ?_
        refine lv_ishl hx hb dX5_endedBehind_30 ?_
        refine lv_ior hx hb dX5_endedBehind_31 ?_
        refine lv_istore_n (lv' := [(2, .int (y2 ||| (1 <<< ((V 4 0 (Int32.toNatClampNeg y3)) &&& 31)))), (0, .ref (ad w 0 0)), (3, .int y3)]) hx hb dX5_endedBehind_32 rfl hl (by decide) rfl (fun ls hl => ?_)
        refine lv_iinc (v := y3 + 1) (lv' := [(3, .int (y3 + 1)), (2, .int (y2 ||| (1 <<< ((V 4 0 (Int32.toNatClampNeg y3)) &&& 31)))), (0, .ref (ad w 0 0))]) hx hb dX5_endedBehind_33 hl (k := 2) rfl rfl (by decide) rfl (fun ls hl => ?_)
        refine lv_goto (tgt := 8) hx hb dX5_endedBehind_36 (by decide) ?_
        exact ih8 _ _  hP hS (lv_sub hl [2, 1, 0] rfl) hF
set_option maxRecDepth 20000 in
set_option maxHeartbeats 4000000 in
theorem c_X5_endedBehind {l : Launch} {D : va_G} {ad : Nat → Nat → Nat → Nat} {cI cZ cP : ClassId} {A : Nat → Prop} {w : Nat} (hw : w < 2) {G V U : MT} {x1 : Int32} {r : Int32}  (hF : f_X5_endedBehind G V x1 = some r) : Met l yX5_endedBehind (.code yX5_endedBehind cX5_endedBehind 4 (some .int) :: WM) rm_X5_endedBehind (PcM D ad cI cZ cP A [.ref (ad w 0 0), .int x1] (Pic D ad cI cZ cP w G V U)) (QcI A r (Pic D ad cI cZ cP w G V U)) 0 0 A := by
  refine m_entry (by decide) (Nat.le_of_ble_eq_true rfl) (fun p e s m below meth c ls X hP hS hl => ?_)
  have X : MX p s m _ meth c cX5_endedBehind RX5 4 (some .int) D ad cI cZ cP A := X
  obtain ⟨hx, hb, hml, hown, htm, hr, hlk, hE⟩ := id X
  have hl : lv_has ls 4 [(0, .ref (ad w 0 0)), (1, .int x1)] := hl
  refine lv_iconst (v := 0) hx hb dX5_endedBehind_0 (by decide) ?_
  refine lv_istore_n (lv' := [(2, .int 0), (0, .ref (ad w 0 0)), (1, .int x1)]) hx hb dX5_endedBehind_1 rfl hl (by decide) rfl (fun ls hl => ?_)
  refine lv_iconst (v := 0) hx hb dX5_endedBehind_2 (by decide) ?_
  refine lv_iload_n hx hb dX5_endedBehind_3 rfl (lv_at hl 2 rfl) ?_
  refine va_mmax hx hb (hml.trans hl.1.symm) hown (htm _ qw_130) (htm _ qw_80) (htm _ qw_77) (htm _ qw_81) (Nat.le_of_ble_eq_true rfl) (Nat.le_of_ble_eq_true rfl) (Nat.zero_le _) (Nat.zero_le _) dX5_endedBehind_4 ?_
  refine lv_istore_n (lv' := [(3, .int (if 0 < x1 then x1 else 0)), (2, .int 0), (0, .ref (ad w 0 0)), (1, .int x1)]) hx hb dX5_endedBehind_7 rfl hl (by decide) rfl (fun ls hl => ?_)
  exact l_X5_endedBehind_8 X hw  30 _ _ hP hS (lv_sub hl [2, 1, 0] rfl) hF
def f_X5_link (G V : MT) (i1 : Nat) (i2 : Nat) : Option (MT) :=
  if i1 = i2 then (some V) else (some (pt (pt V 7 i1 13 ((V 7 i1 13) ||| (1 <<< ((nI i2) &&& 31)))) 7 i2 13 (((pt V 7 i1 13 ((V 7 i1 13) ||| (1 <<< ((nI i2) &&& 31)))) 7 i2 13) ||| (1 <<< ((nI i1) &&& 31)))))
def rm_X5_link : Room := { frames := 0, cells := 0, slots := 0, locals := 0 }
set_option maxRecDepth 20000 in
set_option maxHeartbeats 4000000 in
theorem c_X5_link {l : Launch} {D : va_G} {ad : Nat → Nat → Nat → Nat} {cI cZ cP : ClassId} {A : Nat → Prop} {w : Nat} (hw : w < 2) {G V U : MT} {i1 : Nat} {i2 : Nat} {V' : MT}  (hi1 : i1 < 24) (hi2 : i2 < 24) (hF : f_X5_link G V i1 i2 = some V') : Met l yX5_link (.code yX5_link cX5_link 3 none :: WM) rm_X5_link (PcM D ad cI cZ cP A [.ref (ad w 0 0), .ref (ad w 7 i1), .ref (ad w 7 i2)] (Pic D ad cI cZ cP w G V U)) (QcV A (Pic D ad cI cZ cP w G V' U)) 0 0 A := by
  refine m_entry (by decide) (Nat.le_of_ble_eq_true rfl) (fun p e s m below meth c ls X hP hS hl => ?_)
  have X : MX p s m _ meth c cX5_link RX5 3 none D ad cI cZ cP A := X
  obtain ⟨hx, hb, hml, hown, htm, hr, hlk, hE⟩ := id X
  have hl : lv_has ls 3 [(0, .ref (ad w 0 0)), (1, .ref (ad w 7 i1)), (2, .ref (ad w 7 i2))] := hl
  refine lv_aload_n hx hb dX5_link_0 rfl (lv_at hl 1 rfl) ?_
  refine lv_aload_n hx hb dX5_link_1 rfl (lv_at hl 2 rfl) ?_
  refine lv_acmp_eq (rx := some (ad w 7 i1)) (ry := some (ad w 7 i2)) (tgt := 35) hx hb dX5_link_2 (by decide) (fun c1 => ?_) (fun c1 => ?_)
  · have hF := ite_T (ac_eq hE.2.2 hw hi1 hi2 c1) hF
    cases hF
    exact m_vret X hS hP dX5_link_35
  · have hF := ite_F (ac_ne c1) hF
    refine lv_aload_n hx hb dX5_link_5 rfl (lv_at hl 1 rfl) ?_
    refine lv_dup hx hb dX5_link_6 rfl ?_
    refine gf_7_13 hx hb htm hown hE hP hw hi1 (htm _ qw_215) dX5_link_7 ?_
    refine lv_iconst (v := 1) hx hb dX5_link_10 (by decide) ?_
    refine lv_aload_n hx hb dX5_link_11 rfl (lv_at hl 2 rfl) ?_
    refine gf_7_0 hx hb htm hown hE hP hw hi2 (htm _ qw_163) dX5_link_12 ?_
    refine lv_ishl hx hb dX5_link_15 ?_
    refine lv_ior hx hb dX5_link_16 ?_
    refine pf_7_13 hx hb htm hown hE hP hS hw hi1 (htm _ qw_215) dX5_link_17 (fun H locs hP hS => ?_)
    refine lv_aload_n hx hb dX5_link_20 rfl (lv_at hl 2 rfl) ?_
    refine lv_dup hx hb dX5_link_21 rfl ?_
    refine gf_7_13 hx hb htm hown hE hP hw hi2 (htm _ qw_215) dX5_link_22 ?_
    refine lv_iconst (v := 1) hx hb dX5_link_25 (by decide) ?_
    refine lv_aload_n hx hb dX5_link_26 rfl (lv_at hl 1 rfl) ?_
    refine gf_7_0 hx hb htm hown hE hP hw hi1 (htm _ qw_163) dX5_link_27 ?_
    refine lv_ishl hx hb dX5_link_30 ?_
    refine lv_ior hx hb dX5_link_31 ?_
    refine pf_7_13 hx hb htm hown hE hP hS hw hi2 (htm _ qw_215) dX5_link_32 (fun H locs hP hS => ?_)
    cases hF
    exact m_vret X hS hP dX5_link_35
def f_X5_unlink (G V : MT) (i1 : Nat) (i2 : Nat) : Option (MT) :=
  some (pt (pt V 7 i1 13 ((V 7 i1 13) &&& ((1 <<< ((nI i2) &&& 31)) ^^^ (-1)))) 7 i2 13 (((pt V 7 i1 13 ((V 7 i1 13) &&& ((1 <<< ((nI i2) &&& 31)) ^^^ (-1)))) 7 i2 13) &&& ((1 <<< ((nI i1) &&& 31)) ^^^ (-1))))
def rm_X5_unlink : Room := { frames := 0, cells := 0, slots := 0, locals := 0 }
set_option maxRecDepth 20000 in
set_option maxHeartbeats 4000000 in
theorem c_X5_unlink {l : Launch} {D : va_G} {ad : Nat → Nat → Nat → Nat} {cI cZ cP : ClassId} {A : Nat → Prop} {w : Nat} (hw : w < 2) {G V U : MT} {i1 : Nat} {i2 : Nat} {V' : MT}  (hi1 : i1 < 24) (hi2 : i2 < 24) (hF : f_X5_unlink G V i1 i2 = some V') : Met l yX5_unlink (.code yX5_unlink cX5_unlink 3 none :: WM) rm_X5_unlink (PcM D ad cI cZ cP A [.ref (ad w 0 0), .ref (ad w 7 i1), .ref (ad w 7 i2)] (Pic D ad cI cZ cP w G V U)) (QcV A (Pic D ad cI cZ cP w G V' U)) 0 0 A := by
  refine m_entry (by decide) (Nat.le_of_ble_eq_true rfl) (fun p e s m below meth c ls X hP hS hl => ?_)
  have X : MX p s m _ meth c cX5_unlink RX5 3 none D ad cI cZ cP A := X
  obtain ⟨hx, hb, hml, hown, htm, hr, hlk, hE⟩ := id X
  have hl : lv_has ls 3 [(0, .ref (ad w 0 0)), (1, .ref (ad w 7 i1)), (2, .ref (ad w 7 i2))] := hl
  refine lv_aload_n hx hb dX5_unlink_0 rfl (lv_at hl 1 rfl) ?_
  refine lv_dup hx hb dX5_unlink_1 rfl ?_
  refine gf_7_13 hx hb htm hown hE hP hw hi1 (htm _ qw_215) dX5_unlink_2 ?_
  refine lv_iconst (v := 1) hx hb dX5_unlink_5 (by decide) ?_
  refine lv_aload_n hx hb dX5_unlink_6 rfl (lv_at hl 2 rfl) ?_
  refine gf_7_0 hx hb htm hown hE hP hw hi2 (htm _ qw_163) dX5_unlink_7 ?_
  refine lv_ishl hx hb dX5_unlink_10 ?_
  refine lv_iconst (v := (-1)) hx hb dX5_unlink_11 (by decide) ?_
  refine lv_ixor hx hb dX5_unlink_12 ?_
  refine lv_iand hx hb dX5_unlink_13 ?_
  refine pf_7_13 hx hb htm hown hE hP hS hw hi1 (htm _ qw_215) dX5_unlink_14 (fun H locs hP hS => ?_)
  refine lv_aload_n hx hb dX5_unlink_17 rfl (lv_at hl 2 rfl) ?_
  refine lv_dup hx hb dX5_unlink_18 rfl ?_
  refine gf_7_13 hx hb htm hown hE hP hw hi2 (htm _ qw_215) dX5_unlink_19 ?_
  refine lv_iconst (v := 1) hx hb dX5_unlink_22 (by decide) ?_
  refine lv_aload_n hx hb dX5_unlink_23 rfl (lv_at hl 1 rfl) ?_
  refine gf_7_0 hx hb htm hown hE hP hw hi1 (htm _ qw_163) dX5_unlink_24 ?_
  refine lv_ishl hx hb dX5_unlink_27 ?_
  refine lv_iconst (v := (-1)) hx hb dX5_unlink_28 (by decide) ?_
  refine lv_ixor hx hb dX5_unlink_29 ?_
  refine lv_iand hx hb dX5_unlink_30 ?_
  refine pf_7_13 hx hb htm hown hE hP hS hw hi2 (htm _ qw_215) dX5_unlink_31 (fun H locs hP hS => ?_)
  cases hF
  exact m_vret X hS hP dX5_unlink_34
end
section
theorem vw_X5_tellWatchers : VW RX5 yX5_tellWatchers cX5_tellWatchers 6 none 1 := ⟨qw_245, qw_246, qw_177, qw_214, ⟨rfl, by decide, by decide, by decide +kernel⟩⟩
def f_X5_tellWatchers_44 (G : MT) (k7 : Nat → Nat → Int32 → MT → Option (MT)) : Nat → Nat → Nat → Int32 → Int32 → Int32 → MT → Option (MT)
  | 0, _, _, _, _, _, _ => none
  | n + 1, j1, j2, y3, y4, y5, V => if ¬ (y3 < 0 ∨ 24 ≤ Int32.toNatClampNeg y3) then (if V 15 j2 (Int32.toNatClampNeg y3) ≤ y5 then (if ¬ (y3 < 0 ∨ 24 ≤ Int32.toNatClampNeg y3) then (k7 j1 j2 (y3 + 1) (pt V 0 0 7 ((V 0 0 7) + (if 0 < (V 15 j2 (Int32.toNatClampNeg y3)) - 8 then (V 15 j2 (Int32.toNatClampNeg y3)) - 8 else 0)))) else none) else (if 8 ≤ y5 then (if ¬ (y3 < 0 ∨ 24 ≤ Int32.toNatClampNeg y3) then (k7 j1 j2 (y3 + 1) (pt V 0 0 7 ((V 0 0 7) + (if 0 < (V 15 j2 (Int32.toNatClampNeg y3)) - 8 then (V 15 j2 (Int32.toNatClampNeg y3)) - 8 else 0)))) else none) else ((f_X5_putMail G V y4 2 ((10 * (nI j1)) + (V 7 j1 6))).bind (fun q10_ => (f_X5_tellWatchers_44 G k7 n) j1 j2 y3 y4 (y5 + 1) q10_.2)))) else none
def f_X5_tellWatchers_7 (G : MT) : Nat → Nat → Nat → Int32 → MT → Option (MT)
  | 0, _, _, _, _ => none
  | n + 1, j1, j2, y3, V => if V 13 j2 2 ≤ y3 then (some V) else (if 24 ≤ y3 then (some V) else (if ¬ (y3 < 0 ∨ 24 ≤ Int32.toNatClampNeg y3) then ((f_X5_living G V (V 14 j2 (Int32.toNatClampNeg y3))).bind (fun q4_ => oc q4_ ((f_X5_tellWatchers_7 G n) j1 j2 (y3 + 1) V) (fun e4 => if e4 < 24 then (f_X5_tellWatchers_44 G (f_X5_tellWatchers_7 G n) 30 j1 j2 y3 (V 14 j2 (Int32.toNatClampNeg y3)) 0 V) else none))) else none))
def f_X5_tellWatchers (G V : MT) (i1 : Nat) : Option (MT) :=
  f_X5_tellWatchers_7 G  30 i1 i1 0 V
def rm_X5_tellWatchers : Room := { frames := 2, cells := 0, slots := 0, locals := 46 }
set_option maxRecDepth 20000 in
set_option maxHeartbeats 4000000 in
theorem l_X5_tellWatchers_44 {p : Program} {l : Launch} {e : Env} {s : State} {m : MethodId} {args : Array Value} {below : List Frame} {meth : Method} {c : Code} {D : va_G} {ad : Nat → Nat → Nat → Nat} {cI cZ cP : ClassId} {A : Nat → Prop} {G U : MT} {V' : MT} (X : MX p s m args meth c cX5_tellWatchers RX5 6 none D ad cI cZ cP A) {w : Nat} (hw : w < 2) (k7 : Nat → Nat → Int32 → MT → Option (MT)) (ih7 : ∀ {H : Heap} {locs : List Loc} {ls : Array Slot} (j1 : Nat) (j2 : Nat) (y3 : Int32) (V : MT), j1 < 24 → j2 < 24 → Pic D ad cI cZ cP w G V U H → va_S A s.heap H locs → lv_has ls 6 [(0, .ref (ad w 0 0)), (1, .ref (ad w 7 j1)), (2, .ref (ad w 13 j2)), (3, .int y3)] → k7 j1 j2 y3 V = some V' → W p l e rm_X5_tellWatchers s m args below meth c H locs 0 0 (MQ below (QcV A (Pic D ad cI cZ cP w G V' U)) args s 0 0 A) (F0 m 7 ls [])) (n : Nat) : ∀ {H : Heap} {locs : List Loc} {ls : Array Slot} (j1 : Nat) (j2 : Nat) (y3 : Int32) (y4 : Int32) (y5 : Int32) (V : MT), j1 < 24 → j2 < 24 → Pic D ad cI cZ cP w G V U H → va_S A s.heap H locs → lv_has ls 6 [(0, .ref (ad w 0 0)), (1, .ref (ad w 7 j1)), (2, .ref (ad w 13 j2)), (3, .int y3), (4, .int y4), (5, .int y5)] → f_X5_tellWatchers_44 G k7 n j1 j2 y3 y4 y5 V = some V' → W p l e rm_X5_tellWatchers s m args below meth c H locs 0 0 (MQ below (QcV A (Pic D ad cI cZ cP w G V' U)) args s 0 0 A) (F0 m 44 ls []) := by
  obtain ⟨hx, hb, hml, hown, htm, hr, hlk, hE⟩ := id X
  induction n with
  | zero =>
    intros
    exact ns_S (by assumption)
  | succ n ih44 =>
    intro H locs ls j1 j2 y3 y4 y5 V hj1 hj2  hP hS hl hF
    rw [f_X5_tellWatchers_44] at hF
    refine lv_iload hx hb dX5_tellWatchers_44 (lv_at hl 5 rfl) ?_
    refine lv_aload_n hx hb dX5_tellWatchers_46 rfl (lv_at hl 2 rfl) ?_
    refine gf_13_1 hx hb htm hown hE hP hw hj2 (htm _ qw_210) dX5_tellWatchers_47 ?_
    refine lv_iload_n hx hb dX5_tellWatchers_50 rfl (lv_at hl 3 rfl) ?_
    obtain ⟨hn5, hF⟩ := ite_S hF
    refine al_15 hx hb htm hown hE hP hw hj2 hn5 dX5_tellWatchers_51 ?_
    refine lv_icmp_ge (tgt := 88) hx hb dX5_tellWatchers_52 (by decide) (fun c6 => ?_) (fun c6 => ?_)
    · have hF := ite_T c6 hF
      refine lv_aload_n hx hb dX5_tellWatchers_88 rfl (lv_at hl 0 rfl) ?_
      refine lv_dup hx hb dX5_tellWatchers_89 rfl ?_
      refine gf_0_7 hx hb htm hown hE hP hw (htm _ qw_132) dX5_tellWatchers_90 ?_
      refine lv_iconst (v := 0) hx hb dX5_tellWatchers_93 (by decide) ?_
      refine lv_aload_n hx hb dX5_tellWatchers_94 rfl (lv_at hl 2 rfl) ?_
      refine gf_13_1 hx hb htm hown hE hP hw hj2 (htm _ qw_210) dX5_tellWatchers_95 ?_
      refine lv_iload_n hx hb dX5_tellWatchers_98 rfl (lv_at hl 3 rfl) ?_
      obtain ⟨hn7, hF⟩ := ite_S hF
      refine al_15 hx hb htm hown hE hP hw hj2 hn7 dX5_tellWatchers_99 ?_
      refine lv_bipush (v := 8) hx hb dX5_tellWatchers_100 (by decide) ?_
      refine lv_isub hx hb dX5_tellWatchers_102 ?_
      refine va_mmax hx hb (hml.trans hl.1.symm) hown (htm _ qw_130) (htm _ qw_80) (htm _ qw_77) (htm _ qw_81) (Nat.le_of_ble_eq_true rfl) (Nat.le_of_ble_eq_true rfl) (Nat.zero_le _) (Nat.zero_le _) dX5_tellWatchers_103 ?_
      refine lv_iadd hx hb dX5_tellWatchers_106 ?_
      refine pf_0_7 hx hb htm hown hE hP hS hw (htm _ qw_132) dX5_tellWatchers_107 (fun H locs hP hS => ?_)
      refine lv_iinc (v := y3 + 1) (lv' := [(3, .int (y3 + 1)), (0, .ref (ad w 0 0)), (1, .ref (ad w 7 j1)), (2, .ref (ad w 13 j2)), (4, .int y4), (5, .int y5)]) hx hb dX5_tellWatchers_110 hl (k := 3) rfl rfl (by decide) rfl (fun ls hl => ?_)
      refine lv_goto (tgt := 7) hx hb dX5_tellWatchers_113 (by decide) ?_
      exact ih7 _ _ _ _ hj1 hj2 hP hS (lv_sub hl [1, 2, 3, 0] rfl) hF
    · have hF := ite_F c6 hF
      refine lv_iload hx hb dX5_tellWatchers_55 (lv_at hl 5 rfl) ?_
      refine lv_bipush (v := 8) hx hb dX5_tellWatchers_57 (by decide) ?_
      refine lv_icmp_ge (tgt := 88) hx hb dX5_tellWatchers_59 (by decide) (fun c8 => ?_) (fun c8 => ?_)
      · have hF := ite_T c8 hF
        refine lv_aload_n hx hb dX5_tellWatchers_88 rfl (lv_at hl 0 rfl) ?_
        refine lv_dup hx hb dX5_tellWatchers_89 rfl ?_
        refine gf_0_7 hx hb htm hown hE hP hw (htm _ qw_132) dX5_tellWatchers_90 ?_
        refine lv_iconst (v := 0) hx hb dX5_tellWatchers_93 (by decide) ?_
        refine lv_aload_n hx hb dX5_tellWatchers_94 rfl (lv_at hl 2 rfl) ?_
        refine gf_13_1 hx hb htm hown hE hP hw hj2 (htm _ qw_210) dX5_tellWatchers_95 ?_
        refine lv_iload_n hx hb dX5_tellWatchers_98 rfl (lv_at hl 3 rfl) ?_
        obtain ⟨hn9, hF⟩ := ite_S hF
        refine al_15 hx hb htm hown hE hP hw hj2 hn9 dX5_tellWatchers_99 ?_
        refine lv_bipush (v := 8) hx hb dX5_tellWatchers_100 (by decide) ?_
        refine lv_isub hx hb dX5_tellWatchers_102 ?_
        refine va_mmax hx hb (hml.trans hl.1.symm) hown (htm _ qw_130) (htm _ qw_80) (htm _ qw_77) (htm _ qw_81) (Nat.le_of_ble_eq_true rfl) (Nat.le_of_ble_eq_true rfl) (Nat.zero_le _) (Nat.zero_le _) dX5_tellWatchers_103 ?_
        refine lv_iadd hx hb dX5_tellWatchers_106 ?_
        refine pf_0_7 hx hb htm hown hE hP hS hw (htm _ qw_132) dX5_tellWatchers_107 (fun H locs hP hS => ?_)
        refine lv_iinc (v := y3 + 1) (lv' := [(3, .int (y3 + 1)), (0, .ref (ad w 0 0)), (1, .ref (ad w 7 j1)), (2, .ref (ad w 13 j2)), (4, .int y4), (5, .int y5)]) hx hb dX5_tellWatchers_110 hl (k := 3) rfl rfl (by decide) rfl (fun ls hl => ?_)
        refine lv_goto (tgt := 7) hx hb dX5_tellWatchers_113 (by decide) ?_
        exact ih7 _ _ _ _ hj1 hj2 hP hS (lv_sub hl [1, 2, 3, 0] rfl) hF
      · have hF := ite_F c8 hF
        refine lv_aload_n hx hb dX5_tellWatchers_62 rfl (lv_at hl 0 rfl) ?_
        refine lv_iload hx hb dX5_tellWatchers_63 (lv_at hl 4 rfl) ?_
        refine lv_iconst (v := 2) hx hb dX5_tellWatchers_65 (by decide) ?_
        refine lv_bipush (v := 10) hx hb dX5_tellWatchers_66 (by decide) ?_
        refine lv_aload_n hx hb dX5_tellWatchers_68 rfl (lv_at hl 1 rfl) ?_
        refine gf_7_0 hx hb htm hown hE hP hw hj1 (htm _ qw_163) dX5_tellWatchers_69 ?_
        refine lv_imul hx hb dX5_tellWatchers_72 ?_
        refine lv_aload_n hx hb dX5_tellWatchers_73 rfl (lv_at hl 1 rfl) ?_
        refine gf_7_6 hx hb htm hown hE hP hw hj1 (htm _ qw_160) dX5_tellWatchers_74 ?_
        refine lv_iadd hx hb dX5_tellWatchers_77 ?_
        obtain ⟨⟨r10, V10⟩, hc10, hF⟩ := ob_S hF
        refine m_cVi X hS vw_X5_putMail qw_211 (c_X5_putMail hw hc10) ⟨rfl, rfl⟩ ⟨Nat.le_of_ble_eq_true rfl, Nat.le_of_ble_eq_true rfl⟩ (rc_0 hE hP hw) hP rfl hl.1 (rest := []) rfl (Nat.le_of_ble_eq_true rfl) dX5_tellWatchers_78 (fun H locs hP hS => ?_)
        refine lv_pop hx hb dX5_tellWatchers_81 rfl ?_
        refine lv_iinc (v := y5 + 1) (lv' := [(5, .int (y5 + 1)), (0, .ref (ad w 0 0)), (1, .ref (ad w 7 j1)), (2, .ref (ad w 13 j2)), (3, .int y3), (4, .int y4)]) hx hb dX5_tellWatchers_82 hl (k := 5) rfl rfl (by decide) rfl (fun ls hl => ?_)
        refine lv_goto (tgt := 44) hx hb dX5_tellWatchers_85 (by decide) ?_
        exact ih44 _ _ _ _ _ _ hj1 hj2 hP hS (lv_sub hl [1, 2, 3, 4, 5, 0] rfl) hF
set_option maxRecDepth 20000 in
set_option maxHeartbeats 4000000 in
theorem l_X5_tellWatchers_7 {p : Program} {l : Launch} {e : Env} {s : State} {m : MethodId} {args : Array Value} {below : List Frame} {meth : Method} {c : Code} {D : va_G} {ad : Nat → Nat → Nat → Nat} {cI cZ cP : ClassId} {A : Nat → Prop} {G U : MT} {V' : MT} (X : MX p s m args meth c cX5_tellWatchers RX5 6 none D ad cI cZ cP A) {w : Nat} (hw : w < 2) (n : Nat) : ∀ {H : Heap} {locs : List Loc} {ls : Array Slot} (j1 : Nat) (j2 : Nat) (y3 : Int32) (V : MT), j1 < 24 → j2 < 24 → Pic D ad cI cZ cP w G V U H → va_S A s.heap H locs → lv_has ls 6 [(0, .ref (ad w 0 0)), (1, .ref (ad w 7 j1)), (2, .ref (ad w 13 j2)), (3, .int y3)] → f_X5_tellWatchers_7 G n j1 j2 y3 V = some V' → W p l e rm_X5_tellWatchers s m args below meth c H locs 0 0 (MQ below (QcV A (Pic D ad cI cZ cP w G V' U)) args s 0 0 A) (F0 m 7 ls []) := by
  obtain ⟨hx, hb, hml, hown, htm, hr, hlk, hE⟩ := id X
  induction n with
  | zero =>
    intros
    exact ns_S (by assumption)
  | succ n ih7 =>
    intro H locs ls j1 j2 y3 V hj1 hj2  hP hS hl hF
    rw [f_X5_tellWatchers_7] at hF
    refine lv_iload_n hx hb dX5_tellWatchers_7 rfl (lv_at hl 3 rfl) ?_
    refine lv_aload_n hx hb dX5_tellWatchers_8 rfl (lv_at hl 2 rfl) ?_
    refine gf_13_2 hx hb htm hown hE hP hw hj2 (htm _ qw_208) dX5_tellWatchers_9 ?_
    refine lv_icmp_ge (tgt := 116) hx hb dX5_tellWatchers_12 (by decide) (fun c1 => ?_) (fun c1 => ?_)
    · have hF := ite_T c1 hF
      cases hF
      exact m_vret X hS hP dX5_tellWatchers_116
    · have hF := ite_F c1 hF
      refine lv_iload_n hx hb dX5_tellWatchers_15 rfl (lv_at hl 3 rfl) ?_
      refine lv_bipush (v := 24) hx hb dX5_tellWatchers_16 (by decide) ?_
      refine lv_icmp_ge (tgt := 116) hx hb dX5_tellWatchers_18 (by decide) (fun c2 => ?_) (fun c2 => ?_)
      · have hF := ite_T c2 hF
        cases hF
        exact m_vret X hS hP dX5_tellWatchers_116
      · have hF := ite_F c2 hF
        refine lv_aload_n hx hb dX5_tellWatchers_21 rfl (lv_at hl 2 rfl) ?_
        refine gf_13_0 hx hb htm hown hE hP hw hj2 (htm _ qw_209) dX5_tellWatchers_22 ?_
        refine lv_iload_n hx hb dX5_tellWatchers_25 rfl (lv_at hl 3 rfl) ?_
        obtain ⟨hn3, hF⟩ := ite_S hF
        refine al_14 hx hb htm hown hE hP hw hj2 hn3 dX5_tellWatchers_26 ?_
        refine lv_istore (lv' := [(4, .int (V 14 j2 (Int32.toNatClampNeg y3))), (0, .ref (ad w 0 0)), (1, .ref (ad w 7 j1)), (2, .ref (ad w 13 j2)), (3, .int y3)]) hx hb dX5_tellWatchers_27 hl (by decide) rfl (fun ls hl => ?_)
        refine lv_aload_n hx hb dX5_tellWatchers_29 rfl (lv_at hl 1 rfl) ?_
        refine lv_iload hx hb dX5_tellWatchers_30 (lv_at hl 0 rfl) ?_
        obtain ⟨r4, hc4, hF⟩ := ob_S hF
        refine m_cVq X hS vw_X5_living qw_191 (c_X5_living hw hc4) ⟨rfl, rfl⟩ ⟨Nat.le_of_ble_eq_true rfl, Nat.le_of_ble_eq_true rfl⟩ (rc_0 hE hP hw) hP rfl hl.1 (rest := []) rfl (Nat.le_of_ble_eq_true rfl) dX5_tellWatchers_32 (fun H locs hP hS => ?_)
        rcases r4 with _ | e4
        · skip
          refine lv_ifnonnullN hx hb dX5_tellWatchers_35 ?_
          refine lv_goto (tgt := 110) hx hb dX5_tellWatchers_38 (by decide) ?_
          refine lv_iinc (v := y3 + 1) (lv' := [(3, .int (y3 + 1)), (4, .int (V 14 j2 (Int32.toNatClampNeg y3))), (0, .ref (ad w 0 0)), (1, .ref (ad w 7 j1)), (2, .ref (ad w 13 j2))]) hx hb dX5_tellWatchers_110 hl (k := 4) rfl rfl (by decide) rfl (fun ls hl => ?_)
          refine lv_goto (tgt := 7) hx hb dX5_tellWatchers_113 (by decide) ?_
          exact ih7 _ _ _ _ hj1 hj2 hP hS (lv_sub hl [2, 3, 4, 0] rfl) hF
        · obtain ⟨he4, hF⟩ := ite_S hF
          refine lv_ifnonnull (tgt := 41) hx hb dX5_tellWatchers_35 (by decide) ?_
          refine lv_iconst (v := 0) hx hb dX5_tellWatchers_41 (by decide) ?_
          refine lv_istore (lv' := [(5, .int 0), (4, .int (V 14 j2 (Int32.toNatClampNeg y3))), (0, .ref (ad w 0 0)), (1, .ref (ad w 7 j1)), (2, .ref (ad w 13 j2)), (3, .int y3)]) hx hb dX5_tellWatchers_42 hl (by decide) rfl (fun ls hl => ?_)
          exact l_X5_tellWatchers_44 X hw (f_X5_tellWatchers_7 G n) ih7 30 _ _ _ _ _ _ hj1 hj2 hP hS (lv_sub hl [2, 3, 4, 5, 1, 0] rfl) hF
set_option maxRecDepth 20000 in
set_option maxHeartbeats 4000000 in
theorem c_X5_tellWatchers {l : Launch} {D : va_G} {ad : Nat → Nat → Nat → Nat} {cI cZ cP : ClassId} {A : Nat → Prop} {w : Nat} (hw : w < 2) {G V U : MT} {i1 : Nat} {V' : MT}  (hi1 : i1 < 24) (hF : f_X5_tellWatchers G V i1 = some V') : Met l yX5_tellWatchers (.code yX5_tellWatchers cX5_tellWatchers 6 none :: WM) rm_X5_tellWatchers (PcM D ad cI cZ cP A [.ref (ad w 0 0), .ref (ad w 7 i1)] (Pic D ad cI cZ cP w G V U)) (QcV A (Pic D ad cI cZ cP w G V' U)) 0 0 A := by
  refine m_entry (by decide) (Nat.le_of_ble_eq_true rfl) (fun p e s m below meth c ls X hP hS hl => ?_)
  have X : MX p s m _ meth c cX5_tellWatchers RX5 6 none D ad cI cZ cP A := X
  obtain ⟨hx, hb, hml, hown, htm, hr, hlk, hE⟩ := id X
  have hl : lv_has ls 6 [(0, .ref (ad w 0 0)), (1, .ref (ad w 7 i1))] := hl
  refine lv_aload_n hx hb dX5_tellWatchers_0 rfl (lv_at hl 1 rfl) ?_
  refine gf_7_18 hx hb htm hown hE hP hw hi1 (htm _ qw_207) dX5_tellWatchers_1 ?_
  refine lv_astore_n (lv' := [(2, .ref (ad w 13 i1)), (0, .ref (ad w 0 0)), (1, .ref (ad w 7 i1))]) hx hb dX5_tellWatchers_4 rfl hl (by decide) rfl (fun ls hl => ?_)
  refine lv_iconst (v := 0) hx hb dX5_tellWatchers_5 (by decide) ?_
  refine lv_istore_n (lv' := [(3, .int 0), (2, .ref (ad w 13 i1)), (0, .ref (ad w 0 0)), (1, .ref (ad w 7 i1))]) hx hb dX5_tellWatchers_6 rfl hl (by decide) rfl (fun ls hl => ?_)
  exact l_X5_tellWatchers_7 X hw  30 _ _ _ _ hi1 hi1 hP hS (lv_sub hl [2, 3, 1, 0] rfl) hF
end
section
theorem vw_X5_endChildren : VW RX5 yX5_endChildren cX5_endChildren 6 none 3 := ⟨qw_241, qw_242, qw_177, qw_190, ⟨rfl, by decide, by decide, by decide +kernel⟩⟩
def f_X5_endChildren_3 (G : MT) : Nat → Nat → Int32 → Int32 → Int32 → MT → Option (MT)
  | 0, _, _, _, _, _ => none
  | n + 1, j1, y2, y3, y4, V => if y4 < 0 then (some V) else (if y4 < y2 then (some V) else (if ¬ (y4 < 0 ∨ 4 ≤ Int32.toNatClampNeg y4) then ((f_X5_procAt G V (V 9 j1 (Int32.toNatClampNeg y4))).bind (fun q4_ => oc q4_ ((f_X5_endChildren_3 G n) j1 y2 y3 (y4 + (-1)) V) (fun e4 => if e4 < 24 then (if y4 = y3 then ((f_X5_endChildren_3 G n) j1 y2 y3 (y4 + (-1)) V) else ((f_X5_end G V e4 5).bind (fun q6_ => if ¬ (y4 < 0 ∨ 4 ≤ Int32.toNatClampNeg y4) then ((f_X5_endChildren_3 G n) j1 y2 y3 (y4 + (-1)) (pt (pt q6_ 7 e4 4 (-1)) 9 j1 (Int32.toNatClampNeg y4) (-1))) else none))) else none))) else none))
def f_X5_endChildren (G V : MT) (i1 : Nat) (x2 : Int32) (x3 : Int32) : Option (MT) :=
  f_X5_endChildren_3 G  30 i1 x2 x3 3 V
def rm_X5_endChildren : Room := { frames := 1, cells := 0, slots := 0, locals := 23 }
set_option maxRecDepth 20000 in
set_option maxHeartbeats 4000000 in
theorem l_X5_endChildren_3 {p : Program} {l : Launch} {e : Env} {s : State} {m : MethodId} {args : Array Value} {below : List Frame} {meth : Method} {c : Code} {D : va_G} {ad : Nat → Nat → Nat → Nat} {cI cZ cP : ClassId} {A : Nat → Prop} {G U : MT} {V' : MT} (X : MX p s m args meth c cX5_endChildren RX5 6 none D ad cI cZ cP A) {w : Nat} (hw : w < 2) (n : Nat) : ∀ {H : Heap} {locs : List Loc} {ls : Array Slot} (j1 : Nat) (y2 : Int32) (y3 : Int32) (y4 : Int32) (V : MT), j1 < 24 → Pic D ad cI cZ cP w G V U H → va_S A s.heap H locs → lv_has ls 6 [(0, .ref (ad w 0 0)), (1, .ref (ad w 7 j1)), (2, .int y2), (3, .int y3), (4, .int y4)] → f_X5_endChildren_3 G n j1 y2 y3 y4 V = some V' → W p l e rm_X5_endChildren s m args below meth c H locs 0 0 (MQ below (QcV A (Pic D ad cI cZ cP w G V' U)) args s 0 0 A) (F0 m 3 ls []) := by
  obtain ⟨hx, hb, hml, hown, htm, hr, hlk, hE⟩ := id X
  induction n with
  | zero =>
    intros
    exact ns_S (by assumption)
  | succ n ih3 =>
    intro H locs ls j1 y2 y3 y4 V hj1  hP hS hl hF
    rw [f_X5_endChildren_3] at hF
    refine lv_iload hx hb dX5_endChildren_3 (lv_at hl 4 rfl) ?_
    refine lv_if_lt (tgt := 68) hx hb dX5_endChildren_5 (by decide) (fun c1 => ?_) (fun c1 => ?_)
    · have hF := ite_T c1 hF
      cases hF
      exact m_vret X hS hP dX5_endChildren_68
    · have hF := ite_F c1 hF
      refine lv_iload hx hb dX5_endChildren_8 (lv_at hl 4 rfl) ?_
      refine lv_iload_n hx hb dX5_endChildren_10 rfl (lv_at hl 2 rfl) ?_
      refine lv_icmp_lt (tgt := 68) hx hb dX5_endChildren_11 (by decide) (fun c2 => ?_) (fun c2 => ?_)
      · have hF := ite_T c2 hF
        cases hF
        exact m_vret X hS hP dX5_endChildren_68
      · have hF := ite_F c2 hF
        refine lv_aload_n hx hb dX5_endChildren_14 rfl (lv_at hl 0 rfl) ?_
        refine lv_aload_n hx hb dX5_endChildren_15 rfl (lv_at hl 1 rfl) ?_
        refine gf_7_16 hx hb htm hown hE hP hw hj1 (htm _ qw_167) dX5_endChildren_16 ?_
        refine lv_iload hx hb dX5_endChildren_19 (lv_at hl 4 rfl) ?_
        obtain ⟨hn3, hF⟩ := ite_S hF
        refine al_9 hx hb htm hown hE hP hw hj1 hn3 dX5_endChildren_21 ?_
        obtain ⟨r4, hc4, hF⟩ := ob_S hF
        refine m_cVq X hS vw_X5_procAt qw_187 (c_X5_procAt hw hc4) ⟨rfl, rfl⟩ ⟨Nat.le_of_ble_eq_true rfl, Nat.le_of_ble_eq_true rfl⟩ (rc_0 hE hP hw) hP rfl hl.1 (rest := []) rfl (Nat.le_of_ble_eq_true rfl) dX5_endChildren_22 (fun H locs hP hS => ?_)
        rcases r4 with _ | e4
        · skip
          refine lv_astoreN (lv' := [(5, .null), (0, .ref (ad w 0 0)), (1, .ref (ad w 7 j1)), (2, .int y2), (3, .int y3), (4, .int y4)]) hx hb dX5_endChildren_25 hl (by decide) rfl (fun ls hl => ?_)
          refine lv_aloadN hx hb dX5_endChildren_27 (lv_at hl 0 rfl) ?_
          refine lv_ifnullN (tgt := 62) hx hb dX5_endChildren_29 (by decide) ?_
          refine lv_iinc (v := y4 + (-1)) (lv' := [(4, .int (y4 + (-1))), (5, .null), (0, .ref (ad w 0 0)), (1, .ref (ad w 7 j1)), (2, .int y2), (3, .int y3)]) hx hb dX5_endChildren_62 hl (k := 5) rfl rfl (by decide) rfl (fun ls hl => ?_)
          refine lv_goto (tgt := 3) hx hb dX5_endChildren_65 (by decide) ?_
          exact ih3 _ _ _ _ _ hj1 hP hS (lv_sub hl [2, 3, 4, 5, 0] rfl) hF
        · obtain ⟨he4, hF⟩ := ite_S hF
          refine lv_astore (lv' := [(5, .ref (ad w 7 e4)), (0, .ref (ad w 0 0)), (1, .ref (ad w 7 j1)), (2, .int y2), (3, .int y3), (4, .int y4)]) hx hb dX5_endChildren_25 hl (by decide) rfl (fun ls hl => ?_)
          refine lv_aload hx hb dX5_endChildren_27 (lv_at hl 0 rfl) ?_
          refine lv_ifnull hx hb dX5_endChildren_29 ?_
          refine lv_iload hx hb dX5_endChildren_32 (lv_at hl 5 rfl) ?_
          refine lv_iload_n hx hb dX5_endChildren_34 rfl (lv_at hl 4 rfl) ?_
          refine lv_icmp_ne (tgt := 41) hx hb dX5_endChildren_35 (by decide) (fun c5 => ?_) (fun c5 => ?_)
          · have hF := ite_F c5 hF
            refine lv_aload_n hx hb dX5_endChildren_41 rfl (lv_at hl 1 rfl) ?_
            refine lv_aload hx hb dX5_endChildren_42 (lv_at hl 0 rfl) ?_
            refine lv_iconst (v := 5) hx hb dX5_endChildren_44 (by decide) ?_
            obtain ⟨V6, hc6, hF⟩ := ob_S hF
            refine m_cVv X hS vw_X5_end qw_181 (c_X5_end hw he4 hc6) ⟨rfl, rfl⟩ ⟨Nat.le_of_ble_eq_true rfl, Nat.le_of_ble_eq_true rfl⟩ (rc_0 hE hP hw) hP rfl hl.1 (rest := []) rfl (Nat.le_of_ble_eq_true rfl) dX5_endChildren_45 (fun H locs hP hS => ?_)
            refine lv_aload hx hb dX5_endChildren_48 (lv_at hl 0 rfl) ?_
            refine lv_iconst (v := (-1)) hx hb dX5_endChildren_50 (by decide) ?_
            refine pf_7_4 hx hb htm hown hE hP hS hw he4 (htm _ qw_152) dX5_endChildren_51 (fun H locs hP hS => ?_)
            refine lv_aload_n hx hb dX5_endChildren_54 rfl (lv_at hl 2 rfl) ?_
            refine gf_7_16 hx hb htm hown hE hP hw hj1 (htm _ qw_167) dX5_endChildren_55 ?_
            refine lv_iload hx hb dX5_endChildren_58 (lv_at hl 5 rfl) ?_
            refine lv_iconst (v := (-1)) hx hb dX5_endChildren_60 (by decide) ?_
            obtain ⟨hn7, hF⟩ := ite_S hF
            refine as_9 hx hb htm hown hE hP hS hw hj1 hn7 dX5_endChildren_61 (fun H locs hP hS => ?_)
            refine lv_iinc (v := y4 + (-1)) (lv' := [(4, .int (y4 + (-1))), (5, .ref (ad w 7 e4)), (0, .ref (ad w 0 0)), (1, .ref (ad w 7 j1)), (2, .int y2), (3, .int y3)]) hx hb dX5_endChildren_62 hl (k := 5) rfl rfl (by decide) rfl (fun ls hl => ?_)
            refine lv_goto (tgt := 3) hx hb dX5_endChildren_65 (by decide) ?_
            exact ih3 _ _ _ _ _ hj1 hP hS (lv_sub hl [2, 3, 4, 5, 0] rfl) hF
          · have hF := ite_T c5 hF
            refine lv_goto (tgt := 62) hx hb dX5_endChildren_38 (by decide) ?_
            refine lv_iinc (v := y4 + (-1)) (lv' := [(4, .int (y4 + (-1))), (5, .ref (ad w 7 e4)), (0, .ref (ad w 0 0)), (1, .ref (ad w 7 j1)), (2, .int y2), (3, .int y3)]) hx hb dX5_endChildren_62 hl (k := 5) rfl rfl (by decide) rfl (fun ls hl => ?_)
            refine lv_goto (tgt := 3) hx hb dX5_endChildren_65 (by decide) ?_
            exact ih3 _ _ _ _ _ hj1 hP hS (lv_sub hl [2, 3, 4, 5, 0] rfl) hF
set_option maxRecDepth 20000 in
set_option maxHeartbeats 4000000 in
theorem c_X5_endChildren {l : Launch} {D : va_G} {ad : Nat → Nat → Nat → Nat} {cI cZ cP : ClassId} {A : Nat → Prop} {w : Nat} (hw : w < 2) {G V U : MT} {i1 : Nat} {x2 : Int32} {x3 : Int32} {V' : MT}  (hi1 : i1 < 24) (hF : f_X5_endChildren G V i1 x2 x3 = some V') : Met l yX5_endChildren (.code yX5_endChildren cX5_endChildren 6 none :: WM) rm_X5_endChildren (PcM D ad cI cZ cP A [.ref (ad w 0 0), .ref (ad w 7 i1), .int x2, .int x3] (Pic D ad cI cZ cP w G V U)) (QcV A (Pic D ad cI cZ cP w G V' U)) 0 0 A := by
  refine m_entry (by decide) (Nat.le_of_ble_eq_true rfl) (fun p e s m below meth c ls X hP hS hl => ?_)
  have X : MX p s m _ meth c cX5_endChildren RX5 6 none D ad cI cZ cP A := X
  obtain ⟨hx, hb, hml, hown, htm, hr, hlk, hE⟩ := id X
  have hl : lv_has ls 6 [(0, .ref (ad w 0 0)), (1, .ref (ad w 7 i1)), (2, .int x2), (3, .int x3)] := hl
  refine lv_iconst (v := 3) hx hb dX5_endChildren_0 (by decide) ?_
  refine lv_istore (lv' := [(4, .int 3), (0, .ref (ad w 0 0)), (1, .ref (ad w 7 i1)), (2, .int x2), (3, .int x3)]) hx hb dX5_endChildren_1 hl (by decide) rfl (fun ls hl => ?_)
  exact l_X5_endChildren_3 X hw  30 _ _ _ _ _ hi1 hP hS (lv_sub hl [1, 2, 3, 4, 0] rfl) hF
end
section
theorem vw_X5_firstReady : VW RX5 yX5_firstReady cX5_firstReady 4 (some (.object "MailDen$Proc")) 0 := ⟨qw_313, qw_314, qw_177, qw_269, ⟨rfl, by decide, by decide, by decide +kernel⟩⟩
theorem vw_X5_placeInRow : VW RX5 yX5_placeInRow cX5_placeInRow 4 (some .int) 1 := ⟨qw_445, qw_446, qw_177, qw_330, ⟨rfl, by decide, by decide, by decide +kernel⟩⟩
theorem vw_X5_watchesOf : VW RX5 yX5_watchesOf cX5_watchesOf 4 (some .int) 1 := ⟨qw_448, qw_449, qw_177, qw_331, ⟨rfl, by decide, by decide, by decide +kernel⟩⟩
theorem vw_X5_runners : VW RX5 yX5_runners cX5_runners 7 (some .int) 3 := ⟨qw_400, qw_401, qw_177, qw_332, ⟨rfl, by decide, by decide, by decide +kernel⟩⟩
theorem vw_X5_madeOf : VW RX5 yX5_madeOf cX5_madeOf 4 (some .int) 1 := ⟨qw_403, qw_404, qw_177, qw_333, ⟨rfl, by decide, by decide, by decide +kernel⟩⟩
theorem vw_X5_isCurrentUsed : VW RX5 yX5_isCurrentUsed cX5_isCurrentUsed 3 (some .boolean) 1 := ⟨qw_371, qw_372, qw_177, qw_334, ⟨rfl, by decide, by decide, by decide +kernel⟩⟩
theorem vw_X5_hadSupervisor : VW RX5 yX5_hadSupervisor cX5_hadSupervisor 3 (some .boolean) 1 := ⟨qw_390, qw_391, qw_177, qw_335, ⟨rfl, by decide, by decide, by decide +kernel⟩⟩
theorem vw_X5_supervisors : VW RX5 yX5_supervisors cX5_supervisors 3 (some .int) 0 := ⟨qw_474, qw_475, qw_177, qw_336, ⟨rfl, by decide, by decide, by decide +kernel⟩⟩
theorem vw_X5_withStatus : VW RX5 yX5_withStatus cX5_withStatus 4 (some .int) 1 := ⟨qw_471, qw_472, qw_177, qw_337, ⟨rfl, by decide, by decide, by decide +kernel⟩⟩
theorem vw_X5_linkCount : VW RX5 yX5_linkCount cX5_linkCount 3 (some .int) 0 := ⟨qw_477, qw_478, qw_177, qw_345, ⟨rfl, by decide, by decide, by decide +kernel⟩⟩
theorem vw_X5_mailCount : VW RX5 yX5_mailCount cX5_mailCount 3 (some .int) 0 := ⟨qw_480, qw_481, qw_177, qw_346, ⟨rfl, by decide, by decide, by decide +kernel⟩⟩
theorem vw_X5_passTime : VW RX5 yX5_passTime cX5_passTime 3 (some .int) 0 := ⟨qw_419, qw_420, qw_177, qw_268, ⟨rfl, by decide, by decide, by decide +kernel⟩⟩
theorem vw_X5_takeName : VW RX5 yX5_takeName cX5_takeName 4 none 2 := ⟨qw_291, qw_292, qw_177, qw_279, ⟨rfl, by decide, by decide, by decide +kernel⟩⟩
theorem vw_X5_callName : VW RX5 yX5_callName cX5_callName 5 none 3 := ⟨qw_297, qw_298, qw_177, qw_280, ⟨rfl, by decide, by decide, by decide +kernel⟩⟩
theorem vw_X5_spawn : VW RX5 yX5_spawn cX5_spawn 5 none 3 := ⟨qw_285, qw_286, qw_177, qw_275, ⟨rfl, by decide, by decide, by decide +kernel⟩⟩
theorem vw_X5_copyFrom : VW RX5 yX5_copyFrom cX5_copyFrom 4 none 1 := ⟨qw_485, qw_486, qw_177, qw_142, ⟨rfl, by decide, by decide, by decide +kernel⟩⟩
def f_X5_firstReady_4 (G V : MT) : Nat → Option Nat → Int32 → Option (Option Nat)
  | 0, _, _ => none
  | n + 1, o1, y2 => oc o1 (if V 0 0 5 ≤ y2 then (some none) else (if 24 ≤ y2 then (some none) else (if ¬ (y2 < 0 ∨ 24 ≤ Int32.toNatClampNeg y2) then (if V 7 (Int32.toNatClampNeg y2) 5 = 0 then ((f_X5_firstReady_4 G V n) (some (Int32.toNatClampNeg y2)) (y2 + 1)) else ((f_X5_firstReady_4 G V n) none (y2 + 1))) else none))) (fun q1 => if V 0 0 5 ≤ y2 then (some (some q1)) else (if 24 ≤ y2 then (some (some q1)) else (if ¬ (y2 < 0 ∨ 24 ≤ Int32.toNatClampNeg y2) then (if V 7 (Int32.toNatClampNeg y2) 5 = 0 then (if V 7 q1 11 ≤ V 7 (Int32.toNatClampNeg y2) 11 then ((f_X5_firstReady_4 G V n) (some q1) (y2 + 1)) else ((f_X5_firstReady_4 G V n) (some (Int32.toNatClampNeg y2)) (y2 + 1))) else ((f_X5_firstReady_4 G V n) (some q1) (y2 + 1))) else none)))
def f_X5_firstReady (G V : MT)  : Option (Option Nat) :=
  f_X5_firstReady_4 G V  30 none 0
def rm_X5_firstReady : Room := { frames := 0, cells := 0, slots := 0, locals := 0 }
set_option maxRecDepth 20000 in
set_option maxHeartbeats 4000000 in
theorem l_X5_firstReady_4 {p : Program} {l : Launch} {e : Env} {s : State} {m : MethodId} {args : Array Value} {below : List Frame} {meth : Method} {c : Code} {D : va_G} {ad : Nat → Nat → Nat → Nat} {cI cZ cP : ClassId} {A : Nat → Prop} {G V U : MT} {r : Option Nat} (X : MX p s m args meth c cX5_firstReady RX5 4 (some (.object "MailDen$Proc")) D ad cI cZ cP A) {w : Nat} (hw : w < 2) (n : Nat) : ∀ {H : Heap} {locs : List Loc} {ls : Array Slot} (o1 : Option Nat) (y2 : Int32), (∀ q, o1 = some q → q < 24) → Pic D ad cI cZ cP w G V U H → va_S A s.heap H locs → lv_has ls 4 [(0, .ref (ad w 0 0)), (1, va_rf (o1.map (ad w 7))), (2, .int y2)] → f_X5_firstReady_4 G V n o1 y2 = some r → W p l e rm_X5_firstReady s m args below meth c H locs 0 0 (MQ below (QcQ A (r.map (ad w 7)) (Pic D ad cI cZ cP w G V U)) args s 0 0 A) (F0 m 4 ls []) := by
  obtain ⟨hx, hb, hml, hown, htm, hr, hlk, hE⟩ := id X
  induction n with
  | zero =>
    intros
    exact ns_S (by assumption)
  | succ n ih4 =>
    intro H locs ls o1 y2  ho1 hP hS hl hF
    rw [f_X5_firstReady_4] at hF
    rcases o1 with _ | q1
    · skip
      have hl : lv_has ls 4 [(0, .ref (ad w 0 0)), (1, .null), (2, .int y2)] := hl
      refine lv_iload_n hx hb dX5_firstReady_4 rfl (lv_at hl 2 rfl) ?_
      refine lv_aload_n hx hb dX5_firstReady_5 rfl (lv_at hl 0 rfl) ?_
      refine gf_0_5 hx hb htm hown hE hP hw (htm _ qw_129) dX5_firstReady_6 ?_
      refine lv_icmp_ge (tgt := 55) hx hb dX5_firstReady_9 (by decide) (fun c1 => ?_) (fun c1 => ?_)
      · have hF := ite_T c1 hF
        refine lv_aload_nN hx hb dX5_firstReady_55 rfl (lv_at hl 1 rfl) ?_
        cases hF
        exact m_aretN X hS hP rfl dX5_firstReady_56
      · have hF := ite_F c1 hF
        refine lv_iload_n hx hb dX5_firstReady_12 rfl (lv_at hl 2 rfl) ?_
        refine lv_bipush (v := 24) hx hb dX5_firstReady_13 (by decide) ?_
        refine lv_icmp_ge (tgt := 55) hx hb dX5_firstReady_15 (by decide) (fun c2 => ?_) (fun c2 => ?_)
        · have hF := ite_T c2 hF
          refine lv_aload_nN hx hb dX5_firstReady_55 rfl (lv_at hl 1 rfl) ?_
          cases hF
          exact m_aretN X hS hP rfl dX5_firstReady_56
        · have hF := ite_F c2 hF
          refine lv_aload_n hx hb dX5_firstReady_18 rfl (lv_at hl 0 rfl) ?_
          refine gf_0_4 hx hb htm hown hE hP hw (htm _ qw_121) dX5_firstReady_19 ?_
          refine lv_iload_n hx hb dX5_firstReady_22 rfl (lv_at hl 2 rfl) ?_
          obtain ⟨hn3, hF⟩ := ite_S hF
          refine mql hx hb htm hown hE hP hw hn3 dX5_firstReady_23 ?_
          have hj4 : Int32.toNatClampNeg y2 < 24 := Nat.not_le.mp fun q => hn3 (Or.inr q)
          refine lv_astore_n (lv' := [(3, .ref (ad w 7 (Int32.toNatClampNeg y2))), (0, .ref (ad w 0 0)), (1, .null), (2, .int y2)]) hx hb dX5_firstReady_24 rfl hl (by decide) rfl (fun ls hl => ?_)
          refine lv_aload_n hx hb dX5_firstReady_25 rfl (lv_at hl 0 rfl) ?_
          refine gf_7_5 hx hb htm hown hE hP hw hj4 (htm _ qw_144) dX5_firstReady_26 ?_
          refine lv_if_ne (tgt := 49) hx hb dX5_firstReady_29 (by decide) (fun c5 => ?_) (fun c5 => ?_)
          · have hF := ite_F c5 hF
            refine lv_iinc (v := y2 + 1) (lv' := [(2, .int (y2 + 1)), (3, .ref (ad w 7 (Int32.toNatClampNeg y2))), (0, .ref (ad w 0 0)), (1, .null)]) hx hb dX5_firstReady_49 hl (k := 3) rfl rfl (by decide) rfl (fun ls hl => ?_)
            refine lv_goto (tgt := 4) hx hb dX5_firstReady_52 (by decide) ?_
            exact ih4 _ _  (fun q h9 => by cases h9) hP hS (lv_sub hl [2, 3, 0] rfl) hF
          · have hF := ite_T c5 hF
            refine lv_aload_nN hx hb dX5_firstReady_32 rfl (lv_at hl 2 rfl) ?_
            refine lv_ifnullN (tgt := 47) hx hb dX5_firstReady_33 (by decide) ?_
            refine lv_aload_n hx hb dX5_firstReady_47 rfl (lv_at hl 0 rfl) ?_
            refine lv_astore_n (lv' := [(1, .ref (ad w 7 (Int32.toNatClampNeg y2))), (3, .ref (ad w 7 (Int32.toNatClampNeg y2))), (0, .ref (ad w 0 0)), (2, .int y2)]) hx hb dX5_firstReady_48 rfl hl (by decide) rfl (fun ls hl => ?_)
            refine lv_iinc (v := y2 + 1) (lv' := [(2, .int (y2 + 1)), (1, .ref (ad w 7 (Int32.toNatClampNeg y2))), (3, .ref (ad w 7 (Int32.toNatClampNeg y2))), (0, .ref (ad w 0 0))]) hx hb dX5_firstReady_49 hl (k := 3) rfl rfl (by decide) rfl (fun ls hl => ?_)
            refine lv_goto (tgt := 4) hx hb dX5_firstReady_52 (by decide) ?_
            exact ih4 _ _  (fun q h9 => by cases h9; exact hj4) hP hS (lv_sub hl [3, 1, 0] rfl) hF
    · skip
      have hq1 : q1 < 24 := ho1 q1 rfl
      have hl : lv_has ls 4 [(0, .ref (ad w 0 0)), (1, .ref (ad w 7 q1)), (2, .int y2)] := hl
      refine lv_iload_n hx hb dX5_firstReady_4 rfl (lv_at hl 2 rfl) ?_
      refine lv_aload_n hx hb dX5_firstReady_5 rfl (lv_at hl 0 rfl) ?_
      refine gf_0_5 hx hb htm hown hE hP hw (htm _ qw_129) dX5_firstReady_6 ?_
      refine lv_icmp_ge (tgt := 55) hx hb dX5_firstReady_9 (by decide) (fun c6 => ?_) (fun c6 => ?_)
      · have hF := ite_T c6 hF
        refine lv_aload_n hx hb dX5_firstReady_55 rfl (lv_at hl 1 rfl) ?_
        cases hF
        exact m_aretR X hS hP rfl dX5_firstReady_56
      · have hF := ite_F c6 hF
        refine lv_iload_n hx hb dX5_firstReady_12 rfl (lv_at hl 2 rfl) ?_
        refine lv_bipush (v := 24) hx hb dX5_firstReady_13 (by decide) ?_
        refine lv_icmp_ge (tgt := 55) hx hb dX5_firstReady_15 (by decide) (fun c7 => ?_) (fun c7 => ?_)
        · have hF := ite_T c7 hF
          refine lv_aload_n hx hb dX5_firstReady_55 rfl (lv_at hl 1 rfl) ?_
          cases hF
          exact m_aretR X hS hP rfl dX5_firstReady_56
        · have hF := ite_F c7 hF
          refine lv_aload_n hx hb dX5_firstReady_18 rfl (lv_at hl 0 rfl) ?_
          refine gf_0_4 hx hb htm hown hE hP hw (htm _ qw_121) dX5_firstReady_19 ?_
          refine lv_iload_n hx hb dX5_firstReady_22 rfl (lv_at hl 2 rfl) ?_
          obtain ⟨hn8, hF⟩ := ite_S hF
          refine mql hx hb htm hown hE hP hw hn8 dX5_firstReady_23 ?_
          have hj9 : Int32.toNatClampNeg y2 < 24 := Nat.not_le.mp fun q => hn8 (Or.inr q)
          refine lv_astore_n (lv' := [(3, .ref (ad w 7 (Int32.toNatClampNeg y2))), (0, .ref (ad w 0 0)), (1, .ref (ad w 7 q1)), (2, .int y2)]) hx hb dX5_firstReady_24 rfl hl (by decide) rfl (fun ls hl => ?_)
          refine lv_aload_n hx hb dX5_firstReady_25 rfl (lv_at hl 0 rfl) ?_
          refine gf_7_5 hx hb htm hown hE hP hw hj9 (htm _ qw_144) dX5_firstReady_26 ?_
          refine lv_if_ne (tgt := 49) hx hb dX5_firstReady_29 (by decide) (fun c10 => ?_) (fun c10 => ?_)
          · have hF := ite_F c10 hF
            refine lv_iinc (v := y2 + 1) (lv' := [(2, .int (y2 + 1)), (3, .ref (ad w 7 (Int32.toNatClampNeg y2))), (0, .ref (ad w 0 0)), (1, .ref (ad w 7 q1))]) hx hb dX5_firstReady_49 hl (k := 3) rfl rfl (by decide) rfl (fun ls hl => ?_)
            refine lv_goto (tgt := 4) hx hb dX5_firstReady_52 (by decide) ?_
            exact ih4 _ _  (fun q h9 => by cases h9; exact hq1) hP hS (lv_sub hl [2, 3, 0] rfl) hF
          · have hF := ite_T c10 hF
            refine lv_aload_n hx hb dX5_firstReady_32 rfl (lv_at hl 2 rfl) ?_
            refine lv_ifnull hx hb dX5_firstReady_33 ?_
            refine lv_aload_n hx hb dX5_firstReady_36 rfl (lv_at hl 0 rfl) ?_
            refine gf_7_11 hx hb htm hown hE hP hw hj9 (htm _ qw_153) dX5_firstReady_37 ?_
            refine lv_aload_n hx hb dX5_firstReady_40 rfl (lv_at hl 2 rfl) ?_
            refine gf_7_11 hx hb htm hown hE hP hw hq1 (htm _ qw_153) dX5_firstReady_41 ?_
            refine lv_icmp_ge (tgt := 49) hx hb dX5_firstReady_44 (by decide) (fun c11 => ?_) (fun c11 => ?_)
            · have hF := ite_T c11 hF
              refine lv_iinc (v := y2 + 1) (lv' := [(2, .int (y2 + 1)), (3, .ref (ad w 7 (Int32.toNatClampNeg y2))), (0, .ref (ad w 0 0)), (1, .ref (ad w 7 q1))]) hx hb dX5_firstReady_49 hl (k := 3) rfl rfl (by decide) rfl (fun ls hl => ?_)
              refine lv_goto (tgt := 4) hx hb dX5_firstReady_52 (by decide) ?_
              exact ih4 _ _  (fun q h9 => by cases h9; exact hq1) hP hS (lv_sub hl [2, 3, 0] rfl) hF
            · have hF := ite_F c11 hF
              refine lv_aload_n hx hb dX5_firstReady_47 rfl (lv_at hl 0 rfl) ?_
              refine lv_astore_n (lv' := [(1, .ref (ad w 7 (Int32.toNatClampNeg y2))), (3, .ref (ad w 7 (Int32.toNatClampNeg y2))), (0, .ref (ad w 0 0)), (2, .int y2)]) hx hb dX5_firstReady_48 rfl hl (by decide) rfl (fun ls hl => ?_)
              refine lv_iinc (v := y2 + 1) (lv' := [(2, .int (y2 + 1)), (1, .ref (ad w 7 (Int32.toNatClampNeg y2))), (3, .ref (ad w 7 (Int32.toNatClampNeg y2))), (0, .ref (ad w 0 0))]) hx hb dX5_firstReady_49 hl (k := 3) rfl rfl (by decide) rfl (fun ls hl => ?_)
              refine lv_goto (tgt := 4) hx hb dX5_firstReady_52 (by decide) ?_
              exact ih4 _ _  (fun q h9 => by cases h9; exact hj9) hP hS (lv_sub hl [3, 1, 0] rfl) hF
set_option maxRecDepth 20000 in
set_option maxHeartbeats 4000000 in
theorem c_X5_firstReady {l : Launch} {D : va_G} {ad : Nat → Nat → Nat → Nat} {cI cZ cP : ClassId} {A : Nat → Prop} {w : Nat} (hw : w < 2) {G V U : MT}  {r : Option Nat}  (hF : f_X5_firstReady G V  = some r) : Met l yX5_firstReady (.code yX5_firstReady cX5_firstReady 4 (some (.object "MailDen$Proc")) :: WM) rm_X5_firstReady (PcM D ad cI cZ cP A [.ref (ad w 0 0)] (Pic D ad cI cZ cP w G V U)) (QcQ A (r.map (ad w 7)) (Pic D ad cI cZ cP w G V U)) 0 0 A := by
  refine m_entry (by decide) (Nat.le_of_ble_eq_true rfl) (fun p e s m below meth c ls X hP hS hl => ?_)
  have X : MX p s m _ meth c cX5_firstReady RX5 4 (some (.object "MailDen$Proc")) D ad cI cZ cP A := X
  obtain ⟨hx, hb, hml, hown, htm, hr, hlk, hE⟩ := id X
  have hl : lv_has ls 4 [(0, .ref (ad w 0 0))] := hl
  refine lv_null hx hb dX5_firstReady_0 ?_
  refine lv_astore_nN (lv' := [(1, .null), (0, .ref (ad w 0 0))]) hx hb dX5_firstReady_1 rfl hl (by decide) rfl (fun ls hl => ?_)
  refine lv_iconst (v := 0) hx hb dX5_firstReady_2 (by decide) ?_
  refine lv_istore_n (lv' := [(2, .int 0), (1, .null), (0, .ref (ad w 0 0))]) hx hb dX5_firstReady_3 rfl hl (by decide) rfl (fun ls hl => ?_)
  exact l_X5_firstReady_4 X hw  30 _ _ (fun q h9 => by cases h9) hP hS (lv_sub hl [2, 1, 0] rfl) hF
def f_X5_placeInRow_13 (G V : MT) : Nat → Nat → Int32 → Int32 → Option (Int32)
  | 0, _, _, _ => none
  | n + 1, j1, y2, y3 => if V 0 0 5 ≤ y3 then (some y2) else (if 24 ≤ y3 then (some y2) else (if ¬ (y3 < 0 ∨ 24 ≤ Int32.toNatClampNeg y3) then (if V 7 (Int32.toNatClampNeg y3) 5 = 0 then (if ¬ (y3 < 0 ∨ 24 ≤ Int32.toNatClampNeg y3) then (if V 7 j1 11 ≤ V 7 (Int32.toNatClampNeg y3) 11 then ((f_X5_placeInRow_13 G V n) j1 y2 (y3 + 1)) else ((f_X5_placeInRow_13 G V n) j1 (y2 + 1) (y3 + 1))) else none) else ((f_X5_placeInRow_13 G V n) j1 y2 (y3 + 1))) else none))
def f_X5_placeInRow (G V : MT) (i1 : Nat) : Option (Int32) :=
  if V 7 i1 5 = 0 then (f_X5_placeInRow_13 G V  30 i1 0 0) else (some (-1))
def rm_X5_placeInRow : Room := { frames := 0, cells := 0, slots := 0, locals := 0 }
set_option maxRecDepth 20000 in
set_option maxHeartbeats 4000000 in
theorem l_X5_placeInRow_13 {p : Program} {l : Launch} {e : Env} {s : State} {m : MethodId} {args : Array Value} {below : List Frame} {meth : Method} {c : Code} {D : va_G} {ad : Nat → Nat → Nat → Nat} {cI cZ cP : ClassId} {A : Nat → Prop} {G V U : MT} {r : Int32} (X : MX p s m args meth c cX5_placeInRow RX5 4 (some .int) D ad cI cZ cP A) {w : Nat} (hw : w < 2) (n : Nat) : ∀ {H : Heap} {locs : List Loc} {ls : Array Slot} (j1 : Nat) (y2 : Int32) (y3 : Int32), j1 < 24 → Pic D ad cI cZ cP w G V U H → va_S A s.heap H locs → lv_has ls 4 [(0, .ref (ad w 0 0)), (1, .ref (ad w 7 j1)), (2, .int y2), (3, .int y3)] → f_X5_placeInRow_13 G V n j1 y2 y3 = some r → W p l e rm_X5_placeInRow s m args below meth c H locs 0 0 (MQ below (QcI A r (Pic D ad cI cZ cP w G V U)) args s 0 0 A) (F0 m 13 ls []) := by
  obtain ⟨hx, hb, hml, hown, htm, hr, hlk, hE⟩ := id X
  induction n with
  | zero =>
    intros
    exact ns_S (by assumption)
  | succ n ih13 =>
    intro H locs ls j1 y2 y3 hj1  hP hS hl hF
    rw [f_X5_placeInRow_13] at hF
    refine lv_iload_n hx hb dX5_placeInRow_13 rfl (lv_at hl 3 rfl) ?_
    refine lv_aload_n hx hb dX5_placeInRow_14 rfl (lv_at hl 0 rfl) ?_
    refine gf_0_5 hx hb htm hown hE hP hw (htm _ qw_129) dX5_placeInRow_15 ?_
    refine lv_icmp_ge (tgt := 64) hx hb dX5_placeInRow_18 (by decide) (fun c2 => ?_) (fun c2 => ?_)
    · have hF := ite_T c2 hF
      refine lv_iload_n hx hb dX5_placeInRow_64 rfl (lv_at hl 2 rfl) ?_
      cases hF
      exact m_iret X hS hP rfl dX5_placeInRow_65
    · have hF := ite_F c2 hF
      refine lv_iload_n hx hb dX5_placeInRow_21 rfl (lv_at hl 3 rfl) ?_
      refine lv_bipush (v := 24) hx hb dX5_placeInRow_22 (by decide) ?_
      refine lv_icmp_ge (tgt := 64) hx hb dX5_placeInRow_24 (by decide) (fun c3 => ?_) (fun c3 => ?_)
      · have hF := ite_T c3 hF
        refine lv_iload_n hx hb dX5_placeInRow_64 rfl (lv_at hl 2 rfl) ?_
        cases hF
        exact m_iret X hS hP rfl dX5_placeInRow_65
      · have hF := ite_F c3 hF
        refine lv_aload_n hx hb dX5_placeInRow_27 rfl (lv_at hl 0 rfl) ?_
        refine gf_0_4 hx hb htm hown hE hP hw (htm _ qw_121) dX5_placeInRow_28 ?_
        refine lv_iload_n hx hb dX5_placeInRow_31 rfl (lv_at hl 3 rfl) ?_
        obtain ⟨hn4, hF⟩ := ite_S hF
        refine mql hx hb htm hown hE hP hw hn4 dX5_placeInRow_32 ?_
        have hj5 : Int32.toNatClampNeg y3 < 24 := Nat.not_le.mp fun q => hn4 (Or.inr q)
        refine gf_7_5 hx hb htm hown hE hP hw hj5 (htm _ qw_144) dX5_placeInRow_33 ?_
        refine lv_if_ne (tgt := 58) hx hb dX5_placeInRow_36 (by decide) (fun c6 => ?_) (fun c6 => ?_)
        · have hF := ite_F c6 hF
          refine lv_iinc (v := y3 + 1) (lv' := [(3, .int (y3 + 1)), (0, .ref (ad w 0 0)), (1, .ref (ad w 7 j1)), (2, .int y2)]) hx hb dX5_placeInRow_58 hl (k := 3) rfl rfl (by decide) rfl (fun ls hl => ?_)
          refine lv_goto (tgt := 13) hx hb dX5_placeInRow_61 (by decide) ?_
          exact ih13 _ _ _ hj1 hP hS (lv_sub hl [1, 2, 3, 0] rfl) hF
        · have hF := ite_T c6 hF
          refine lv_aload_n hx hb dX5_placeInRow_39 rfl (lv_at hl 0 rfl) ?_
          refine gf_0_4 hx hb htm hown hE hP hw (htm _ qw_121) dX5_placeInRow_40 ?_
          refine lv_iload_n hx hb dX5_placeInRow_43 rfl (lv_at hl 3 rfl) ?_
          obtain ⟨hn7, hF⟩ := ite_S hF
          refine mql hx hb htm hown hE hP hw hn7 dX5_placeInRow_44 ?_
          have hj8 : Int32.toNatClampNeg y3 < 24 := Nat.not_le.mp fun q => hn7 (Or.inr q)
          refine gf_7_11 hx hb htm hown hE hP hw hj8 (htm _ qw_153) dX5_placeInRow_45 ?_
          refine lv_aload_n hx hb dX5_placeInRow_48 rfl (lv_at hl 1 rfl) ?_
          refine gf_7_11 hx hb htm hown hE hP hw hj1 (htm _ qw_153) dX5_placeInRow_49 ?_
          refine lv_icmp_ge (tgt := 58) hx hb dX5_placeInRow_52 (by decide) (fun c9 => ?_) (fun c9 => ?_)
          · have hF := ite_T c9 hF
            refine lv_iinc (v := y3 + 1) (lv' := [(3, .int (y3 + 1)), (0, .ref (ad w 0 0)), (1, .ref (ad w 7 j1)), (2, .int y2)]) hx hb dX5_placeInRow_58 hl (k := 3) rfl rfl (by decide) rfl (fun ls hl => ?_)
            refine lv_goto (tgt := 13) hx hb dX5_placeInRow_61 (by decide) ?_
            exact ih13 _ _ _ hj1 hP hS (lv_sub hl [1, 2, 3, 0] rfl) hF
          · have hF := ite_F c9 hF
            refine lv_iinc (v := y2 + 1) (lv' := [(2, .int (y2 + 1)), (0, .ref (ad w 0 0)), (1, .ref (ad w 7 j1)), (3, .int y3)]) hx hb dX5_placeInRow_55 hl (k := 2) rfl rfl (by decide) rfl (fun ls hl => ?_)
            refine lv_iinc (v := y3 + 1) (lv' := [(3, .int (y3 + 1)), (2, .int (y2 + 1)), (0, .ref (ad w 0 0)), (1, .ref (ad w 7 j1))]) hx hb dX5_placeInRow_58 hl (k := 3) rfl rfl (by decide) rfl (fun ls hl => ?_)
            refine lv_goto (tgt := 13) hx hb dX5_placeInRow_61 (by decide) ?_
            exact ih13 _ _ _ hj1 hP hS (lv_sub hl [2, 3, 1, 0] rfl) hF
set_option maxRecDepth 20000 in
set_option maxHeartbeats 4000000 in
theorem c_X5_placeInRow {l : Launch} {D : va_G} {ad : Nat → Nat → Nat → Nat} {cI cZ cP : ClassId} {A : Nat → Prop} {w : Nat} (hw : w < 2) {G V U : MT} {i1 : Nat} {r : Int32}  (hi1 : i1 < 24) (hF : f_X5_placeInRow G V i1 = some r) : Met l yX5_placeInRow (.code yX5_placeInRow cX5_placeInRow 4 (some .int) :: WM) rm_X5_placeInRow (PcM D ad cI cZ cP A [.ref (ad w 0 0), .ref (ad w 7 i1)] (Pic D ad cI cZ cP w G V U)) (QcI A r (Pic D ad cI cZ cP w G V U)) 0 0 A := by
  refine m_entry (by decide) (Nat.le_of_ble_eq_true rfl) (fun p e s m below meth c ls X hP hS hl => ?_)
  have X : MX p s m _ meth c cX5_placeInRow RX5 4 (some .int) D ad cI cZ cP A := X
  obtain ⟨hx, hb, hml, hown, htm, hr, hlk, hE⟩ := id X
  have hl : lv_has ls 4 [(0, .ref (ad w 0 0)), (1, .ref (ad w 7 i1))] := hl
  refine lv_aload_n hx hb dX5_placeInRow_0 rfl (lv_at hl 1 rfl) ?_
  refine gf_7_5 hx hb htm hown hE hP hw hi1 (htm _ qw_144) dX5_placeInRow_1 ?_
  refine lv_if_eq (tgt := 9) hx hb dX5_placeInRow_4 (by decide) (fun c1 => ?_) (fun c1 => ?_)
  · have hF := ite_T c1 hF
    refine lv_iconst (v := 0) hx hb dX5_placeInRow_9 (by decide) ?_
    refine lv_istore_n (lv' := [(2, .int 0), (0, .ref (ad w 0 0)), (1, .ref (ad w 7 i1))]) hx hb dX5_placeInRow_10 rfl hl (by decide) rfl (fun ls hl => ?_)
    refine lv_iconst (v := 0) hx hb dX5_placeInRow_11 (by decide) ?_
    refine lv_istore_n (lv' := [(3, .int 0), (2, .int 0), (0, .ref (ad w 0 0)), (1, .ref (ad w 7 i1))]) hx hb dX5_placeInRow_12 rfl hl (by decide) rfl (fun ls hl => ?_)
    exact l_X5_placeInRow_13 X hw  30 _ _ _ hi1 hP hS (lv_sub hl [2, 3, 1, 0] rfl) hF
  · have hF := ite_F c1 hF
    refine lv_iconst (v := (-1)) hx hb dX5_placeInRow_7 (by decide) ?_
    cases hF
    exact m_iret X hS hP rfl dX5_placeInRow_8
def f_X5_watchesOf_14 (G V : MT) : Nat → Nat → Int32 → Int32 → Option (Int32)
  | 0, _, _, _ => none
  | n + 1, j1, y2, y3 => if V 13 j1 2 ≤ y3 then (some y2) else (if 24 ≤ y3 then (some y2) else (if ¬ (y3 < 0 ∨ 24 ≤ Int32.toNatClampNeg y3) then ((f_X5_living G V (V 14 j1 (Int32.toNatClampNeg y3))).bind (fun q5_ => oc q5_ ((f_X5_watchesOf_14 G V n) j1 y2 (y3 + 1)) (fun e5 => if e5 < 24 then (if ¬ (y3 < 0 ∨ 24 ≤ Int32.toNatClampNeg y3) then ((f_X5_watchesOf_14 G V n) j1 (y2 + (V 15 j1 (Int32.toNatClampNeg y3))) (y3 + 1)) else none) else none))) else none))
def f_X5_watchesOf (G V : MT) (i1 : Nat) : Option (Int32) :=
  if V 7 i1 5 = 2 then (some 0) else (f_X5_watchesOf_14 G V  30 i1 0 0)
def rm_X5_watchesOf : Room := { frames := 1, cells := 0, slots := 0, locals := 21 }
set_option maxRecDepth 20000 in
set_option maxHeartbeats 4000000 in
theorem l_X5_watchesOf_14 {p : Program} {l : Launch} {e : Env} {s : State} {m : MethodId} {args : Array Value} {below : List Frame} {meth : Method} {c : Code} {D : va_G} {ad : Nat → Nat → Nat → Nat} {cI cZ cP : ClassId} {A : Nat → Prop} {G V U : MT} {r : Int32} (X : MX p s m args meth c cX5_watchesOf RX5 4 (some .int) D ad cI cZ cP A) {w : Nat} (hw : w < 2) (n : Nat) : ∀ {H : Heap} {locs : List Loc} {ls : Array Slot} (j1 : Nat) (y2 : Int32) (y3 : Int32), j1 < 24 → Pic D ad cI cZ cP w G V U H → va_S A s.heap H locs → lv_has ls 4 [(0, .ref (ad w 0 0)), (1, .ref (ad w 7 j1)), (2, .int y2), (3, .int y3)] → f_X5_watchesOf_14 G V n j1 y2 y3 = some r → W p l e rm_X5_watchesOf s m args below meth c H locs 0 0 (MQ below (QcI A r (Pic D ad cI cZ cP w G V U)) args s 0 0 A) (F0 m 14 ls []) := by
  obtain ⟨hx, hb, hml, hown, htm, hr, hlk, hE⟩ := id X
  induction n with
  | zero =>
    intros
    exact ns_S (by assumption)
  | succ n ih14 =>
    intro H locs ls j1 y2 y3 hj1  hP hS hl hF
    rw [f_X5_watchesOf_14] at hF
    refine lv_iload_n hx hb dX5_watchesOf_14 rfl (lv_at hl 3 rfl) ?_
    refine lv_aload_n hx hb dX5_watchesOf_15 rfl (lv_at hl 1 rfl) ?_
    refine gf_7_18 hx hb htm hown hE hP hw hj1 (htm _ qw_207) dX5_watchesOf_16 ?_
    refine gf_13_2 hx hb htm hown hE hP hw hj1 (htm _ qw_208) dX5_watchesOf_19 ?_
    refine lv_icmp_ge (tgt := 65) hx hb dX5_watchesOf_22 (by decide) (fun c2 => ?_) (fun c2 => ?_)
    · have hF := ite_T c2 hF
      refine lv_iload_n hx hb dX5_watchesOf_65 rfl (lv_at hl 2 rfl) ?_
      cases hF
      exact m_iret X hS hP rfl dX5_watchesOf_66
    · have hF := ite_F c2 hF
      refine lv_iload_n hx hb dX5_watchesOf_25 rfl (lv_at hl 3 rfl) ?_
      refine lv_bipush (v := 24) hx hb dX5_watchesOf_26 (by decide) ?_
      refine lv_icmp_ge (tgt := 65) hx hb dX5_watchesOf_28 (by decide) (fun c3 => ?_) (fun c3 => ?_)
      · have hF := ite_T c3 hF
        refine lv_iload_n hx hb dX5_watchesOf_65 rfl (lv_at hl 2 rfl) ?_
        cases hF
        exact m_iret X hS hP rfl dX5_watchesOf_66
      · have hF := ite_F c3 hF
        refine lv_aload_n hx hb dX5_watchesOf_31 rfl (lv_at hl 0 rfl) ?_
        refine lv_aload_n hx hb dX5_watchesOf_32 rfl (lv_at hl 1 rfl) ?_
        refine gf_7_18 hx hb htm hown hE hP hw hj1 (htm _ qw_207) dX5_watchesOf_33 ?_
        refine gf_13_0 hx hb htm hown hE hP hw hj1 (htm _ qw_209) dX5_watchesOf_36 ?_
        refine lv_iload_n hx hb dX5_watchesOf_39 rfl (lv_at hl 3 rfl) ?_
        obtain ⟨hn4, hF⟩ := ite_S hF
        refine al_14 hx hb htm hown hE hP hw hj1 hn4 dX5_watchesOf_40 ?_
        obtain ⟨r5, hc5, hF⟩ := ob_S hF
        refine m_cVq X hS vw_X5_living qw_191 (c_X5_living hw hc5) ⟨rfl, rfl⟩ ⟨Nat.le_of_ble_eq_true rfl, Nat.le_of_ble_eq_true rfl⟩ (rc_0 hE hP hw) hP rfl hl.1 (rest := []) rfl (Nat.le_of_ble_eq_true rfl) dX5_watchesOf_41 (fun H locs hP hS => ?_)
        rcases r5 with _ | e5
        · skip
          refine lv_ifnullN (tgt := 59) hx hb dX5_watchesOf_44 (by decide) ?_
          refine lv_iinc (v := y3 + 1) (lv' := [(3, .int (y3 + 1)), (0, .ref (ad w 0 0)), (1, .ref (ad w 7 j1)), (2, .int y2)]) hx hb dX5_watchesOf_59 hl (k := 3) rfl rfl (by decide) rfl (fun ls hl => ?_)
          refine lv_goto (tgt := 14) hx hb dX5_watchesOf_62 (by decide) ?_
          exact ih14 _ _ _ hj1 hP hS (lv_sub hl [1, 2, 3, 0] rfl) hF
        · obtain ⟨he5, hF⟩ := ite_S hF
          refine lv_ifnull hx hb dX5_watchesOf_44 ?_
          refine lv_iload_n hx hb dX5_watchesOf_47 rfl (lv_at hl 2 rfl) ?_
          refine lv_aload_n hx hb dX5_watchesOf_48 rfl (lv_at hl 1 rfl) ?_
          refine gf_7_18 hx hb htm hown hE hP hw hj1 (htm _ qw_207) dX5_watchesOf_49 ?_
          refine gf_13_1 hx hb htm hown hE hP hw hj1 (htm _ qw_210) dX5_watchesOf_52 ?_
          refine lv_iload_n hx hb dX5_watchesOf_55 rfl (lv_at hl 3 rfl) ?_
          obtain ⟨hn6, hF⟩ := ite_S hF
          refine al_15 hx hb htm hown hE hP hw hj1 hn6 dX5_watchesOf_56 ?_
          refine lv_iadd hx hb dX5_watchesOf_57 ?_
          refine lv_istore_n (lv' := [(2, .int (y2 + (V 15 j1 (Int32.toNatClampNeg y3)))), (0, .ref (ad w 0 0)), (1, .ref (ad w 7 j1)), (3, .int y3)]) hx hb dX5_watchesOf_58 rfl hl (by decide) rfl (fun ls hl => ?_)
          refine lv_iinc (v := y3 + 1) (lv' := [(3, .int (y3 + 1)), (2, .int (y2 + (V 15 j1 (Int32.toNatClampNeg y3)))), (0, .ref (ad w 0 0)), (1, .ref (ad w 7 j1))]) hx hb dX5_watchesOf_59 hl (k := 3) rfl rfl (by decide) rfl (fun ls hl => ?_)
          refine lv_goto (tgt := 14) hx hb dX5_watchesOf_62 (by decide) ?_
          exact ih14 _ _ _ hj1 hP hS (lv_sub hl [2, 3, 1, 0] rfl) hF
set_option maxRecDepth 20000 in
set_option maxHeartbeats 4000000 in
theorem c_X5_watchesOf {l : Launch} {D : va_G} {ad : Nat → Nat → Nat → Nat} {cI cZ cP : ClassId} {A : Nat → Prop} {w : Nat} (hw : w < 2) {G V U : MT} {i1 : Nat} {r : Int32}  (hi1 : i1 < 24) (hF : f_X5_watchesOf G V i1 = some r) : Met l yX5_watchesOf (.code yX5_watchesOf cX5_watchesOf 4 (some .int) :: WM) rm_X5_watchesOf (PcM D ad cI cZ cP A [.ref (ad w 0 0), .ref (ad w 7 i1)] (Pic D ad cI cZ cP w G V U)) (QcI A r (Pic D ad cI cZ cP w G V U)) 0 0 A := by
  refine m_entry (by decide) (Nat.le_of_ble_eq_true rfl) (fun p e s m below meth c ls X hP hS hl => ?_)
  have X : MX p s m _ meth c cX5_watchesOf RX5 4 (some .int) D ad cI cZ cP A := X
  obtain ⟨hx, hb, hml, hown, htm, hr, hlk, hE⟩ := id X
  have hl : lv_has ls 4 [(0, .ref (ad w 0 0)), (1, .ref (ad w 7 i1))] := hl
  refine lv_aload_n hx hb dX5_watchesOf_0 rfl (lv_at hl 1 rfl) ?_
  refine gf_7_5 hx hb htm hown hE hP hw hi1 (htm _ qw_144) dX5_watchesOf_1 ?_
  refine lv_iconst (v := 2) hx hb dX5_watchesOf_4 (by decide) ?_
  refine lv_icmp_ne (tgt := 10) hx hb dX5_watchesOf_5 (by decide) (fun c1 => ?_) (fun c1 => ?_)
  · have hF := ite_F c1 hF
    refine lv_iconst (v := 0) hx hb dX5_watchesOf_10 (by decide) ?_
    refine lv_istore_n (lv' := [(2, .int 0), (0, .ref (ad w 0 0)), (1, .ref (ad w 7 i1))]) hx hb dX5_watchesOf_11 rfl hl (by decide) rfl (fun ls hl => ?_)
    refine lv_iconst (v := 0) hx hb dX5_watchesOf_12 (by decide) ?_
    refine lv_istore_n (lv' := [(3, .int 0), (2, .int 0), (0, .ref (ad w 0 0)), (1, .ref (ad w 7 i1))]) hx hb dX5_watchesOf_13 rfl hl (by decide) rfl (fun ls hl => ?_)
    exact l_X5_watchesOf_14 X hw  30 _ _ _ hi1 hP hS (lv_sub hl [2, 3, 1, 0] rfl) hF
  · have hF := ite_T c1 hF
    refine lv_iconst (v := 0) hx hb dX5_watchesOf_8 (by decide) ?_
    cases hF
    exact m_iret X hS hP rfl dX5_watchesOf_9
def f_X5_runners_6 (G V : MT) : Nat → Int32 → Int32 → Int32 → Int32 → Int32 → Option (Int32)
  | 0, _, _, _, _, _ => none
  | n + 1, y1, y2, y3, y4, y5 => if V 0 0 5 ≤ y5 then (some y4) else (if 24 ≤ y5 then (some y4) else (if ¬ (y5 < 0 ∨ 24 ≤ Int32.toNatClampNeg y5) then (if V 7 (Int32.toNatClampNeg y5) 5 = 2 then ((f_X5_runners_6 G V n) y1 y2 y3 y4 (y5 + 1)) else (if V 7 (Int32.toNatClampNeg y5) 1 = y1 then ((f_X6_isWithin (V 7 (Int32.toNatClampNeg y5) 2) y2 y3).bind (fun q7_ => if q7_ = 0 then ((f_X5_runners_6 G V n) y1 y2 y3 y4 (y5 + 1)) else ((f_X5_runners_6 G V n) y1 y2 y3 (y4 ||| (1 <<< (y5 &&& 31))) (y5 + 1)))) else ((f_X5_runners_6 G V n) y1 y2 y3 y4 (y5 + 1)))) else none))
def f_X5_runners (G V : MT) (x1 : Int32) (x2 : Int32) (x3 : Int32) : Option (Int32) :=
  f_X5_runners_6 G V  30 x1 x2 x3 0 0
def rm_X5_runners : Room := { frames := 1, cells := 0, slots := 0, locals := 22 }
set_option maxRecDepth 20000 in
set_option maxHeartbeats 4000000 in
theorem l_X5_runners_6 {p : Program} {l : Launch} {e : Env} {s : State} {m : MethodId} {args : Array Value} {below : List Frame} {meth : Method} {c : Code} {D : va_G} {ad : Nat → Nat → Nat → Nat} {cI cZ cP : ClassId} {A : Nat → Prop} {G V U : MT} {r : Int32} (X : MX p s m args meth c cX5_runners RX5 7 (some .int) D ad cI cZ cP A) {w : Nat} (hw : w < 2) (n : Nat) : ∀ {H : Heap} {locs : List Loc} {ls : Array Slot} (y1 : Int32) (y2 : Int32) (y3 : Int32) (y4 : Int32) (y5 : Int32), Pic D ad cI cZ cP w G V U H → va_S A s.heap H locs → lv_has ls 7 [(0, .ref (ad w 0 0)), (1, .int y1), (2, .int y2), (3, .int y3), (4, .int y4), (5, .int y5)] → f_X5_runners_6 G V n y1 y2 y3 y4 y5 = some r → W p l e rm_X5_runners s m args below meth c H locs 0 0 (MQ below (QcI A r (Pic D ad cI cZ cP w G V U)) args s 0 0 A) (F0 m 6 ls []) := by
  obtain ⟨hx, hb, hml, hown, htm, hr, hlk, hE⟩ := id X
  induction n with
  | zero =>
    intros
    exact ns_S (by assumption)
  | succ n ih6 =>
    intro H locs ls y1 y2 y3 y4 y5   hP hS hl hF
    rw [f_X5_runners_6] at hF
    refine lv_iload hx hb dX5_runners_6 (lv_at hl 5 rfl) ?_
    refine lv_aload_n hx hb dX5_runners_8 rfl (lv_at hl 0 rfl) ?_
    refine gf_0_5 hx hb htm hown hE hP hw (htm _ qw_129) dX5_runners_9 ?_
    refine lv_icmp_ge (tgt := 77) hx hb dX5_runners_12 (by decide) (fun c1 => ?_) (fun c1 => ?_)
    · have hF := ite_T c1 hF
      refine lv_iload hx hb dX5_runners_77 (lv_at hl 4 rfl) ?_
      cases hF
      exact m_iret X hS hP rfl dX5_runners_79
    · have hF := ite_F c1 hF
      refine lv_iload hx hb dX5_runners_15 (lv_at hl 5 rfl) ?_
      refine lv_bipush (v := 24) hx hb dX5_runners_17 (by decide) ?_
      refine lv_icmp_ge (tgt := 77) hx hb dX5_runners_19 (by decide) (fun c2 => ?_) (fun c2 => ?_)
      · have hF := ite_T c2 hF
        refine lv_iload hx hb dX5_runners_77 (lv_at hl 4 rfl) ?_
        cases hF
        exact m_iret X hS hP rfl dX5_runners_79
      · have hF := ite_F c2 hF
        refine lv_aload_n hx hb dX5_runners_22 rfl (lv_at hl 0 rfl) ?_
        refine gf_0_4 hx hb htm hown hE hP hw (htm _ qw_121) dX5_runners_23 ?_
        refine lv_iload hx hb dX5_runners_26 (lv_at hl 5 rfl) ?_
        obtain ⟨hn3, hF⟩ := ite_S hF
        refine mql hx hb htm hown hE hP hw hn3 dX5_runners_28 ?_
        have hj4 : Int32.toNatClampNeg y5 < 24 := Nat.not_le.mp fun q => hn3 (Or.inr q)
        refine lv_astore (lv' := [(6, .ref (ad w 7 (Int32.toNatClampNeg y5))), (0, .ref (ad w 0 0)), (1, .int y1), (2, .int y2), (3, .int y3), (4, .int y4), (5, .int y5)]) hx hb dX5_runners_29 hl (by decide) rfl (fun ls hl => ?_)
        refine lv_aload hx hb dX5_runners_31 (lv_at hl 0 rfl) ?_
        refine gf_7_5 hx hb htm hown hE hP hw hj4 (htm _ qw_144) dX5_runners_33 ?_
        refine lv_iconst (v := 2) hx hb dX5_runners_36 (by decide) ?_
        refine lv_icmp_eq (tgt := 71) hx hb dX5_runners_37 (by decide) (fun c5 => ?_) (fun c5 => ?_)
        · have hF := ite_T c5 hF
          refine lv_iinc (v := y5 + 1) (lv' := [(5, .int (y5 + 1)), (6, .ref (ad w 7 (Int32.toNatClampNeg y5))), (0, .ref (ad w 0 0)), (1, .int y1), (2, .int y2), (3, .int y3), (4, .int y4)]) hx hb dX5_runners_71 hl (k := 6) rfl rfl (by decide) rfl (fun ls hl => ?_)
          refine lv_goto (tgt := 6) hx hb dX5_runners_74 (by decide) ?_
          exact ih6 _ _ _ _ _  hP hS (lv_sub hl [2, 3, 4, 5, 6, 0] rfl) hF
        · have hF := ite_F c5 hF
          refine lv_aload hx hb dX5_runners_40 (lv_at hl 0 rfl) ?_
          refine gf_7_1 hx hb htm hown hE hP hw hj4 (htm _ qw_150) dX5_runners_42 ?_
          refine lv_iload_n hx hb dX5_runners_45 rfl (lv_at hl 2 rfl) ?_
          refine lv_icmp_ne (tgt := 71) hx hb dX5_runners_46 (by decide) (fun c6 => ?_) (fun c6 => ?_)
          · have hF := ite_F c6 hF
            refine lv_iinc (v := y5 + 1) (lv' := [(5, .int (y5 + 1)), (6, .ref (ad w 7 (Int32.toNatClampNeg y5))), (0, .ref (ad w 0 0)), (1, .int y1), (2, .int y2), (3, .int y3), (4, .int y4)]) hx hb dX5_runners_71 hl (k := 6) rfl rfl (by decide) rfl (fun ls hl => ?_)
            refine lv_goto (tgt := 6) hx hb dX5_runners_74 (by decide) ?_
            exact ih6 _ _ _ _ _  hP hS (lv_sub hl [2, 3, 4, 5, 6, 0] rfl) hF
          · have hF := ite_T c6 hF
            refine lv_aload hx hb dX5_runners_49 (lv_at hl 0 rfl) ?_
            refine gf_7_2 hx hb htm hown hE hP hw hj4 (htm _ qw_151) dX5_runners_51 ?_
            refine lv_iload_n hx hb dX5_runners_54 rfl (lv_at hl 3 rfl) ?_
            refine lv_iload_n hx hb dX5_runners_55 rfl (lv_at hl 4 rfl) ?_
            obtain ⟨r7, hc7, hF⟩ := ob_S hF
            refine m_cNi X hS sw_X6_isWithin nst_5 (c_X6_isWithin hc7) ⟨rfl, rfl⟩ ⟨Nat.le_of_ble_eq_true rfl, Nat.le_of_ble_eq_true rfl⟩ hP rfl hl.1 (rest := []) rfl (Nat.le_of_ble_eq_true rfl) dX5_runners_56 (fun H locs hP hS => ?_)
            refine lv_if_eq (tgt := 71) hx hb dX5_runners_59 (by decide) (fun c8 => ?_) (fun c8 => ?_)
            · have hF := ite_T c8 hF
              refine lv_iinc (v := y5 + 1) (lv' := [(5, .int (y5 + 1)), (6, .ref (ad w 7 (Int32.toNatClampNeg y5))), (0, .ref (ad w 0 0)), (1, .int y1), (2, .int y2), (3, .int y3), (4, .int y4)]) hx hb dX5_runners_71 hl (k := 6) rfl rfl (by decide) rfl (fun ls hl => ?_)
              refine lv_goto (tgt := 6) hx hb dX5_runners_74 (by decide) ?_
              exact ih6 _ _ _ _ _  hP hS (lv_sub hl [2, 3, 4, 5, 6, 0] rfl) hF
            · have hF := ite_F c8 hF
              refine lv_iload hx hb dX5_runners_62 (lv_at hl 5 rfl) ?_
              refine lv_iconst (v := 1) hx hb dX5_runners_64 (by decide) ?_
              refine lv_iload hx hb dX5_runners_65 (lv_at hl 6 rfl) ?_
              refine lv_ishl hx hb dX5_runners_67 ?_
              refine lv_ior hx hb dX5_runners_68 ?_
              refine lv_istore (lv' := [(4, .int (y4 ||| (1 <<< (y5 &&& 31)))), (6, .ref (ad w 7 (Int32.toNatClampNeg y5))), (0, .ref (ad w 0 0)), (1, .int y1), (2, .int y2), (3, .int y3), (5, .int y5)]) hx hb dX5_runners_69 hl (by decide) rfl (fun ls hl => ?_)
              refine lv_iinc (v := y5 + 1) (lv' := [(5, .int (y5 + 1)), (4, .int (y4 ||| (1 <<< (y5 &&& 31)))), (6, .ref (ad w 7 (Int32.toNatClampNeg y5))), (0, .ref (ad w 0 0)), (1, .int y1), (2, .int y2), (3, .int y3)]) hx hb dX5_runners_71 hl (k := 6) rfl rfl (by decide) rfl (fun ls hl => ?_)
              refine lv_goto (tgt := 6) hx hb dX5_runners_74 (by decide) ?_
              exact ih6 _ _ _ _ _  hP hS (lv_sub hl [3, 4, 5, 6, 1, 0] rfl) hF
set_option maxRecDepth 20000 in
set_option maxHeartbeats 4000000 in
theorem c_X5_runners {l : Launch} {D : va_G} {ad : Nat → Nat → Nat → Nat} {cI cZ cP : ClassId} {A : Nat → Prop} {w : Nat} (hw : w < 2) {G V U : MT} {x1 : Int32} {x2 : Int32} {x3 : Int32} {r : Int32}  (hF : f_X5_runners G V x1 x2 x3 = some r) : Met l yX5_runners (.code yX5_runners cX5_runners 7 (some .int) :: WM) rm_X5_runners (PcM D ad cI cZ cP A [.ref (ad w 0 0), .int x1, .int x2, .int x3] (Pic D ad cI cZ cP w G V U)) (QcI A r (Pic D ad cI cZ cP w G V U)) 0 0 A := by
  refine m_entry (by decide) (Nat.le_of_ble_eq_true rfl) (fun p e s m below meth c ls X hP hS hl => ?_)
  have X : MX p s m _ meth c cX5_runners RX5 7 (some .int) D ad cI cZ cP A := X
  obtain ⟨hx, hb, hml, hown, htm, hr, hlk, hE⟩ := id X
  have hl : lv_has ls 7 [(0, .ref (ad w 0 0)), (1, .int x1), (2, .int x2), (3, .int x3)] := hl
  refine lv_iconst (v := 0) hx hb dX5_runners_0 (by decide) ?_
  refine lv_istore (lv' := [(4, .int 0), (0, .ref (ad w 0 0)), (1, .int x1), (2, .int x2), (3, .int x3)]) hx hb dX5_runners_1 hl (by decide) rfl (fun ls hl => ?_)
  refine lv_iconst (v := 0) hx hb dX5_runners_3 (by decide) ?_
  refine lv_istore (lv' := [(5, .int 0), (4, .int 0), (0, .ref (ad w 0 0)), (1, .int x1), (2, .int x2), (3, .int x3)]) hx hb dX5_runners_4 hl (by decide) rfl (fun ls hl => ?_)
  exact l_X5_runners_6 X hw  30 _ _ _ _ _ hP hS (lv_sub hl [2, 3, 4, 5, 1, 0] rfl) hF
def f_X5_madeOf_4 (G V : MT) : Nat → Int32 → Int32 → Int32 → Option (Int32)
  | 0, _, _, _ => none
  | n + 1, y1, y2, y3 => if V 0 0 5 ≤ y3 then (some y2) else (if 24 ≤ y3 then (some y2) else (if ¬ (y3 < 0 ∨ 24 ≤ Int32.toNatClampNeg y3) then (if V 7 (Int32.toNatClampNeg y3) 1 = y1 then ((f_X5_madeOf_4 G V n) y1 (y2 + 1) (y3 + 1)) else ((f_X5_madeOf_4 G V n) y1 y2 (y3 + 1))) else none))
def f_X5_madeOf (G V : MT) (x1 : Int32) : Option (Int32) :=
  f_X5_madeOf_4 G V  30 x1 0 0
def rm_X5_madeOf : Room := { frames := 0, cells := 0, slots := 0, locals := 0 }
set_option maxRecDepth 20000 in
set_option maxHeartbeats 4000000 in
theorem l_X5_madeOf_4 {p : Program} {l : Launch} {e : Env} {s : State} {m : MethodId} {args : Array Value} {below : List Frame} {meth : Method} {c : Code} {D : va_G} {ad : Nat → Nat → Nat → Nat} {cI cZ cP : ClassId} {A : Nat → Prop} {G V U : MT} {r : Int32} (X : MX p s m args meth c cX5_madeOf RX5 4 (some .int) D ad cI cZ cP A) {w : Nat} (hw : w < 2) (n : Nat) : ∀ {H : Heap} {locs : List Loc} {ls : Array Slot} (y1 : Int32) (y2 : Int32) (y3 : Int32), Pic D ad cI cZ cP w G V U H → va_S A s.heap H locs → lv_has ls 4 [(0, .ref (ad w 0 0)), (1, .int y1), (2, .int y2), (3, .int y3)] → f_X5_madeOf_4 G V n y1 y2 y3 = some r → W p l e rm_X5_madeOf s m args below meth c H locs 0 0 (MQ below (QcI A r (Pic D ad cI cZ cP w G V U)) args s 0 0 A) (F0 m 4 ls []) := by
  obtain ⟨hx, hb, hml, hown, htm, hr, hlk, hE⟩ := id X
  induction n with
  | zero =>
    intros
    exact ns_S (by assumption)
  | succ n ih4 =>
    intro H locs ls y1 y2 y3   hP hS hl hF
    rw [f_X5_madeOf_4] at hF
    refine lv_iload_n hx hb dX5_madeOf_4 rfl (lv_at hl 3 rfl) ?_
    refine lv_aload_n hx hb dX5_madeOf_5 rfl (lv_at hl 0 rfl) ?_
    refine gf_0_5 hx hb htm hown hE hP hw (htm _ qw_129) dX5_madeOf_6 ?_
    refine lv_icmp_ge (tgt := 40) hx hb dX5_madeOf_9 (by decide) (fun c1 => ?_) (fun c1 => ?_)
    · have hF := ite_T c1 hF
      refine lv_iload_n hx hb dX5_madeOf_40 rfl (lv_at hl 2 rfl) ?_
      cases hF
      exact m_iret X hS hP rfl dX5_madeOf_41
    · have hF := ite_F c1 hF
      refine lv_iload_n hx hb dX5_madeOf_12 rfl (lv_at hl 3 rfl) ?_
      refine lv_bipush (v := 24) hx hb dX5_madeOf_13 (by decide) ?_
      refine lv_icmp_ge (tgt := 40) hx hb dX5_madeOf_15 (by decide) (fun c2 => ?_) (fun c2 => ?_)
      · have hF := ite_T c2 hF
        refine lv_iload_n hx hb dX5_madeOf_40 rfl (lv_at hl 2 rfl) ?_
        cases hF
        exact m_iret X hS hP rfl dX5_madeOf_41
      · have hF := ite_F c2 hF
        refine lv_aload_n hx hb dX5_madeOf_18 rfl (lv_at hl 0 rfl) ?_
        refine gf_0_4 hx hb htm hown hE hP hw (htm _ qw_121) dX5_madeOf_19 ?_
        refine lv_iload_n hx hb dX5_madeOf_22 rfl (lv_at hl 3 rfl) ?_
        obtain ⟨hn3, hF⟩ := ite_S hF
        refine mql hx hb htm hown hE hP hw hn3 dX5_madeOf_23 ?_
        have hj4 : Int32.toNatClampNeg y3 < 24 := Nat.not_le.mp fun q => hn3 (Or.inr q)
        refine gf_7_1 hx hb htm hown hE hP hw hj4 (htm _ qw_150) dX5_madeOf_24 ?_
        refine lv_iload_n hx hb dX5_madeOf_27 rfl (lv_at hl 1 rfl) ?_
        refine lv_icmp_ne (tgt := 34) hx hb dX5_madeOf_28 (by decide) (fun c5 => ?_) (fun c5 => ?_)
        · have hF := ite_F c5 hF
          refine lv_iinc (v := y3 + 1) (lv' := [(3, .int (y3 + 1)), (0, .ref (ad w 0 0)), (1, .int y1), (2, .int y2)]) hx hb dX5_madeOf_34 hl (k := 3) rfl rfl (by decide) rfl (fun ls hl => ?_)
          refine lv_goto (tgt := 4) hx hb dX5_madeOf_37 (by decide) ?_
          exact ih4 _ _ _  hP hS (lv_sub hl [1, 2, 3, 0] rfl) hF
        · have hF := ite_T c5 hF
          refine lv_iinc (v := y2 + 1) (lv' := [(2, .int (y2 + 1)), (0, .ref (ad w 0 0)), (1, .int y1), (3, .int y3)]) hx hb dX5_madeOf_31 hl (k := 2) rfl rfl (by decide) rfl (fun ls hl => ?_)
          refine lv_iinc (v := y3 + 1) (lv' := [(3, .int (y3 + 1)), (2, .int (y2 + 1)), (0, .ref (ad w 0 0)), (1, .int y1)]) hx hb dX5_madeOf_34 hl (k := 3) rfl rfl (by decide) rfl (fun ls hl => ?_)
          refine lv_goto (tgt := 4) hx hb dX5_madeOf_37 (by decide) ?_
          exact ih4 _ _ _  hP hS (lv_sub hl [2, 3, 1, 0] rfl) hF
set_option maxRecDepth 20000 in
set_option maxHeartbeats 4000000 in
theorem c_X5_madeOf {l : Launch} {D : va_G} {ad : Nat → Nat → Nat → Nat} {cI cZ cP : ClassId} {A : Nat → Prop} {w : Nat} (hw : w < 2) {G V U : MT} {x1 : Int32} {r : Int32}  (hF : f_X5_madeOf G V x1 = some r) : Met l yX5_madeOf (.code yX5_madeOf cX5_madeOf 4 (some .int) :: WM) rm_X5_madeOf (PcM D ad cI cZ cP A [.ref (ad w 0 0), .int x1] (Pic D ad cI cZ cP w G V U)) (QcI A r (Pic D ad cI cZ cP w G V U)) 0 0 A := by
  refine m_entry (by decide) (Nat.le_of_ble_eq_true rfl) (fun p e s m below meth c ls X hP hS hl => ?_)
  have X : MX p s m _ meth c cX5_madeOf RX5 4 (some .int) D ad cI cZ cP A := X
  obtain ⟨hx, hb, hml, hown, htm, hr, hlk, hE⟩ := id X
  have hl : lv_has ls 4 [(0, .ref (ad w 0 0)), (1, .int x1)] := hl
  refine lv_iconst (v := 0) hx hb dX5_madeOf_0 (by decide) ?_
  refine lv_istore_n (lv' := [(2, .int 0), (0, .ref (ad w 0 0)), (1, .int x1)]) hx hb dX5_madeOf_1 rfl hl (by decide) rfl (fun ls hl => ?_)
  refine lv_iconst (v := 0) hx hb dX5_madeOf_2 (by decide) ?_
  refine lv_istore_n (lv' := [(3, .int 0), (2, .int 0), (0, .ref (ad w 0 0)), (1, .int x1)]) hx hb dX5_madeOf_3 rfl hl (by decide) rfl (fun ls hl => ?_)
  exact l_X5_madeOf_4 X hw  30 _ _ _ hP hS (lv_sub hl [2, 3, 1, 0] rfl) hF
def f_X5_isCurrentUsed_2 (G V : MT) : Nat → Int32 → Int32 → Option (Int32)
  | 0, _, _ => none
  | n + 1, y1, y2 => if V 0 0 5 ≤ y2 then (some 0) else (if 24 ≤ y2 then (some 0) else (if ¬ (y2 < 0 ∨ 24 ≤ Int32.toNatClampNeg y2) then (if V 7 (Int32.toNatClampNeg y2) 1 = y1 then (if ¬ (y2 < 0 ∨ 24 ≤ Int32.toNatClampNeg y2) then ((f_X5_currentOf G V y1).bind (fun q8_ => if V 7 (Int32.toNatClampNeg y2) 2 = q8_ then (some 1) else ((f_X5_isCurrentUsed_2 G V n) y1 (y2 + 1)))) else none) else ((f_X5_isCurrentUsed_2 G V n) y1 (y2 + 1))) else none))
def f_X5_isCurrentUsed (G V : MT) (x1 : Int32) : Option (Int32) :=
  f_X5_isCurrentUsed_2 G V  30 x1 0
def rm_X5_isCurrentUsed : Room := { frames := 2, cells := 0, slots := 0, locals := 42 }
set_option maxRecDepth 20000 in
set_option maxHeartbeats 4000000 in
theorem l_X5_isCurrentUsed_2 {p : Program} {l : Launch} {e : Env} {s : State} {m : MethodId} {args : Array Value} {below : List Frame} {meth : Method} {c : Code} {D : va_G} {ad : Nat → Nat → Nat → Nat} {cI cZ cP : ClassId} {A : Nat → Prop} {G V U : MT} {r : Int32} (X : MX p s m args meth c cX5_isCurrentUsed RX5 3 (some .boolean) D ad cI cZ cP A) {w : Nat} (hw : w < 2) (n : Nat) : ∀ {H : Heap} {locs : List Loc} {ls : Array Slot} (y1 : Int32) (y2 : Int32), Pic D ad cI cZ cP w G V U H → va_S A s.heap H locs → lv_has ls 3 [(0, .ref (ad w 0 0)), (1, .int y1), (2, .int y2)] → f_X5_isCurrentUsed_2 G V n y1 y2 = some r → W p l e rm_X5_isCurrentUsed s m args below meth c H locs 0 0 (MQ below (QcI A r (Pic D ad cI cZ cP w G V U)) args s 0 0 A) (F0 m 2 ls []) := by
  obtain ⟨hx, hb, hml, hown, htm, hr, hlk, hE⟩ := id X
  induction n with
  | zero =>
    intros
    exact ns_S (by assumption)
  | succ n ih2 =>
    intro H locs ls y1 y2   hP hS hl hF
    rw [f_X5_isCurrentUsed_2] at hF
    refine lv_iload_n hx hb dX5_isCurrentUsed_2 rfl (lv_at hl 2 rfl) ?_
    refine lv_aload_n hx hb dX5_isCurrentUsed_3 rfl (lv_at hl 0 rfl) ?_
    refine gf_0_5 hx hb htm hown hE hP hw (htm _ qw_129) dX5_isCurrentUsed_4 ?_
    refine lv_icmp_ge (tgt := 54) hx hb dX5_isCurrentUsed_7 (by decide) (fun c1 => ?_) (fun c1 => ?_)
    · have hF := ite_T c1 hF
      refine lv_iconst (v := 0) hx hb dX5_isCurrentUsed_54 (by decide) ?_
      cases hF
      exact m_zret X hS hP rfl (Or.inl rfl) dX5_isCurrentUsed_55
    · have hF := ite_F c1 hF
      refine lv_iload_n hx hb dX5_isCurrentUsed_10 rfl (lv_at hl 2 rfl) ?_
      refine lv_bipush (v := 24) hx hb dX5_isCurrentUsed_11 (by decide) ?_
      refine lv_icmp_ge (tgt := 54) hx hb dX5_isCurrentUsed_13 (by decide) (fun c2 => ?_) (fun c2 => ?_)
      · have hF := ite_T c2 hF
        refine lv_iconst (v := 0) hx hb dX5_isCurrentUsed_54 (by decide) ?_
        cases hF
        exact m_zret X hS hP rfl (Or.inl rfl) dX5_isCurrentUsed_55
      · have hF := ite_F c2 hF
        refine lv_aload_n hx hb dX5_isCurrentUsed_16 rfl (lv_at hl 0 rfl) ?_
        refine gf_0_4 hx hb htm hown hE hP hw (htm _ qw_121) dX5_isCurrentUsed_17 ?_
        refine lv_iload_n hx hb dX5_isCurrentUsed_20 rfl (lv_at hl 2 rfl) ?_
        obtain ⟨hn3, hF⟩ := ite_S hF
        refine mql hx hb htm hown hE hP hw hn3 dX5_isCurrentUsed_21 ?_
        have hj4 : Int32.toNatClampNeg y2 < 24 := Nat.not_le.mp fun q => hn3 (Or.inr q)
        refine gf_7_1 hx hb htm hown hE hP hw hj4 (htm _ qw_150) dX5_isCurrentUsed_22 ?_
        refine lv_iload_n hx hb dX5_isCurrentUsed_25 rfl (lv_at hl 1 rfl) ?_
        refine lv_icmp_ne (tgt := 48) hx hb dX5_isCurrentUsed_26 (by decide) (fun c5 => ?_) (fun c5 => ?_)
        · have hF := ite_F c5 hF
          refine lv_iinc (v := y2 + 1) (lv' := [(2, .int (y2 + 1)), (0, .ref (ad w 0 0)), (1, .int y1)]) hx hb dX5_isCurrentUsed_48 hl (k := 2) rfl rfl (by decide) rfl (fun ls hl => ?_)
          refine lv_goto (tgt := 2) hx hb dX5_isCurrentUsed_51 (by decide) ?_
          exact ih2 _ _  hP hS (lv_sub hl [1, 2, 0] rfl) hF
        · have hF := ite_T c5 hF
          refine lv_aload_n hx hb dX5_isCurrentUsed_29 rfl (lv_at hl 0 rfl) ?_
          refine gf_0_4 hx hb htm hown hE hP hw (htm _ qw_121) dX5_isCurrentUsed_30 ?_
          refine lv_iload_n hx hb dX5_isCurrentUsed_33 rfl (lv_at hl 2 rfl) ?_
          obtain ⟨hn6, hF⟩ := ite_S hF
          refine mql hx hb htm hown hE hP hw hn6 dX5_isCurrentUsed_34 ?_
          have hj7 : Int32.toNatClampNeg y2 < 24 := Nat.not_le.mp fun q => hn6 (Or.inr q)
          refine gf_7_2 hx hb htm hown hE hP hw hj7 (htm _ qw_151) dX5_isCurrentUsed_35 ?_
          refine lv_aload_n hx hb dX5_isCurrentUsed_38 rfl (lv_at hl 0 rfl) ?_
          refine lv_iload_n hx hb dX5_isCurrentUsed_39 rfl (lv_at hl 1 rfl) ?_
          obtain ⟨r8, hc8, hF⟩ := ob_S hF
          refine m_cVi X hS vw_X5_currentOf qw_308 (c_X5_currentOf hw hc8) ⟨rfl, rfl⟩ ⟨Nat.le_of_ble_eq_true rfl, Nat.le_of_ble_eq_true rfl⟩ (rc_0 hE hP hw) hP rfl hl.1 (rest := [.int (V 7 (Int32.toNatClampNeg y2) 2)]) rfl (Nat.le_of_ble_eq_true rfl) dX5_isCurrentUsed_40 (fun H locs hP hS => ?_)
          refine lv_icmp_ne (tgt := 48) hx hb dX5_isCurrentUsed_43 (by decide) (fun c9 => ?_) (fun c9 => ?_)
          · have hF := ite_F c9 hF
            refine lv_iinc (v := y2 + 1) (lv' := [(2, .int (y2 + 1)), (0, .ref (ad w 0 0)), (1, .int y1)]) hx hb dX5_isCurrentUsed_48 hl (k := 2) rfl rfl (by decide) rfl (fun ls hl => ?_)
            refine lv_goto (tgt := 2) hx hb dX5_isCurrentUsed_51 (by decide) ?_
            exact ih2 _ _  hP hS (lv_sub hl [1, 2, 0] rfl) hF
          · have hF := ite_T c9 hF
            refine lv_iconst (v := 1) hx hb dX5_isCurrentUsed_46 (by decide) ?_
            cases hF
            exact m_zret X hS hP rfl (Or.inr rfl) dX5_isCurrentUsed_47
set_option maxRecDepth 20000 in
set_option maxHeartbeats 4000000 in
theorem c_X5_isCurrentUsed {l : Launch} {D : va_G} {ad : Nat → Nat → Nat → Nat} {cI cZ cP : ClassId} {A : Nat → Prop} {w : Nat} (hw : w < 2) {G V U : MT} {x1 : Int32} {r : Int32}  (hF : f_X5_isCurrentUsed G V x1 = some r) : Met l yX5_isCurrentUsed (.code yX5_isCurrentUsed cX5_isCurrentUsed 3 (some .boolean) :: WM) rm_X5_isCurrentUsed (PcM D ad cI cZ cP A [.ref (ad w 0 0), .int x1] (Pic D ad cI cZ cP w G V U)) (QcI A r (Pic D ad cI cZ cP w G V U)) 0 0 A := by
  refine m_entry (by decide) (Nat.le_of_ble_eq_true rfl) (fun p e s m below meth c ls X hP hS hl => ?_)
  have X : MX p s m _ meth c cX5_isCurrentUsed RX5 3 (some .boolean) D ad cI cZ cP A := X
  obtain ⟨hx, hb, hml, hown, htm, hr, hlk, hE⟩ := id X
  have hl : lv_has ls 3 [(0, .ref (ad w 0 0)), (1, .int x1)] := hl
  refine lv_iconst (v := 0) hx hb dX5_isCurrentUsed_0 (by decide) ?_
  refine lv_istore_n (lv' := [(2, .int 0), (0, .ref (ad w 0 0)), (1, .int x1)]) hx hb dX5_isCurrentUsed_1 rfl hl (by decide) rfl (fun ls hl => ?_)
  exact l_X5_isCurrentUsed_2 X hw  30 _ _ hP hS (lv_sub hl [1, 2, 0] rfl) hF
def f_X5_hadSupervisor_2 (G V : MT) : Nat → Int32 → Int32 → Option (Int32)
  | 0, _, _ => none
  | n + 1, y1, y2 => if V 0 0 5 ≤ y2 then (some 0) else (if 24 ≤ y2 then (some 0) else (if ¬ (y2 < 0 ∨ 24 ≤ Int32.toNatClampNeg y2) then (if V 7 (Int32.toNatClampNeg y2) 3 = y1 then (some 1) else ((f_X5_hadSupervisor_2 G V n) y1 (y2 + 1))) else none))
def f_X5_hadSupervisor (G V : MT) (x1 : Int32) : Option (Int32) :=
  f_X5_hadSupervisor_2 G V  30 x1 0
def rm_X5_hadSupervisor : Room := { frames := 0, cells := 0, slots := 0, locals := 0 }
set_option maxRecDepth 20000 in
set_option maxHeartbeats 4000000 in
theorem l_X5_hadSupervisor_2 {p : Program} {l : Launch} {e : Env} {s : State} {m : MethodId} {args : Array Value} {below : List Frame} {meth : Method} {c : Code} {D : va_G} {ad : Nat → Nat → Nat → Nat} {cI cZ cP : ClassId} {A : Nat → Prop} {G V U : MT} {r : Int32} (X : MX p s m args meth c cX5_hadSupervisor RX5 3 (some .boolean) D ad cI cZ cP A) {w : Nat} (hw : w < 2) (n : Nat) : ∀ {H : Heap} {locs : List Loc} {ls : Array Slot} (y1 : Int32) (y2 : Int32), Pic D ad cI cZ cP w G V U H → va_S A s.heap H locs → lv_has ls 3 [(0, .ref (ad w 0 0)), (1, .int y1), (2, .int y2)] → f_X5_hadSupervisor_2 G V n y1 y2 = some r → W p l e rm_X5_hadSupervisor s m args below meth c H locs 0 0 (MQ below (QcI A r (Pic D ad cI cZ cP w G V U)) args s 0 0 A) (F0 m 2 ls []) := by
  obtain ⟨hx, hb, hml, hown, htm, hr, hlk, hE⟩ := id X
  induction n with
  | zero =>
    intros
    exact ns_S (by assumption)
  | succ n ih2 =>
    intro H locs ls y1 y2   hP hS hl hF
    rw [f_X5_hadSupervisor_2] at hF
    refine lv_iload_n hx hb dX5_hadSupervisor_2 rfl (lv_at hl 2 rfl) ?_
    refine lv_aload_n hx hb dX5_hadSupervisor_3 rfl (lv_at hl 0 rfl) ?_
    refine gf_0_5 hx hb htm hown hE hP hw (htm _ qw_129) dX5_hadSupervisor_4 ?_
    refine lv_icmp_ge (tgt := 37) hx hb dX5_hadSupervisor_7 (by decide) (fun c1 => ?_) (fun c1 => ?_)
    · have hF := ite_T c1 hF
      refine lv_iconst (v := 0) hx hb dX5_hadSupervisor_37 (by decide) ?_
      cases hF
      exact m_zret X hS hP rfl (Or.inl rfl) dX5_hadSupervisor_38
    · have hF := ite_F c1 hF
      refine lv_iload_n hx hb dX5_hadSupervisor_10 rfl (lv_at hl 2 rfl) ?_
      refine lv_bipush (v := 24) hx hb dX5_hadSupervisor_11 (by decide) ?_
      refine lv_icmp_ge (tgt := 37) hx hb dX5_hadSupervisor_13 (by decide) (fun c2 => ?_) (fun c2 => ?_)
      · have hF := ite_T c2 hF
        refine lv_iconst (v := 0) hx hb dX5_hadSupervisor_37 (by decide) ?_
        cases hF
        exact m_zret X hS hP rfl (Or.inl rfl) dX5_hadSupervisor_38
      · have hF := ite_F c2 hF
        refine lv_aload_n hx hb dX5_hadSupervisor_16 rfl (lv_at hl 0 rfl) ?_
        refine gf_0_4 hx hb htm hown hE hP hw (htm _ qw_121) dX5_hadSupervisor_17 ?_
        refine lv_iload_n hx hb dX5_hadSupervisor_20 rfl (lv_at hl 2 rfl) ?_
        obtain ⟨hn3, hF⟩ := ite_S hF
        refine mql hx hb htm hown hE hP hw hn3 dX5_hadSupervisor_21 ?_
        have hj4 : Int32.toNatClampNeg y2 < 24 := Nat.not_le.mp fun q => hn3 (Or.inr q)
        refine gf_7_3 hx hb htm hown hE hP hw hj4 (htm _ qw_155) dX5_hadSupervisor_22 ?_
        refine lv_iload_n hx hb dX5_hadSupervisor_25 rfl (lv_at hl 1 rfl) ?_
        refine lv_icmp_ne (tgt := 31) hx hb dX5_hadSupervisor_26 (by decide) (fun c5 => ?_) (fun c5 => ?_)
        · have hF := ite_F c5 hF
          refine lv_iinc (v := y2 + 1) (lv' := [(2, .int (y2 + 1)), (0, .ref (ad w 0 0)), (1, .int y1)]) hx hb dX5_hadSupervisor_31 hl (k := 2) rfl rfl (by decide) rfl (fun ls hl => ?_)
          refine lv_goto (tgt := 2) hx hb dX5_hadSupervisor_34 (by decide) ?_
          exact ih2 _ _  hP hS (lv_sub hl [1, 2, 0] rfl) hF
        · have hF := ite_T c5 hF
          refine lv_iconst (v := 1) hx hb dX5_hadSupervisor_29 (by decide) ?_
          cases hF
          exact m_zret X hS hP rfl (Or.inr rfl) dX5_hadSupervisor_30
set_option maxRecDepth 20000 in
set_option maxHeartbeats 4000000 in
theorem c_X5_hadSupervisor {l : Launch} {D : va_G} {ad : Nat → Nat → Nat → Nat} {cI cZ cP : ClassId} {A : Nat → Prop} {w : Nat} (hw : w < 2) {G V U : MT} {x1 : Int32} {r : Int32}  (hF : f_X5_hadSupervisor G V x1 = some r) : Met l yX5_hadSupervisor (.code yX5_hadSupervisor cX5_hadSupervisor 3 (some .boolean) :: WM) rm_X5_hadSupervisor (PcM D ad cI cZ cP A [.ref (ad w 0 0), .int x1] (Pic D ad cI cZ cP w G V U)) (QcI A r (Pic D ad cI cZ cP w G V U)) 0 0 A := by
  refine m_entry (by decide) (Nat.le_of_ble_eq_true rfl) (fun p e s m below meth c ls X hP hS hl => ?_)
  have X : MX p s m _ meth c cX5_hadSupervisor RX5 3 (some .boolean) D ad cI cZ cP A := X
  obtain ⟨hx, hb, hml, hown, htm, hr, hlk, hE⟩ := id X
  have hl : lv_has ls 3 [(0, .ref (ad w 0 0)), (1, .int x1)] := hl
  refine lv_iconst (v := 0) hx hb dX5_hadSupervisor_0 (by decide) ?_
  refine lv_istore_n (lv' := [(2, .int 0), (0, .ref (ad w 0 0)), (1, .int x1)]) hx hb dX5_hadSupervisor_1 rfl hl (by decide) rfl (fun ls hl => ?_)
  exact l_X5_hadSupervisor_2 X hw  30 _ _ hP hS (lv_sub hl [1, 2, 0] rfl) hF
def f_X5_supervisors_4 (G V : MT) : Nat → Int32 → Int32 → Option (Int32)
  | 0, _, _ => none
  | n + 1, y1, y2 => if V 0 0 5 ≤ y2 then (some y1) else (if 24 ≤ y2 then (some y1) else (if ¬ (y2 < 0 ∨ 24 ≤ Int32.toNatClampNeg y2) then ((f_X2_isSupervisor V (Int32.toNatClampNeg y2)).bind (fun q5_ => if q5_ = 0 then ((f_X5_supervisors_4 G V n) y1 (y2 + 1)) else ((f_X5_supervisors_4 G V n) (y1 + 1) (y2 + 1)))) else none))
def f_X5_supervisors (G V : MT)  : Option (Int32) :=
  f_X5_supervisors_4 G V  30 0 0
def rm_X5_supervisors : Room := { frames := 1, cells := 0, slots := 0, locals := 20 }
set_option maxRecDepth 20000 in
set_option maxHeartbeats 4000000 in
theorem l_X5_supervisors_4 {p : Program} {l : Launch} {e : Env} {s : State} {m : MethodId} {args : Array Value} {below : List Frame} {meth : Method} {c : Code} {D : va_G} {ad : Nat → Nat → Nat → Nat} {cI cZ cP : ClassId} {A : Nat → Prop} {G V U : MT} {r : Int32} (X : MX p s m args meth c cX5_supervisors RX5 3 (some .int) D ad cI cZ cP A) {w : Nat} (hw : w < 2) (n : Nat) : ∀ {H : Heap} {locs : List Loc} {ls : Array Slot} (y1 : Int32) (y2 : Int32), Pic D ad cI cZ cP w G V U H → va_S A s.heap H locs → lv_has ls 3 [(0, .ref (ad w 0 0)), (1, .int y1), (2, .int y2)] → f_X5_supervisors_4 G V n y1 y2 = some r → W p l e rm_X5_supervisors s m args below meth c H locs 0 0 (MQ below (QcI A r (Pic D ad cI cZ cP w G V U)) args s 0 0 A) (F0 m 4 ls []) := by
  obtain ⟨hx, hb, hml, hown, htm, hr, hlk, hE⟩ := id X
  induction n with
  | zero =>
    intros
    exact ns_S (by assumption)
  | succ n ih4 =>
    intro H locs ls y1 y2   hP hS hl hF
    rw [f_X5_supervisors_4] at hF
    refine lv_iload_n hx hb dX5_supervisors_4 rfl (lv_at hl 2 rfl) ?_
    refine lv_aload_n hx hb dX5_supervisors_5 rfl (lv_at hl 0 rfl) ?_
    refine gf_0_5 hx hb htm hown hE hP hw (htm _ qw_129) dX5_supervisors_6 ?_
    refine lv_icmp_ge (tgt := 39) hx hb dX5_supervisors_9 (by decide) (fun c1 => ?_) (fun c1 => ?_)
    · have hF := ite_T c1 hF
      refine lv_iload_n hx hb dX5_supervisors_39 rfl (lv_at hl 1 rfl) ?_
      cases hF
      exact m_iret X hS hP rfl dX5_supervisors_40
    · have hF := ite_F c1 hF
      refine lv_iload_n hx hb dX5_supervisors_12 rfl (lv_at hl 2 rfl) ?_
      refine lv_bipush (v := 24) hx hb dX5_supervisors_13 (by decide) ?_
      refine lv_icmp_ge (tgt := 39) hx hb dX5_supervisors_15 (by decide) (fun c2 => ?_) (fun c2 => ?_)
      · have hF := ite_T c2 hF
        refine lv_iload_n hx hb dX5_supervisors_39 rfl (lv_at hl 1 rfl) ?_
        cases hF
        exact m_iret X hS hP rfl dX5_supervisors_40
      · have hF := ite_F c2 hF
        refine lv_aload_n hx hb dX5_supervisors_18 rfl (lv_at hl 0 rfl) ?_
        refine gf_0_4 hx hb htm hown hE hP hw (htm _ qw_121) dX5_supervisors_19 ?_
        refine lv_iload_n hx hb dX5_supervisors_22 rfl (lv_at hl 2 rfl) ?_
        obtain ⟨hn3, hF⟩ := ite_S hF
        refine mql hx hb htm hown hE hP hw hn3 dX5_supervisors_23 ?_
        have hj4 : Int32.toNatClampNeg y2 < 24 := Nat.not_le.mp fun q => hn3 (Or.inr q)
        obtain ⟨r5, hc5, hF⟩ := ob_S hF
        refine m_cVi X hS vw_X2_isSupervisor qw_194 (c_X2_isSupervisor hw hj4 hc5) ⟨rfl, rfl⟩ ⟨Nat.le_of_ble_eq_true rfl, Nat.le_of_ble_eq_true rfl⟩ (rc_7 hE hP hw hj4) hP rfl hl.1 (rest := []) rfl (Nat.le_of_ble_eq_true rfl) dX5_supervisors_24 (fun H locs hP hS => ?_)
        refine lv_if_eq (tgt := 33) hx hb dX5_supervisors_27 (by decide) (fun c6 => ?_) (fun c6 => ?_)
        · have hF := ite_T c6 hF
          refine lv_iinc (v := y2 + 1) (lv' := [(2, .int (y2 + 1)), (0, .ref (ad w 0 0)), (1, .int y1)]) hx hb dX5_supervisors_33 hl (k := 2) rfl rfl (by decide) rfl (fun ls hl => ?_)
          refine lv_goto (tgt := 4) hx hb dX5_supervisors_36 (by decide) ?_
          exact ih4 _ _  hP hS (lv_sub hl [1, 2, 0] rfl) hF
        · have hF := ite_F c6 hF
          refine lv_iinc (v := y1 + 1) (lv' := [(1, .int (y1 + 1)), (0, .ref (ad w 0 0)), (2, .int y2)]) hx hb dX5_supervisors_30 hl (k := 1) rfl rfl (by decide) rfl (fun ls hl => ?_)
          refine lv_iinc (v := y2 + 1) (lv' := [(2, .int (y2 + 1)), (1, .int (y1 + 1)), (0, .ref (ad w 0 0))]) hx hb dX5_supervisors_33 hl (k := 2) rfl rfl (by decide) rfl (fun ls hl => ?_)
          refine lv_goto (tgt := 4) hx hb dX5_supervisors_36 (by decide) ?_
          exact ih4 _ _  hP hS (lv_sub hl [2, 1, 0] rfl) hF
set_option maxRecDepth 20000 in
set_option maxHeartbeats 4000000 in
theorem c_X5_supervisors {l : Launch} {D : va_G} {ad : Nat → Nat → Nat → Nat} {cI cZ cP : ClassId} {A : Nat → Prop} {w : Nat} (hw : w < 2) {G V U : MT}  {r : Int32}  (hF : f_X5_supervisors G V  = some r) : Met l yX5_supervisors (.code yX5_supervisors cX5_supervisors 3 (some .int) :: WM) rm_X5_supervisors (PcM D ad cI cZ cP A [.ref (ad w 0 0)] (Pic D ad cI cZ cP w G V U)) (QcI A r (Pic D ad cI cZ cP w G V U)) 0 0 A := by
  refine m_entry (by decide) (Nat.le_of_ble_eq_true rfl) (fun p e s m below meth c ls X hP hS hl => ?_)
  have X : MX p s m _ meth c cX5_supervisors RX5 3 (some .int) D ad cI cZ cP A := X
  obtain ⟨hx, hb, hml, hown, htm, hr, hlk, hE⟩ := id X
  have hl : lv_has ls 3 [(0, .ref (ad w 0 0))] := hl
  refine lv_iconst (v := 0) hx hb dX5_supervisors_0 (by decide) ?_
  refine lv_istore_n (lv' := [(1, .int 0), (0, .ref (ad w 0 0))]) hx hb dX5_supervisors_1 rfl hl (by decide) rfl (fun ls hl => ?_)
  refine lv_iconst (v := 0) hx hb dX5_supervisors_2 (by decide) ?_
  refine lv_istore_n (lv' := [(2, .int 0), (1, .int 0), (0, .ref (ad w 0 0))]) hx hb dX5_supervisors_3 rfl hl (by decide) rfl (fun ls hl => ?_)
  exact l_X5_supervisors_4 X hw  30 _ _ hP hS (lv_sub hl [2, 1, 0] rfl) hF
def f_X5_withStatus_4 (G V : MT) : Nat → Int32 → Int32 → Int32 → Option (Int32)
  | 0, _, _, _ => none
  | n + 1, y1, y2, y3 => if V 0 0 5 ≤ y3 then (some y2) else (if 24 ≤ y3 then (some y2) else (if ¬ (y3 < 0 ∨ 24 ≤ Int32.toNatClampNeg y3) then (if V 7 (Int32.toNatClampNeg y3) 5 = y1 then ((f_X5_withStatus_4 G V n) y1 (y2 + 1) (y3 + 1)) else ((f_X5_withStatus_4 G V n) y1 y2 (y3 + 1))) else none))
def f_X5_withStatus (G V : MT) (x1 : Int32) : Option (Int32) :=
  f_X5_withStatus_4 G V  30 x1 0 0
def rm_X5_withStatus : Room := { frames := 0, cells := 0, slots := 0, locals := 0 }
set_option maxRecDepth 20000 in
set_option maxHeartbeats 4000000 in
theorem l_X5_withStatus_4 {p : Program} {l : Launch} {e : Env} {s : State} {m : MethodId} {args : Array Value} {below : List Frame} {meth : Method} {c : Code} {D : va_G} {ad : Nat → Nat → Nat → Nat} {cI cZ cP : ClassId} {A : Nat → Prop} {G V U : MT} {r : Int32} (X : MX p s m args meth c cX5_withStatus RX5 4 (some .int) D ad cI cZ cP A) {w : Nat} (hw : w < 2) (n : Nat) : ∀ {H : Heap} {locs : List Loc} {ls : Array Slot} (y1 : Int32) (y2 : Int32) (y3 : Int32), Pic D ad cI cZ cP w G V U H → va_S A s.heap H locs → lv_has ls 4 [(0, .ref (ad w 0 0)), (1, .int y1), (2, .int y2), (3, .int y3)] → f_X5_withStatus_4 G V n y1 y2 y3 = some r → W p l e rm_X5_withStatus s m args below meth c H locs 0 0 (MQ below (QcI A r (Pic D ad cI cZ cP w G V U)) args s 0 0 A) (F0 m 4 ls []) := by
  obtain ⟨hx, hb, hml, hown, htm, hr, hlk, hE⟩ := id X
  induction n with
  | zero =>
    intros
    exact ns_S (by assumption)
  | succ n ih4 =>
    intro H locs ls y1 y2 y3   hP hS hl hF
    rw [f_X5_withStatus_4] at hF
    refine lv_iload_n hx hb dX5_withStatus_4 rfl (lv_at hl 3 rfl) ?_
    refine lv_aload_n hx hb dX5_withStatus_5 rfl (lv_at hl 0 rfl) ?_
    refine gf_0_5 hx hb htm hown hE hP hw (htm _ qw_129) dX5_withStatus_6 ?_
    refine lv_icmp_ge (tgt := 40) hx hb dX5_withStatus_9 (by decide) (fun c1 => ?_) (fun c1 => ?_)
    · have hF := ite_T c1 hF
      refine lv_iload_n hx hb dX5_withStatus_40 rfl (lv_at hl 2 rfl) ?_
      cases hF
      exact m_iret X hS hP rfl dX5_withStatus_41
    · have hF := ite_F c1 hF
      refine lv_iload_n hx hb dX5_withStatus_12 rfl (lv_at hl 3 rfl) ?_
      refine lv_bipush (v := 24) hx hb dX5_withStatus_13 (by decide) ?_
      refine lv_icmp_ge (tgt := 40) hx hb dX5_withStatus_15 (by decide) (fun c2 => ?_) (fun c2 => ?_)
      · have hF := ite_T c2 hF
        refine lv_iload_n hx hb dX5_withStatus_40 rfl (lv_at hl 2 rfl) ?_
        cases hF
        exact m_iret X hS hP rfl dX5_withStatus_41
      · have hF := ite_F c2 hF
        refine lv_aload_n hx hb dX5_withStatus_18 rfl (lv_at hl 0 rfl) ?_
        refine gf_0_4 hx hb htm hown hE hP hw (htm _ qw_121) dX5_withStatus_19 ?_
        refine lv_iload_n hx hb dX5_withStatus_22 rfl (lv_at hl 3 rfl) ?_
        obtain ⟨hn3, hF⟩ := ite_S hF
        refine mql hx hb htm hown hE hP hw hn3 dX5_withStatus_23 ?_
        have hj4 : Int32.toNatClampNeg y3 < 24 := Nat.not_le.mp fun q => hn3 (Or.inr q)
        refine gf_7_5 hx hb htm hown hE hP hw hj4 (htm _ qw_144) dX5_withStatus_24 ?_
        refine lv_iload_n hx hb dX5_withStatus_27 rfl (lv_at hl 1 rfl) ?_
        refine lv_icmp_ne (tgt := 34) hx hb dX5_withStatus_28 (by decide) (fun c5 => ?_) (fun c5 => ?_)
        · have hF := ite_F c5 hF
          refine lv_iinc (v := y3 + 1) (lv' := [(3, .int (y3 + 1)), (0, .ref (ad w 0 0)), (1, .int y1), (2, .int y2)]) hx hb dX5_withStatus_34 hl (k := 3) rfl rfl (by decide) rfl (fun ls hl => ?_)
          refine lv_goto (tgt := 4) hx hb dX5_withStatus_37 (by decide) ?_
          exact ih4 _ _ _  hP hS (lv_sub hl [1, 2, 3, 0] rfl) hF
        · have hF := ite_T c5 hF
          refine lv_iinc (v := y2 + 1) (lv' := [(2, .int (y2 + 1)), (0, .ref (ad w 0 0)), (1, .int y1), (3, .int y3)]) hx hb dX5_withStatus_31 hl (k := 2) rfl rfl (by decide) rfl (fun ls hl => ?_)
          refine lv_iinc (v := y3 + 1) (lv' := [(3, .int (y3 + 1)), (2, .int (y2 + 1)), (0, .ref (ad w 0 0)), (1, .int y1)]) hx hb dX5_withStatus_34 hl (k := 3) rfl rfl (by decide) rfl (fun ls hl => ?_)
          refine lv_goto (tgt := 4) hx hb dX5_withStatus_37 (by decide) ?_
          exact ih4 _ _ _  hP hS (lv_sub hl [2, 3, 1, 0] rfl) hF
set_option maxRecDepth 20000 in
set_option maxHeartbeats 4000000 in
theorem c_X5_withStatus {l : Launch} {D : va_G} {ad : Nat → Nat → Nat → Nat} {cI cZ cP : ClassId} {A : Nat → Prop} {w : Nat} (hw : w < 2) {G V U : MT} {x1 : Int32} {r : Int32}  (hF : f_X5_withStatus G V x1 = some r) : Met l yX5_withStatus (.code yX5_withStatus cX5_withStatus 4 (some .int) :: WM) rm_X5_withStatus (PcM D ad cI cZ cP A [.ref (ad w 0 0), .int x1] (Pic D ad cI cZ cP w G V U)) (QcI A r (Pic D ad cI cZ cP w G V U)) 0 0 A := by
  refine m_entry (by decide) (Nat.le_of_ble_eq_true rfl) (fun p e s m below meth c ls X hP hS hl => ?_)
  have X : MX p s m _ meth c cX5_withStatus RX5 4 (some .int) D ad cI cZ cP A := X
  obtain ⟨hx, hb, hml, hown, htm, hr, hlk, hE⟩ := id X
  have hl : lv_has ls 4 [(0, .ref (ad w 0 0)), (1, .int x1)] := hl
  refine lv_iconst (v := 0) hx hb dX5_withStatus_0 (by decide) ?_
  refine lv_istore_n (lv' := [(2, .int 0), (0, .ref (ad w 0 0)), (1, .int x1)]) hx hb dX5_withStatus_1 rfl hl (by decide) rfl (fun ls hl => ?_)
  refine lv_iconst (v := 0) hx hb dX5_withStatus_2 (by decide) ?_
  refine lv_istore_n (lv' := [(3, .int 0), (2, .int 0), (0, .ref (ad w 0 0)), (1, .int x1)]) hx hb dX5_withStatus_3 rfl hl (by decide) rfl (fun ls hl => ?_)
  exact l_X5_withStatus_4 X hw  30 _ _ _ hP hS (lv_sub hl [2, 3, 1, 0] rfl) hF
def f_X5_linkCount_4 (G V : MT) : Nat → Int32 → Int32 → Option (Int32)
  | 0, _, _ => none
  | n + 1, y1, y2 => if V 0 0 5 ≤ y2 then (some (y1 / 2)) else (if 24 ≤ y2 then (some (y1 / 2)) else (if ¬ (y2 < 0 ∨ 24 ≤ Int32.toNatClampNeg y2) then ((f_J6_bitCount_0f7a4 (V 7 (Int32.toNatClampNeg y2) 13)).bind (fun q5_ => (f_X5_linkCount_4 G V n) (y1 + q5_) (y2 + 1))) else none))
def f_X5_linkCount (G V : MT)  : Option (Int32) :=
  f_X5_linkCount_4 G V  30 0 0
def rm_X5_linkCount : Room := { frames := 1, cells := 0, slots := 0, locals := 20 }
set_option maxRecDepth 20000 in
set_option maxHeartbeats 4000000 in
theorem l_X5_linkCount_4 {p : Program} {l : Launch} {e : Env} {s : State} {m : MethodId} {args : Array Value} {below : List Frame} {meth : Method} {c : Code} {D : va_G} {ad : Nat → Nat → Nat → Nat} {cI cZ cP : ClassId} {A : Nat → Prop} {G V U : MT} {r : Int32} (X : MX p s m args meth c cX5_linkCount RX5 3 (some .int) D ad cI cZ cP A) {w : Nat} (hw : w < 2) (n : Nat) : ∀ {H : Heap} {locs : List Loc} {ls : Array Slot} (y1 : Int32) (y2 : Int32), Pic D ad cI cZ cP w G V U H → va_S A s.heap H locs → lv_has ls 3 [(0, .ref (ad w 0 0)), (1, .int y1), (2, .int y2)] → f_X5_linkCount_4 G V n y1 y2 = some r → W p l e rm_X5_linkCount s m args below meth c H locs 0 0 (MQ below (QcI A r (Pic D ad cI cZ cP w G V U)) args s 0 0 A) (F0 m 4 ls []) := by
  obtain ⟨hx, hb, hml, hown, htm, hr, hlk, hE⟩ := id X
  induction n with
  | zero =>
    intros
    exact ns_S (by assumption)
  | succ n ih4 =>
    intro H locs ls y1 y2   hP hS hl hF
    rw [f_X5_linkCount_4] at hF
    refine lv_iload_n hx hb dX5_linkCount_4 rfl (lv_at hl 2 rfl) ?_
    refine lv_aload_n hx hb dX5_linkCount_5 rfl (lv_at hl 0 rfl) ?_
    refine gf_0_5 hx hb htm hown hE hP hw (htm _ qw_129) dX5_linkCount_6 ?_
    refine lv_icmp_ge (tgt := 39) hx hb dX5_linkCount_9 (by decide) (fun c1 => ?_) (fun c1 => ?_)
    · have hF := ite_T c1 hF
      refine lv_iload_n hx hb dX5_linkCount_39 rfl (lv_at hl 1 rfl) ?_
      refine lv_iconst (v := 2) hx hb dX5_linkCount_40 (by decide) ?_
      refine lv_idiv hx hb dX5_linkCount_41 (by decide) ?_
      cases hF
      exact m_iret X hS hP rfl dX5_linkCount_42
    · have hF := ite_F c1 hF
      refine lv_iload_n hx hb dX5_linkCount_12 rfl (lv_at hl 2 rfl) ?_
      refine lv_bipush (v := 24) hx hb dX5_linkCount_13 (by decide) ?_
      refine lv_icmp_ge (tgt := 39) hx hb dX5_linkCount_15 (by decide) (fun c2 => ?_) (fun c2 => ?_)
      · have hF := ite_T c2 hF
        refine lv_iload_n hx hb dX5_linkCount_39 rfl (lv_at hl 1 rfl) ?_
        refine lv_iconst (v := 2) hx hb dX5_linkCount_40 (by decide) ?_
        refine lv_idiv hx hb dX5_linkCount_41 (by decide) ?_
        cases hF
        exact m_iret X hS hP rfl dX5_linkCount_42
      · have hF := ite_F c2 hF
        refine lv_iload_n hx hb dX5_linkCount_18 rfl (lv_at hl 1 rfl) ?_
        refine lv_aload_n hx hb dX5_linkCount_19 rfl (lv_at hl 0 rfl) ?_
        refine gf_0_4 hx hb htm hown hE hP hw (htm _ qw_121) dX5_linkCount_20 ?_
        refine lv_iload_n hx hb dX5_linkCount_23 rfl (lv_at hl 2 rfl) ?_
        obtain ⟨hn3, hF⟩ := ite_S hF
        refine mql hx hb htm hown hE hP hw hn3 dX5_linkCount_24 ?_
        have hj4 : Int32.toNatClampNeg y2 < 24 := Nat.not_le.mp fun q => hn3 (Or.inr q)
        refine gf_7_13 hx hb htm hown hE hP hw hj4 (htm _ qw_215) dX5_linkCount_25 ?_
        obtain ⟨r5, hc5, hF⟩ := ob_S hF
        refine m_cOi X hS sw_J6_bitCount_0f7a4 qw_338 (c_J6_bitCount_0f7a4 hc5) ⟨rfl, rfl⟩ ⟨Nat.le_of_ble_eq_true rfl, Nat.le_of_ble_eq_true rfl⟩ hP rfl hl.1 (rest := [.int y1]) rfl (Nat.le_of_ble_eq_true rfl) dX5_linkCount_28 (fun H locs hP hS => ?_)
        refine lv_iadd hx hb dX5_linkCount_31 ?_
        refine lv_istore_n (lv' := [(1, .int (y1 + r5)), (0, .ref (ad w 0 0)), (2, .int y2)]) hx hb dX5_linkCount_32 rfl hl (by decide) rfl (fun ls hl => ?_)
        refine lv_iinc (v := y2 + 1) (lv' := [(2, .int (y2 + 1)), (1, .int (y1 + r5)), (0, .ref (ad w 0 0))]) hx hb dX5_linkCount_33 hl (k := 2) rfl rfl (by decide) rfl (fun ls hl => ?_)
        refine lv_goto (tgt := 4) hx hb dX5_linkCount_36 (by decide) ?_
        exact ih4 _ _  hP hS (lv_sub hl [2, 1, 0] rfl) hF
set_option maxRecDepth 20000 in
set_option maxHeartbeats 4000000 in
theorem c_X5_linkCount {l : Launch} {D : va_G} {ad : Nat → Nat → Nat → Nat} {cI cZ cP : ClassId} {A : Nat → Prop} {w : Nat} (hw : w < 2) {G V U : MT}  {r : Int32}  (hF : f_X5_linkCount G V  = some r) : Met l yX5_linkCount (.code yX5_linkCount cX5_linkCount 3 (some .int) :: WM) rm_X5_linkCount (PcM D ad cI cZ cP A [.ref (ad w 0 0)] (Pic D ad cI cZ cP w G V U)) (QcI A r (Pic D ad cI cZ cP w G V U)) 0 0 A := by
  refine m_entry (by decide) (Nat.le_of_ble_eq_true rfl) (fun p e s m below meth c ls X hP hS hl => ?_)
  have X : MX p s m _ meth c cX5_linkCount RX5 3 (some .int) D ad cI cZ cP A := X
  obtain ⟨hx, hb, hml, hown, htm, hr, hlk, hE⟩ := id X
  have hl : lv_has ls 3 [(0, .ref (ad w 0 0))] := hl
  refine lv_iconst (v := 0) hx hb dX5_linkCount_0 (by decide) ?_
  refine lv_istore_n (lv' := [(1, .int 0), (0, .ref (ad w 0 0))]) hx hb dX5_linkCount_1 rfl hl (by decide) rfl (fun ls hl => ?_)
  refine lv_iconst (v := 0) hx hb dX5_linkCount_2 (by decide) ?_
  refine lv_istore_n (lv' := [(2, .int 0), (1, .int 0), (0, .ref (ad w 0 0))]) hx hb dX5_linkCount_3 rfl hl (by decide) rfl (fun ls hl => ?_)
  exact l_X5_linkCount_4 X hw  30 _ _ hP hS (lv_sub hl [2, 1, 0] rfl) hF
def f_X5_mailCount_4 (G V : MT) : Nat → Int32 → Int32 → Option (Int32)
  | 0, _, _ => none
  | n + 1, y1, y2 => if V 0 0 5 ≤ y2 then (some y1) else (if 24 ≤ y2 then (some y1) else (if ¬ (y2 < 0 ∨ 24 ≤ Int32.toNatClampNeg y2) then ((f_X5_mailCount_4 G V n) (y1 + (V 10 (Int32.toNatClampNeg y2) 2)) (y2 + 1)) else none))
def f_X5_mailCount (G V : MT)  : Option (Int32) :=
  f_X5_mailCount_4 G V  30 0 0
def rm_X5_mailCount : Room := { frames := 0, cells := 0, slots := 0, locals := 0 }
set_option maxRecDepth 20000 in
set_option maxHeartbeats 4000000 in
theorem l_X5_mailCount_4 {p : Program} {l : Launch} {e : Env} {s : State} {m : MethodId} {args : Array Value} {below : List Frame} {meth : Method} {c : Code} {D : va_G} {ad : Nat → Nat → Nat → Nat} {cI cZ cP : ClassId} {A : Nat → Prop} {G V U : MT} {r : Int32} (X : MX p s m args meth c cX5_mailCount RX5 3 (some .int) D ad cI cZ cP A) {w : Nat} (hw : w < 2) (n : Nat) : ∀ {H : Heap} {locs : List Loc} {ls : Array Slot} (y1 : Int32) (y2 : Int32), Pic D ad cI cZ cP w G V U H → va_S A s.heap H locs → lv_has ls 3 [(0, .ref (ad w 0 0)), (1, .int y1), (2, .int y2)] → f_X5_mailCount_4 G V n y1 y2 = some r → W p l e rm_X5_mailCount s m args below meth c H locs 0 0 (MQ below (QcI A r (Pic D ad cI cZ cP w G V U)) args s 0 0 A) (F0 m 4 ls []) := by
  obtain ⟨hx, hb, hml, hown, htm, hr, hlk, hE⟩ := id X
  induction n with
  | zero =>
    intros
    exact ns_S (by assumption)
  | succ n ih4 =>
    intro H locs ls y1 y2   hP hS hl hF
    rw [f_X5_mailCount_4] at hF
    refine lv_iload_n hx hb dX5_mailCount_4 rfl (lv_at hl 2 rfl) ?_
    refine lv_aload_n hx hb dX5_mailCount_5 rfl (lv_at hl 0 rfl) ?_
    refine gf_0_5 hx hb htm hown hE hP hw (htm _ qw_129) dX5_mailCount_6 ?_
    refine lv_icmp_ge (tgt := 39) hx hb dX5_mailCount_9 (by decide) (fun c1 => ?_) (fun c1 => ?_)
    · have hF := ite_T c1 hF
      refine lv_iload_n hx hb dX5_mailCount_39 rfl (lv_at hl 1 rfl) ?_
      cases hF
      exact m_iret X hS hP rfl dX5_mailCount_40
    · have hF := ite_F c1 hF
      refine lv_iload_n hx hb dX5_mailCount_12 rfl (lv_at hl 2 rfl) ?_
      refine lv_bipush (v := 24) hx hb dX5_mailCount_13 (by decide) ?_
      refine lv_icmp_ge (tgt := 39) hx hb dX5_mailCount_15 (by decide) (fun c2 => ?_) (fun c2 => ?_)
      · have hF := ite_T c2 hF
        refine lv_iload_n hx hb dX5_mailCount_39 rfl (lv_at hl 1 rfl) ?_
        cases hF
        exact m_iret X hS hP rfl dX5_mailCount_40
      · have hF := ite_F c2 hF
        refine lv_iload_n hx hb dX5_mailCount_18 rfl (lv_at hl 1 rfl) ?_
        refine lv_aload_n hx hb dX5_mailCount_19 rfl (lv_at hl 0 rfl) ?_
        refine gf_0_4 hx hb htm hown hE hP hw (htm _ qw_121) dX5_mailCount_20 ?_
        refine lv_iload_n hx hb dX5_mailCount_23 rfl (lv_at hl 2 rfl) ?_
        obtain ⟨hn3, hF⟩ := ite_S hF
        refine mql hx hb htm hown hE hP hw hn3 dX5_mailCount_24 ?_
        have hj4 : Int32.toNatClampNeg y2 < 24 := Nat.not_le.mp fun q => hn3 (Or.inr q)
        refine gf_7_17 hx hb htm hown hE hP hw hj4 (htm _ qw_161) dX5_mailCount_25 ?_
        refine gf_10_2 hx hb htm hown hE hP hw hj4 (htm _ qw_162) dX5_mailCount_28 ?_
        refine lv_iadd hx hb dX5_mailCount_31 ?_
        refine lv_istore_n (lv' := [(1, .int (y1 + (V 10 (Int32.toNatClampNeg y2) 2))), (0, .ref (ad w 0 0)), (2, .int y2)]) hx hb dX5_mailCount_32 rfl hl (by decide) rfl (fun ls hl => ?_)
        refine lv_iinc (v := y2 + 1) (lv' := [(2, .int (y2 + 1)), (1, .int (y1 + (V 10 (Int32.toNatClampNeg y2) 2))), (0, .ref (ad w 0 0))]) hx hb dX5_mailCount_33 hl (k := 2) rfl rfl (by decide) rfl (fun ls hl => ?_)
        refine lv_goto (tgt := 4) hx hb dX5_mailCount_36 (by decide) ?_
        exact ih4 _ _  hP hS (lv_sub hl [2, 1, 0] rfl) hF
set_option maxRecDepth 20000 in
set_option maxHeartbeats 4000000 in
theorem c_X5_mailCount {l : Launch} {D : va_G} {ad : Nat → Nat → Nat → Nat} {cI cZ cP : ClassId} {A : Nat → Prop} {w : Nat} (hw : w < 2) {G V U : MT}  {r : Int32}  (hF : f_X5_mailCount G V  = some r) : Met l yX5_mailCount (.code yX5_mailCount cX5_mailCount 3 (some .int) :: WM) rm_X5_mailCount (PcM D ad cI cZ cP A [.ref (ad w 0 0)] (Pic D ad cI cZ cP w G V U)) (QcI A r (Pic D ad cI cZ cP w G V U)) 0 0 A := by
  refine m_entry (by decide) (Nat.le_of_ble_eq_true rfl) (fun p e s m below meth c ls X hP hS hl => ?_)
  have X : MX p s m _ meth c cX5_mailCount RX5 3 (some .int) D ad cI cZ cP A := X
  obtain ⟨hx, hb, hml, hown, htm, hr, hlk, hE⟩ := id X
  have hl : lv_has ls 3 [(0, .ref (ad w 0 0))] := hl
  refine lv_iconst (v := 0) hx hb dX5_mailCount_0 (by decide) ?_
  refine lv_istore_n (lv' := [(1, .int 0), (0, .ref (ad w 0 0))]) hx hb dX5_mailCount_1 rfl hl (by decide) rfl (fun ls hl => ?_)
  refine lv_iconst (v := 0) hx hb dX5_mailCount_2 (by decide) ?_
  refine lv_istore_n (lv' := [(2, .int 0), (1, .int 0), (0, .ref (ad w 0 0))]) hx hb dX5_mailCount_3 rfl hl (by decide) rfl (fun ls hl => ?_)
  exact l_X5_mailCount_4 X hw  30 _ _ hP hS (lv_sub hl [2, 1, 0] rfl) hF
def f_X5_passTime_14 (G : MT) : Nat → Int32 → Int32 → MT → Option (Int32 × MT)
  | 0, _, _, _ => none
  | n + 1, y1, y2, V => if V 0 0 5 ≤ y2 then (some (y1, V)) else (if 24 ≤ y2 then (some (y1, V)) else (if ¬ (y2 < 0 ∨ 24 ≤ Int32.toNatClampNeg y2) then (if V 7 (Int32.toNatClampNeg y2) 5 = 1 then (if ¬ (y2 < 0 ∨ 24 ≤ Int32.toNatClampNeg y2) then (if V 7 (Int32.toNatClampNeg y2) 9 = V 0 0 6 then (if ¬ (y2 < 0 ∨ 24 ≤ Int32.toNatClampNeg y2) then ((f_X5_ready G V (Int32.toNatClampNeg y2)).bind (fun q11_ => (f_X5_passTime_14 G n) (y1 + 1) (y2 + 1) q11_)) else none) else ((f_X5_passTime_14 G n) y1 (y2 + 1) V)) else none) else ((f_X5_passTime_14 G n) y1 (y2 + 1) V)) else none))
def f_X5_passTime (G V : MT)  : Option (Int32 × MT) :=
  f_X5_passTime_14 G  30 0 0 (pt V 0 0 6 ((V 0 0 6) + 1))
def rm_X5_passTime : Room := { frames := 1, cells := 0, slots := 0, locals := 21 }
set_option maxRecDepth 20000 in
set_option maxHeartbeats 4000000 in
theorem l_X5_passTime_14 {p : Program} {l : Launch} {e : Env} {s : State} {m : MethodId} {args : Array Value} {below : List Frame} {meth : Method} {c : Code} {D : va_G} {ad : Nat → Nat → Nat → Nat} {cI cZ cP : ClassId} {A : Nat → Prop} {G U : MT} {r : Int32} {V' : MT} (X : MX p s m args meth c cX5_passTime RX5 3 (some .int) D ad cI cZ cP A) {w : Nat} (hw : w < 2) (n : Nat) : ∀ {H : Heap} {locs : List Loc} {ls : Array Slot} (y1 : Int32) (y2 : Int32) (V : MT), Pic D ad cI cZ cP w G V U H → va_S A s.heap H locs → lv_has ls 3 [(0, .ref (ad w 0 0)), (1, .int y1), (2, .int y2)] → f_X5_passTime_14 G n y1 y2 V = some (r, V') → W p l e rm_X5_passTime s m args below meth c H locs 0 0 (MQ below (QcI A r (Pic D ad cI cZ cP w G V' U)) args s 0 0 A) (F0 m 14 ls []) := by
  obtain ⟨hx, hb, hml, hown, htm, hr, hlk, hE⟩ := id X
  induction n with
  | zero =>
    intros
    exact ns_S (by assumption)
  | succ n ih14 =>
    intro H locs ls y1 y2 V   hP hS hl hF
    rw [f_X5_passTime_14] at hF
    refine lv_iload_n hx hb dX5_passTime_14 rfl (lv_at hl 2 rfl) ?_
    refine lv_aload_n hx hb dX5_passTime_15 rfl (lv_at hl 0 rfl) ?_
    refine gf_0_5 hx hb htm hown hE hP hw (htm _ qw_129) dX5_passTime_16 ?_
    refine lv_icmp_ge (tgt := 76) hx hb dX5_passTime_19 (by decide) (fun c1 => ?_) (fun c1 => ?_)
    · have hF := ite_T c1 hF
      refine lv_iload_n hx hb dX5_passTime_76 rfl (lv_at hl 1 rfl) ?_
      cases hF
      exact m_iret X hS hP rfl dX5_passTime_77
    · have hF := ite_F c1 hF
      refine lv_iload_n hx hb dX5_passTime_22 rfl (lv_at hl 2 rfl) ?_
      refine lv_bipush (v := 24) hx hb dX5_passTime_23 (by decide) ?_
      refine lv_icmp_ge (tgt := 76) hx hb dX5_passTime_25 (by decide) (fun c2 => ?_) (fun c2 => ?_)
      · have hF := ite_T c2 hF
        refine lv_iload_n hx hb dX5_passTime_76 rfl (lv_at hl 1 rfl) ?_
        cases hF
        exact m_iret X hS hP rfl dX5_passTime_77
      · have hF := ite_F c2 hF
        refine lv_aload_n hx hb dX5_passTime_28 rfl (lv_at hl 0 rfl) ?_
        refine gf_0_4 hx hb htm hown hE hP hw (htm _ qw_121) dX5_passTime_29 ?_
        refine lv_iload_n hx hb dX5_passTime_32 rfl (lv_at hl 2 rfl) ?_
        obtain ⟨hn3, hF⟩ := ite_S hF
        refine mql hx hb htm hown hE hP hw hn3 dX5_passTime_33 ?_
        have hj4 : Int32.toNatClampNeg y2 < 24 := Nat.not_le.mp fun q => hn3 (Or.inr q)
        refine gf_7_5 hx hb htm hown hE hP hw hj4 (htm _ qw_144) dX5_passTime_34 ?_
        refine lv_iconst (v := 1) hx hb dX5_passTime_37 (by decide) ?_
        refine lv_icmp_ne (tgt := 70) hx hb dX5_passTime_38 (by decide) (fun c5 => ?_) (fun c5 => ?_)
        · have hF := ite_F c5 hF
          refine lv_iinc (v := y2 + 1) (lv' := [(2, .int (y2 + 1)), (0, .ref (ad w 0 0)), (1, .int y1)]) hx hb dX5_passTime_70 hl (k := 2) rfl rfl (by decide) rfl (fun ls hl => ?_)
          refine lv_goto (tgt := 14) hx hb dX5_passTime_73 (by decide) ?_
          exact ih14 _ _ _  hP hS (lv_sub hl [1, 2, 0] rfl) hF
        · have hF := ite_T c5 hF
          refine lv_aload_n hx hb dX5_passTime_41 rfl (lv_at hl 0 rfl) ?_
          refine gf_0_4 hx hb htm hown hE hP hw (htm _ qw_121) dX5_passTime_42 ?_
          refine lv_iload_n hx hb dX5_passTime_45 rfl (lv_at hl 2 rfl) ?_
          obtain ⟨hn6, hF⟩ := ite_S hF
          refine mql hx hb htm hown hE hP hw hn6 dX5_passTime_46 ?_
          have hj7 : Int32.toNatClampNeg y2 < 24 := Nat.not_le.mp fun q => hn6 (Or.inr q)
          refine gf_7_9 hx hb htm hown hE hP hw hj7 (htm _ qw_158) dX5_passTime_47 ?_
          refine lv_aload_n hx hb dX5_passTime_50 rfl (lv_at hl 0 rfl) ?_
          refine gf_0_6 hx hb htm hown hE hP hw (htm _ qw_131) dX5_passTime_51 ?_
          refine lv_icmp_ne (tgt := 70) hx hb dX5_passTime_54 (by decide) (fun c8 => ?_) (fun c8 => ?_)
          · have hF := ite_F c8 hF
            refine lv_iinc (v := y2 + 1) (lv' := [(2, .int (y2 + 1)), (0, .ref (ad w 0 0)), (1, .int y1)]) hx hb dX5_passTime_70 hl (k := 2) rfl rfl (by decide) rfl (fun ls hl => ?_)
            refine lv_goto (tgt := 14) hx hb dX5_passTime_73 (by decide) ?_
            exact ih14 _ _ _  hP hS (lv_sub hl [1, 2, 0] rfl) hF
          · have hF := ite_T c8 hF
            refine lv_aload_n hx hb dX5_passTime_57 rfl (lv_at hl 0 rfl) ?_
            refine lv_aload_n hx hb dX5_passTime_58 rfl (lv_at hl 0 rfl) ?_
            refine gf_0_4 hx hb htm hown hE hP hw (htm _ qw_121) dX5_passTime_59 ?_
            refine lv_iload_n hx hb dX5_passTime_62 rfl (lv_at hl 2 rfl) ?_
            obtain ⟨hn9, hF⟩ := ite_S hF
            refine mql hx hb htm hown hE hP hw hn9 dX5_passTime_63 ?_
            have hj10 : Int32.toNatClampNeg y2 < 24 := Nat.not_le.mp fun q => hn9 (Or.inr q)
            obtain ⟨V11, hc11, hF⟩ := ob_S hF
            refine m_cVv X hS vw_X5_ready qw_203 (c_X5_ready hw hj10 hc11) ⟨rfl, rfl⟩ ⟨Nat.le_of_ble_eq_true rfl, Nat.le_of_ble_eq_true rfl⟩ (rc_0 hE hP hw) hP rfl hl.1 (rest := []) rfl (Nat.le_of_ble_eq_true rfl) dX5_passTime_64 (fun H locs hP hS => ?_)
            refine lv_iinc (v := y1 + 1) (lv' := [(1, .int (y1 + 1)), (0, .ref (ad w 0 0)), (2, .int y2)]) hx hb dX5_passTime_67 hl (k := 1) rfl rfl (by decide) rfl (fun ls hl => ?_)
            refine lv_iinc (v := y2 + 1) (lv' := [(2, .int (y2 + 1)), (1, .int (y1 + 1)), (0, .ref (ad w 0 0))]) hx hb dX5_passTime_70 hl (k := 2) rfl rfl (by decide) rfl (fun ls hl => ?_)
            refine lv_goto (tgt := 14) hx hb dX5_passTime_73 (by decide) ?_
            exact ih14 _ _ _  hP hS (lv_sub hl [2, 1, 0] rfl) hF
set_option maxRecDepth 20000 in
set_option maxHeartbeats 4000000 in
theorem c_X5_passTime {l : Launch} {D : va_G} {ad : Nat → Nat → Nat → Nat} {cI cZ cP : ClassId} {A : Nat → Prop} {w : Nat} (hw : w < 2) {G V U : MT}  {r : Int32} {V' : MT}  (hF : f_X5_passTime G V  = some (r, V')) : Met l yX5_passTime (.code yX5_passTime cX5_passTime 3 (some .int) :: WM) rm_X5_passTime (PcM D ad cI cZ cP A [.ref (ad w 0 0)] (Pic D ad cI cZ cP w G V U)) (QcI A r (Pic D ad cI cZ cP w G V' U)) 0 0 A := by
  refine m_entry (by decide) (Nat.le_of_ble_eq_true rfl) (fun p e s m below meth c ls X hP hS hl => ?_)
  have X : MX p s m _ meth c cX5_passTime RX5 3 (some .int) D ad cI cZ cP A := X
  obtain ⟨hx, hb, hml, hown, htm, hr, hlk, hE⟩ := id X
  have hl : lv_has ls 3 [(0, .ref (ad w 0 0))] := hl
  refine lv_aload_n hx hb dX5_passTime_0 rfl (lv_at hl 0 rfl) ?_
  refine lv_dup hx hb dX5_passTime_1 rfl ?_
  refine gf_0_6 hx hb htm hown hE hP hw (htm _ qw_131) dX5_passTime_2 ?_
  refine lv_iconst (v := 1) hx hb dX5_passTime_5 (by decide) ?_
  refine lv_iadd hx hb dX5_passTime_6 ?_
  refine pf_0_6 hx hb htm hown hE hP hS hw (htm _ qw_131) dX5_passTime_7 (fun H locs hP hS => ?_)
  refine lv_iconst (v := 0) hx hb dX5_passTime_10 (by decide) ?_
  refine lv_istore_n (lv' := [(1, .int 0), (0, .ref (ad w 0 0))]) hx hb dX5_passTime_11 rfl hl (by decide) rfl (fun ls hl => ?_)
  refine lv_iconst (v := 0) hx hb dX5_passTime_12 (by decide) ?_
  refine lv_istore_n (lv' := [(2, .int 0), (1, .int 0), (0, .ref (ad w 0 0))]) hx hb dX5_passTime_13 rfl hl (by decide) rfl (fun ls hl => ?_)
  exact l_X5_passTime_14 X hw  30 _ _ _ hP hS (lv_sub hl [2, 1, 0] rfl) hF
def f_X5_takeName (G V : MT) (i1 : Nat) (x2 : Int32) : Option (MT) :=
  (f_X5_holderOf G V x2).bind (fun q1_ => if q1_ = (-1) then ((f_X6_isWithin x2 0 3).bind (fun q3_ => if q3_ = 0 then (some V) else (if ¬ (x2 < 0 ∨ 4 ≤ Int32.toNatClampNeg x2) then (some (pt V 2 0 (Int32.toNatClampNeg x2) (nI i1))) else none))) else (if q1_ = nI i1 then ((f_X6_isWithin x2 0 3).bind (fun q7_ => if q7_ = 0 then (some V) else (if ¬ (x2 < 0 ∨ 4 ≤ Int32.toNatClampNeg x2) then (some (pt V 2 0 (Int32.toNatClampNeg x2) (nI i1))) else none))) else ((f_X5_end G V i1 6).bind (fun q10_ => some q10_))))
def rm_X5_takeName : Room := { frames := 2, cells := 0, slots := 0, locals := 43 }
set_option maxRecDepth 20000 in
set_option maxHeartbeats 4000000 in
theorem c_X5_takeName {l : Launch} {D : va_G} {ad : Nat → Nat → Nat → Nat} {cI cZ cP : ClassId} {A : Nat → Prop} {w : Nat} (hw : w < 2) {G V U : MT} {i1 : Nat} {x2 : Int32} {V' : MT}  (hi1 : i1 < 24) (hF : f_X5_takeName G V i1 x2 = some V') : Met l yX5_takeName (.code yX5_takeName cX5_takeName 4 none :: WM) rm_X5_takeName (PcM D ad cI cZ cP A [.ref (ad w 0 0), .ref (ad w 7 i1), .int x2] (Pic D ad cI cZ cP w G V U)) (QcV A (Pic D ad cI cZ cP w G V' U)) 0 0 A := by
  refine m_entry (by decide) (Nat.le_of_ble_eq_true rfl) (fun p e s m below meth c ls X hP hS hl => ?_)
  have X : MX p s m _ meth c cX5_takeName RX5 4 none D ad cI cZ cP A := X
  obtain ⟨hx, hb, hml, hown, htm, hr, hlk, hE⟩ := id X
  have hl : lv_has ls 4 [(0, .ref (ad w 0 0)), (1, .ref (ad w 7 i1)), (2, .int x2)] := hl
  refine lv_aload_n hx hb dX5_takeName_0 rfl (lv_at hl 0 rfl) ?_
  refine lv_iload_n hx hb dX5_takeName_1 rfl (lv_at hl 2 rfl) ?_
  obtain ⟨r1, hc1, hF⟩ := ob_S hF
  refine m_cVi X hS vw_X5_holderOf qw_276 (c_X5_holderOf hw hc1) ⟨rfl, rfl⟩ ⟨Nat.le_of_ble_eq_true rfl, Nat.le_of_ble_eq_true rfl⟩ (rc_0 hE hP hw) hP rfl hl.1 (rest := []) rfl (Nat.le_of_ble_eq_true rfl) dX5_takeName_2 (fun H locs hP hS => ?_)
  refine lv_istore_n (lv' := [(3, .int r1), (0, .ref (ad w 0 0)), (1, .ref (ad w 7 i1)), (2, .int x2)]) hx hb dX5_takeName_5 rfl hl (by decide) rfl (fun ls hl => ?_)
  refine lv_iload_n hx hb dX5_takeName_6 rfl (lv_at hl 0 rfl) ?_
  refine lv_iconst (v := (-1)) hx hb dX5_takeName_7 (by decide) ?_
  refine lv_icmp_eq (tgt := 29) hx hb dX5_takeName_8 (by decide) (fun c2 => ?_) (fun c2 => ?_)
  · have hF := ite_T c2 hF
    refine lv_iload_n hx hb dX5_takeName_29 rfl (lv_at hl 3 rfl) ?_
    refine lv_iconst (v := 0) hx hb dX5_takeName_30 (by decide) ?_
    refine lv_iconst (v := 3) hx hb dX5_takeName_31 (by decide) ?_
    obtain ⟨r3, hc3, hF⟩ := ob_S hF
    refine m_cNi X hS sw_X6_isWithin nst_5 (c_X6_isWithin hc3) ⟨rfl, rfl⟩ ⟨Nat.le_of_ble_eq_true rfl, Nat.le_of_ble_eq_true rfl⟩ hP rfl hl.1 (rest := []) rfl (Nat.le_of_ble_eq_true rfl) dX5_takeName_32 (fun H locs hP hS => ?_)
    refine lv_if_eq (tgt := 48) hx hb dX5_takeName_35 (by decide) (fun c4 => ?_) (fun c4 => ?_)
    · have hF := ite_T c4 hF
      cases hF
      exact m_vret X hS hP dX5_takeName_48
    · have hF := ite_F c4 hF
      refine lv_aload_n hx hb dX5_takeName_38 rfl (lv_at hl 1 rfl) ?_
      refine gf_0_3 hx hb htm hown hE hP hw (htm _ qw_120) dX5_takeName_39 ?_
      refine lv_iload_n hx hb dX5_takeName_42 rfl (lv_at hl 3 rfl) ?_
      refine lv_aload_n hx hb dX5_takeName_43 rfl (lv_at hl 2 rfl) ?_
      refine gf_7_0 hx hb htm hown hE hP hw hi1 (htm _ qw_163) dX5_takeName_44 ?_
      obtain ⟨hn5, hF⟩ := ite_S hF
      refine as_2 hx hb htm hown hE hP hS hw hn5 dX5_takeName_47 (fun H locs hP hS => ?_)
      cases hF
      exact m_vret X hS hP dX5_takeName_48
  · have hF := ite_F c2 hF
    refine lv_iload_n hx hb dX5_takeName_11 rfl (lv_at hl 0 rfl) ?_
    refine lv_aload_n hx hb dX5_takeName_12 rfl (lv_at hl 2 rfl) ?_
    refine gf_7_0 hx hb htm hown hE hP hw hi1 (htm _ qw_163) dX5_takeName_13 ?_
    refine lv_icmp_eq (tgt := 29) hx hb dX5_takeName_16 (by decide) (fun c6 => ?_) (fun c6 => ?_)
    · have hF := ite_T c6 hF
      refine lv_iload_n hx hb dX5_takeName_29 rfl (lv_at hl 3 rfl) ?_
      refine lv_iconst (v := 0) hx hb dX5_takeName_30 (by decide) ?_
      refine lv_iconst (v := 3) hx hb dX5_takeName_31 (by decide) ?_
      obtain ⟨r7, hc7, hF⟩ := ob_S hF
      refine m_cNi X hS sw_X6_isWithin nst_5 (c_X6_isWithin hc7) ⟨rfl, rfl⟩ ⟨Nat.le_of_ble_eq_true rfl, Nat.le_of_ble_eq_true rfl⟩ hP rfl hl.1 (rest := []) rfl (Nat.le_of_ble_eq_true rfl) dX5_takeName_32 (fun H locs hP hS => ?_)
      refine lv_if_eq (tgt := 48) hx hb dX5_takeName_35 (by decide) (fun c8 => ?_) (fun c8 => ?_)
      · have hF := ite_T c8 hF
        cases hF
        exact m_vret X hS hP dX5_takeName_48
      · have hF := ite_F c8 hF
        refine lv_aload_n hx hb dX5_takeName_38 rfl (lv_at hl 1 rfl) ?_
        refine gf_0_3 hx hb htm hown hE hP hw (htm _ qw_120) dX5_takeName_39 ?_
        refine lv_iload_n hx hb dX5_takeName_42 rfl (lv_at hl 3 rfl) ?_
        refine lv_aload_n hx hb dX5_takeName_43 rfl (lv_at hl 2 rfl) ?_
        refine gf_7_0 hx hb htm hown hE hP hw hi1 (htm _ qw_163) dX5_takeName_44 ?_
        obtain ⟨hn9, hF⟩ := ite_S hF
        refine as_2 hx hb htm hown hE hP hS hw hn9 dX5_takeName_47 (fun H locs hP hS => ?_)
        cases hF
        exact m_vret X hS hP dX5_takeName_48
    · have hF := ite_F c6 hF
      refine lv_aload_n hx hb dX5_takeName_19 rfl (lv_at hl 1 rfl) ?_
      refine lv_aload_n hx hb dX5_takeName_20 rfl (lv_at hl 2 rfl) ?_
      refine lv_bipush (v := 6) hx hb dX5_takeName_21 (by decide) ?_
      obtain ⟨V10, hc10, hF⟩ := ob_S hF
      refine m_cVv X hS vw_X5_end qw_181 (c_X5_end hw hi1 hc10) ⟨rfl, rfl⟩ ⟨Nat.le_of_ble_eq_true rfl, Nat.le_of_ble_eq_true rfl⟩ (rc_0 hE hP hw) hP rfl hl.1 (rest := []) rfl (Nat.le_of_ble_eq_true rfl) dX5_takeName_23 (fun H locs hP hS => ?_)
      refine lv_goto (tgt := 48) hx hb dX5_takeName_26 (by decide) ?_
      cases hF
      exact m_vret X hS hP dX5_takeName_48
def f_X5_callName (G V : MT) (i1 : Nat) (x2 : Int32) (x3 : Int32) : Option (MT) :=
  (f_X5_holderOf G V x2).bind (fun q1_ => if q1_ = (-1) then ((f_X5_end G V i1 6).bind (fun q4_ => some q4_)) else ((f_X5_putMail G V q1_ x3 (V 7 i1 7)).bind (fun q3_ => some q3_.2)))
def rm_X5_callName : Room := { frames := 2, cells := 0, slots := 0, locals := 46 }
set_option maxRecDepth 20000 in
set_option maxHeartbeats 4000000 in
theorem c_X5_callName {l : Launch} {D : va_G} {ad : Nat → Nat → Nat → Nat} {cI cZ cP : ClassId} {A : Nat → Prop} {w : Nat} (hw : w < 2) {G V U : MT} {i1 : Nat} {x2 : Int32} {x3 : Int32} {V' : MT}  (hi1 : i1 < 24) (hF : f_X5_callName G V i1 x2 x3 = some V') : Met l yX5_callName (.code yX5_callName cX5_callName 5 none :: WM) rm_X5_callName (PcM D ad cI cZ cP A [.ref (ad w 0 0), .ref (ad w 7 i1), .int x2, .int x3] (Pic D ad cI cZ cP w G V U)) (QcV A (Pic D ad cI cZ cP w G V' U)) 0 0 A := by
  refine m_entry (by decide) (Nat.le_of_ble_eq_true rfl) (fun p e s m below meth c ls X hP hS hl => ?_)
  have X : MX p s m _ meth c cX5_callName RX5 5 none D ad cI cZ cP A := X
  obtain ⟨hx, hb, hml, hown, htm, hr, hlk, hE⟩ := id X
  have hl : lv_has ls 5 [(0, .ref (ad w 0 0)), (1, .ref (ad w 7 i1)), (2, .int x2), (3, .int x3)] := hl
  refine lv_aload_n hx hb dX5_callName_0 rfl (lv_at hl 0 rfl) ?_
  refine lv_iload_n hx hb dX5_callName_1 rfl (lv_at hl 2 rfl) ?_
  obtain ⟨r1, hc1, hF⟩ := ob_S hF
  refine m_cVi X hS vw_X5_holderOf qw_276 (c_X5_holderOf hw hc1) ⟨rfl, rfl⟩ ⟨Nat.le_of_ble_eq_true rfl, Nat.le_of_ble_eq_true rfl⟩ (rc_0 hE hP hw) hP rfl hl.1 (rest := []) rfl (Nat.le_of_ble_eq_true rfl) dX5_callName_2 (fun H locs hP hS => ?_)
  refine lv_istore (lv' := [(4, .int r1), (0, .ref (ad w 0 0)), (1, .ref (ad w 7 i1)), (2, .int x2), (3, .int x3)]) hx hb dX5_callName_5 hl (by decide) rfl (fun ls hl => ?_)
  refine lv_iload hx hb dX5_callName_7 (lv_at hl 0 rfl) ?_
  refine lv_iconst (v := (-1)) hx hb dX5_callName_9 (by decide) ?_
  refine lv_icmp_ne (tgt := 23) hx hb dX5_callName_10 (by decide) (fun c2 => ?_) (fun c2 => ?_)
  · have hF := ite_F c2 hF
    refine lv_aload_n hx hb dX5_callName_23 rfl (lv_at hl 1 rfl) ?_
    refine lv_iload hx hb dX5_callName_24 (lv_at hl 0 rfl) ?_
    refine lv_iload_n hx hb dX5_callName_26 rfl (lv_at hl 4 rfl) ?_
    refine lv_aload_n hx hb dX5_callName_27 rfl (lv_at hl 2 rfl) ?_
    refine gf_7_7 hx hb htm hown hE hP hw hi1 (htm _ qw_271) dX5_callName_28 ?_
    obtain ⟨⟨r3, V3⟩, hc3, hF⟩ := ob_S hF
    refine m_cVi X hS vw_X5_putMail qw_211 (c_X5_putMail hw hc3) ⟨rfl, rfl⟩ ⟨Nat.le_of_ble_eq_true rfl, Nat.le_of_ble_eq_true rfl⟩ (rc_0 hE hP hw) hP rfl hl.1 (rest := []) rfl (Nat.le_of_ble_eq_true rfl) dX5_callName_31 (fun H locs hP hS => ?_)
    refine lv_pop hx hb dX5_callName_34 rfl ?_
    cases hF
    exact m_vret X hS hP dX5_callName_35
  · have hF := ite_T c2 hF
    refine lv_aload_n hx hb dX5_callName_13 rfl (lv_at hl 1 rfl) ?_
    refine lv_aload_n hx hb dX5_callName_14 rfl (lv_at hl 2 rfl) ?_
    refine lv_bipush (v := 6) hx hb dX5_callName_15 (by decide) ?_
    obtain ⟨V4, hc4, hF⟩ := ob_S hF
    refine m_cVv X hS vw_X5_end qw_181 (c_X5_end hw hi1 hc4) ⟨rfl, rfl⟩ ⟨Nat.le_of_ble_eq_true rfl, Nat.le_of_ble_eq_true rfl⟩ (rc_0 hE hP hw) hP rfl hl.1 (rest := []) rfl (Nat.le_of_ble_eq_true rfl) dX5_callName_17 (fun H locs hP hS => ?_)
    refine lv_goto (tgt := 35) hx hb dX5_callName_20 (by decide) ?_
    cases hF
    exact m_vret X hS hP dX5_callName_35
def f_X5_spawn (G V : MT) (i1 : Nat) (x2 : Int32) (x3 : Int32) : Option (MT) :=
  (f_X5_comesOfModule G V x2 (-1)).bind (fun q1_ => oc q1_.1 ((f_X5_end G q1_.2 i1 5).bind (fun q2_ => some q2_)) (fun e1 => if e1 < 24 then (if x3 = 0 then (some (pt q1_.2 7 i1 7 (nI e1))) else ((f_X5_link G q1_.2 i1 e1).bind (fun q4_ => some (pt q4_ 7 i1 7 (nI e1))))) else none))
def rm_X5_spawn : Room := { frames := 1, cells := 0, slots := 0, locals := 23 }
set_option maxRecDepth 20000 in
set_option maxHeartbeats 4000000 in
theorem c_X5_spawn {l : Launch} {D : va_G} {ad : Nat → Nat → Nat → Nat} {cI cZ cP : ClassId} {A : Nat → Prop} {w : Nat} (hw : w < 2) {G V U : MT} {i1 : Nat} {x2 : Int32} {x3 : Int32} {V' : MT}  (hi1 : i1 < 24) (hF : f_X5_spawn G V i1 x2 x3 = some V') : Met l yX5_spawn (.code yX5_spawn cX5_spawn 5 none :: WM) rm_X5_spawn (PcM D ad cI cZ cP A [.ref (ad w 0 0), .ref (ad w 7 i1), .int x2, .int x3] (Pic D ad cI cZ cP w G V U)) (QcV A (Pic D ad cI cZ cP w G V' U)) 0 0 A := by
  refine m_entry (by decide) (Nat.le_of_ble_eq_true rfl) (fun p e s m below meth c ls X hP hS hl => ?_)
  have X : MX p s m _ meth c cX5_spawn RX5 5 none D ad cI cZ cP A := X
  obtain ⟨hx, hb, hml, hown, htm, hr, hlk, hE⟩ := id X
  have hl : lv_has ls 5 [(0, .ref (ad w 0 0)), (1, .ref (ad w 7 i1)), (2, .int x2), (3, .int x3)] := hl
  refine lv_aload_n hx hb dX5_spawn_0 rfl (lv_at hl 0 rfl) ?_
  refine lv_iload_n hx hb dX5_spawn_1 rfl (lv_at hl 2 rfl) ?_
  refine lv_iconst (v := (-1)) hx hb dX5_spawn_2 (by decide) ?_
  obtain ⟨⟨r1, V1⟩, hc1, hF⟩ := ob_S hF
  refine m_cVq X hS vw_X5_comesOfModule qw_178 (c_X5_comesOfModule hw hc1) ⟨rfl, rfl⟩ ⟨Nat.le_of_ble_eq_true rfl, Nat.le_of_ble_eq_true rfl⟩ (rc_0 hE hP hw) hP rfl hl.1 (rest := []) rfl (Nat.le_of_ble_eq_true rfl) dX5_spawn_3 (fun H locs hP hS => ?_)
  rcases r1 with _ | e1
  · skip
    refine lv_astoreN (lv' := [(4, .null), (0, .ref (ad w 0 0)), (1, .ref (ad w 7 i1)), (2, .int x2), (3, .int x3)]) hx hb dX5_spawn_6 hl (by decide) rfl (fun ls hl => ?_)
    refine lv_aloadN hx hb dX5_spawn_8 (lv_at hl 0 rfl) ?_
    refine lv_ifnonnullN hx hb dX5_spawn_10 ?_
    refine lv_aload_n hx hb dX5_spawn_13 rfl (lv_at hl 1 rfl) ?_
    refine lv_aload_n hx hb dX5_spawn_14 rfl (lv_at hl 2 rfl) ?_
    refine lv_iconst (v := 5) hx hb dX5_spawn_15 (by decide) ?_
    obtain ⟨V2, hc2, hF⟩ := ob_S hF
    refine m_cVv X hS vw_X5_end qw_181 (c_X5_end hw hi1 hc2) ⟨rfl, rfl⟩ ⟨Nat.le_of_ble_eq_true rfl, Nat.le_of_ble_eq_true rfl⟩ (rc_0 hE hP hw) hP rfl hl.1 (rest := []) rfl (Nat.le_of_ble_eq_true rfl) dX5_spawn_16 (fun H locs hP hS => ?_)
    cases hF
    exact m_vret X hS hP dX5_spawn_19
  · obtain ⟨he1, hF⟩ := ite_S hF
    refine lv_astore (lv' := [(4, .ref (ad w 7 e1)), (0, .ref (ad w 0 0)), (1, .ref (ad w 7 i1)), (2, .int x2), (3, .int x3)]) hx hb dX5_spawn_6 hl (by decide) rfl (fun ls hl => ?_)
    refine lv_aload hx hb dX5_spawn_8 (lv_at hl 0 rfl) ?_
    refine lv_ifnonnull (tgt := 20) hx hb dX5_spawn_10 (by decide) ?_
    refine lv_iload_n hx hb dX5_spawn_20 rfl (lv_at hl 4 rfl) ?_
    refine lv_if_eq (tgt := 31) hx hb dX5_spawn_21 (by decide) (fun c3 => ?_) (fun c3 => ?_)
    · have hF := ite_T c3 hF
      refine lv_aload_n hx hb dX5_spawn_31 rfl (lv_at hl 2 rfl) ?_
      refine lv_aload hx hb dX5_spawn_32 (lv_at hl 0 rfl) ?_
      refine gf_7_0 hx hb htm hown hE hP hw he1 (htm _ qw_163) dX5_spawn_34 ?_
      refine pf_7_7 hx hb htm hown hE hP hS hw hi1 (htm _ qw_271) dX5_spawn_37 (fun H locs hP hS => ?_)
      cases hF
      exact m_vret X hS hP dX5_spawn_40
    · have hF := ite_F c3 hF
      refine lv_aload_n hx hb dX5_spawn_24 rfl (lv_at hl 1 rfl) ?_
      refine lv_aload_n hx hb dX5_spawn_25 rfl (lv_at hl 2 rfl) ?_
      refine lv_aload hx hb dX5_spawn_26 (lv_at hl 0 rfl) ?_
      obtain ⟨V4, hc4, hF⟩ := ob_S hF
      refine m_cVv X hS vw_X5_link qw_272 (c_X5_link hw hi1 he1 hc4) ⟨rfl, rfl⟩ ⟨Nat.le_of_ble_eq_true rfl, Nat.le_of_ble_eq_true rfl⟩ (rc_0 hE hP hw) hP rfl hl.1 (rest := []) rfl (Nat.le_of_ble_eq_true rfl) dX5_spawn_28 (fun H locs hP hS => ?_)
      refine lv_aload_n hx hb dX5_spawn_31 rfl (lv_at hl 2 rfl) ?_
      refine lv_aload hx hb dX5_spawn_32 (lv_at hl 0 rfl) ?_
      refine gf_7_0 hx hb htm hown hE hP hw he1 (htm _ qw_163) dX5_spawn_34 ?_
      refine pf_7_7 hx hb htm hown hE hP hS hw hi1 (htm _ qw_271) dX5_spawn_37 (fun H locs hP hS => ?_)
      cases hF
      exact m_vret X hS hP dX5_spawn_40
def f_X5_copyFrom_42 (U : MT) : Nat → Int32 → Int32 → MT → Option (MT)
  | 0, _, _, _ => none
  | n + 1, y2, y3, V => if y2 ≤ y3 then (some (pt (ct (ct (pt (pt (ct (pt (pt (pt (pt (pt (pt V 0 0 5 (U 0 0 5)) 0 0 6 (U 0 0 6)) 0 0 7 (U 0 0 7)) 0 0 8 (U 0 0 8)) 0 0 9 (U 0 0 9)) 0 0 10 (U 0 0 10)) 4 0 (U 4 0) 24) 0 0 12 (U 0 0 12)) 0 0 13 (U 0 0 13)) 5 0 (U 5 0) 48) 6 0 (U 6 0) 48) 0 0 16 (U 0 0 16))) else (if 24 ≤ y3 then (some (pt (ct (ct (pt (pt (ct (pt (pt (pt (pt (pt (pt V 0 0 5 (U 0 0 5)) 0 0 6 (U 0 0 6)) 0 0 7 (U 0 0 7)) 0 0 8 (U 0 0 8)) 0 0 9 (U 0 0 9)) 0 0 10 (U 0 0 10)) 4 0 (U 4 0) 24) 0 0 12 (U 0 0 12)) 0 0 13 (U 0 0 13)) 5 0 (U 5 0) 48) 6 0 (U 6 0) 48) 0 0 16 (U 0 0 16))) else (if ¬ (y3 < 0 ∨ 24 ≤ Int32.toNatClampNeg y3) then (if ¬ (y3 < 0 ∨ 24 ≤ Int32.toNatClampNeg y3) then ((f_X2_copyFrom V U (Int32.toNatClampNeg y3) (Int32.toNatClampNeg y3)).bind (fun q7_ => (f_X5_copyFrom_42 U n) y2 (y3 + 1) q7_)) else none) else none))
def f_X5_copyFrom (V U : MT)  : Option (MT) :=
  f_X5_copyFrom_42 U  30 (if (ct (ct V 1 0 (U 1 0) 4) 2 0 (U 2 0) 4) 0 0 5 < U 0 0 5 then U 0 0 5 else (ct (ct V 1 0 (U 1 0) 4) 2 0 (U 2 0) 4) 0 0 5) 0 (ct (ct V 1 0 (U 1 0) 4) 2 0 (U 2 0) 4)
def rm_X5_copyFrom : Room := { frames := 3, cells := 0, slots := 0, locals := 82 }
set_option maxRecDepth 20000 in
set_option maxHeartbeats 4000000 in
theorem l_X5_copyFrom_42 {p : Program} {l : Launch} {e : Env} {s : State} {m : MethodId} {args : Array Value} {below : List Frame} {meth : Method} {c : Code} {D : va_G} {ad : Nat → Nat → Nat → Nat} {cI cZ cP : ClassId} {A : Nat → Prop} {G U : MT} {V' : MT} (X : MX p s m args meth c cX5_copyFrom RX5 4 none D ad cI cZ cP A) {w w' : Nat} (hw : w < 2) (hw' : w' < 2) (hww : w + w' = 1) (n : Nat) : ∀ {H : Heap} {locs : List Loc} {ls : Array Slot} (y2 : Int32) (y3 : Int32) (V : MT), Pic D ad cI cZ cP w G V U H → va_S A s.heap H locs → lv_has ls 4 [(0, .ref (ad w 0 0)), (1, .ref (ad w' 0 0)), (2, .int y2), (3, .int y3)] → f_X5_copyFrom_42 U n y2 y3 V = some V' → W p l e rm_X5_copyFrom s m args below meth c H locs 0 0 (MQ below (QcV A (Pic D ad cI cZ cP w G V' U)) args s 0 0 A) (F0 m 42 ls []) := by
  obtain ⟨hx, hb, hml, hown, htm, hr, hlk, hE⟩ := id X
  induction n with
  | zero =>
    intros
    exact ns_S (by assumption)
  | succ n ih42 =>
    intro H locs ls y2 y3 V   hP hS hl hF
    rw [f_X5_copyFrom_42] at hF
    refine lv_iload_n hx hb dX5_copyFrom_42 rfl (lv_at hl 3 rfl) ?_
    refine lv_iload_n hx hb dX5_copyFrom_43 rfl (lv_at hl 2 rfl) ?_
    refine lv_icmp_ge (tgt := 74) hx hb dX5_copyFrom_44 (by decide) (fun c1 => ?_) (fun c1 => ?_)
    · have hF := ite_T c1 hF
      refine lv_aload_n hx hb dX5_copyFrom_74 rfl (lv_at hl 0 rfl) ?_
      refine lv_aload_n hx hb dX5_copyFrom_75 rfl (lv_at hl 1 rfl) ?_
      refine gf_0_5 hx hb htm hown hE (hP.swap hww) hw' (htm _ qw_129) dX5_copyFrom_76 ?_
      refine pf_0_5 hx hb htm hown hE hP hS hw (htm _ qw_129) dX5_copyFrom_79 (fun H locs hP hS => ?_)
      refine lv_aload_n hx hb dX5_copyFrom_82 rfl (lv_at hl 0 rfl) ?_
      refine lv_aload_n hx hb dX5_copyFrom_83 rfl (lv_at hl 1 rfl) ?_
      refine gf_0_6 hx hb htm hown hE (hP.swap hww) hw' (htm _ qw_131) dX5_copyFrom_84 ?_
      refine pf_0_6 hx hb htm hown hE hP hS hw (htm _ qw_131) dX5_copyFrom_87 (fun H locs hP hS => ?_)
      refine lv_aload_n hx hb dX5_copyFrom_90 rfl (lv_at hl 0 rfl) ?_
      refine lv_aload_n hx hb dX5_copyFrom_91 rfl (lv_at hl 1 rfl) ?_
      refine gf_0_7 hx hb htm hown hE (hP.swap hww) hw' (htm _ qw_132) dX5_copyFrom_92 ?_
      refine pf_0_7 hx hb htm hown hE hP hS hw (htm _ qw_132) dX5_copyFrom_95 (fun H locs hP hS => ?_)
      refine lv_aload_n hx hb dX5_copyFrom_98 rfl (lv_at hl 0 rfl) ?_
      refine lv_aload_n hx hb dX5_copyFrom_99 rfl (lv_at hl 1 rfl) ?_
      refine gf_0_8 hx hb htm hown hE (hP.swap hww) hw' (htm _ qw_133) dX5_copyFrom_100 ?_
      refine pf_0_8 hx hb htm hown hE hP hS hw (htm _ qw_133) dX5_copyFrom_103 (fun H locs hP hS => ?_)
      refine lv_aload_n hx hb dX5_copyFrom_106 rfl (lv_at hl 0 rfl) ?_
      refine lv_aload_n hx hb dX5_copyFrom_107 rfl (lv_at hl 1 rfl) ?_
      refine gf_0_9 hx hb htm hown hE (hP.swap hww) hw' (htm _ qw_134) dX5_copyFrom_108 ?_
      refine pf_0_9 hx hb htm hown hE hP hS hw (htm _ qw_134) dX5_copyFrom_111 (fun H locs hP hS => ?_)
      refine lv_aload_n hx hb dX5_copyFrom_114 rfl (lv_at hl 0 rfl) ?_
      refine lv_aload_n hx hb dX5_copyFrom_115 rfl (lv_at hl 1 rfl) ?_
      refine gf_0_10 hx hb htm hown hE (hP.swap hww) hw' (htm _ qw_135) dX5_copyFrom_116 ?_
      refine pf_0_10 hx hb htm hown hE hP hS hw (htm _ qw_135) dX5_copyFrom_119 (fun H locs hP hS => ?_)
      refine lv_aload_n hx hb dX5_copyFrom_122 rfl (lv_at hl 1 rfl) ?_
      refine gf_0_11 hx hb htm hown hE (hP.swap hww) hw' (htm _ qw_122) dX5_copyFrom_123 ?_
      refine lv_iconst (v := 0) hx hb dX5_copyFrom_126 (by decide) ?_
      refine lv_aload_n hx hb dX5_copyFrom_127 rfl (lv_at hl 0 rfl) ?_
      refine gf_0_11 hx hb htm hown hE hP hw (htm _ qw_122) dX5_copyFrom_128 ?_
      refine lv_iconst (v := 0) hx hb dX5_copyFrom_131 (by decide) ?_
      refine lv_bipush (v := 24) hx hb dX5_copyFrom_132 (by decide) ?_
      refine cp_4 hx hb (hml.trans hl.1.symm) hown htm hE hP hS hw hw' hww (htm _ qw_128) (Nat.le_of_ble_eq_true rfl) (Nat.le_of_ble_eq_true rfl) dX5_copyFrom_134 (fun H locs hP hS => ?_)
      refine lv_aload_n hx hb dX5_copyFrom_137 rfl (lv_at hl 0 rfl) ?_
      refine lv_aload_n hx hb dX5_copyFrom_138 rfl (lv_at hl 1 rfl) ?_
      refine gf_0_12 hx hb htm hown hE (hP.swap hww) hw' (htm _ qw_136) dX5_copyFrom_139 ?_
      refine pf_0_12 hx hb htm hown hE hP hS hw (htm _ qw_136) dX5_copyFrom_142 (fun H locs hP hS => ?_)
      refine lv_aload_n hx hb dX5_copyFrom_145 rfl (lv_at hl 0 rfl) ?_
      refine lv_aload_n hx hb dX5_copyFrom_146 rfl (lv_at hl 1 rfl) ?_
      refine gf_0_13 hx hb htm hown hE (hP.swap hww) hw' (htm _ qw_137) dX5_copyFrom_147 ?_
      refine pf_0_13 hx hb htm hown hE hP hS hw (htm _ qw_137) dX5_copyFrom_150 (fun H locs hP hS => ?_)
      refine lv_aload_n hx hb dX5_copyFrom_153 rfl (lv_at hl 1 rfl) ?_
      refine gf_0_14 hx hb htm hown hE (hP.swap hww) hw' (htm _ qw_123) dX5_copyFrom_154 ?_
      refine lv_iconst (v := 0) hx hb dX5_copyFrom_157 (by decide) ?_
      refine lv_aload_n hx hb dX5_copyFrom_158 rfl (lv_at hl 0 rfl) ?_
      refine gf_0_14 hx hb htm hown hE hP hw (htm _ qw_123) dX5_copyFrom_159 ?_
      refine lv_iconst (v := 0) hx hb dX5_copyFrom_162 (by decide) ?_
      refine lv_bipush (v := 48) hx hb dX5_copyFrom_163 (by decide) ?_
      refine cp_5 hx hb (hml.trans hl.1.symm) hown htm hE hP hS hw hw' hww (htm _ qw_128) (Nat.le_of_ble_eq_true rfl) (Nat.le_of_ble_eq_true rfl) dX5_copyFrom_165 (fun H locs hP hS => ?_)
      refine lv_aload_n hx hb dX5_copyFrom_168 rfl (lv_at hl 1 rfl) ?_
      refine gf_0_15 hx hb htm hown hE (hP.swap hww) hw' (htm _ qw_124) dX5_copyFrom_169 ?_
      refine lv_iconst (v := 0) hx hb dX5_copyFrom_172 (by decide) ?_
      refine lv_aload_n hx hb dX5_copyFrom_173 rfl (lv_at hl 0 rfl) ?_
      refine gf_0_15 hx hb htm hown hE hP hw (htm _ qw_124) dX5_copyFrom_174 ?_
      refine lv_iconst (v := 0) hx hb dX5_copyFrom_177 (by decide) ?_
      refine lv_bipush (v := 48) hx hb dX5_copyFrom_178 (by decide) ?_
      refine cp_6 hx hb (hml.trans hl.1.symm) hown htm hE hP hS hw hw' hww (htm _ qw_128) (Nat.le_of_ble_eq_true rfl) (Nat.le_of_ble_eq_true rfl) dX5_copyFrom_180 (fun H locs hP hS => ?_)
      refine lv_aload_n hx hb dX5_copyFrom_183 rfl (lv_at hl 0 rfl) ?_
      refine lv_aload_n hx hb dX5_copyFrom_184 rfl (lv_at hl 1 rfl) ?_
      refine gf_0_16 hx hb htm hown hE (hP.swap hww) hw' (htm _ qw_138) dX5_copyFrom_185 ?_
      refine pf_0_16 hx hb htm hown hE hP hS hw (htm _ qw_138) dX5_copyFrom_188 (fun H locs hP hS => ?_)
      cases hF
      exact m_vret X hS hP dX5_copyFrom_191
    · have hF := ite_F c1 hF
      refine lv_iload_n hx hb dX5_copyFrom_47 rfl (lv_at hl 3 rfl) ?_
      refine lv_bipush (v := 24) hx hb dX5_copyFrom_48 (by decide) ?_
      refine lv_icmp_ge (tgt := 74) hx hb dX5_copyFrom_50 (by decide) (fun c2 => ?_) (fun c2 => ?_)
      · have hF := ite_T c2 hF
        refine lv_aload_n hx hb dX5_copyFrom_74 rfl (lv_at hl 0 rfl) ?_
        refine lv_aload_n hx hb dX5_copyFrom_75 rfl (lv_at hl 1 rfl) ?_
        refine gf_0_5 hx hb htm hown hE (hP.swap hww) hw' (htm _ qw_129) dX5_copyFrom_76 ?_
        refine pf_0_5 hx hb htm hown hE hP hS hw (htm _ qw_129) dX5_copyFrom_79 (fun H locs hP hS => ?_)
        refine lv_aload_n hx hb dX5_copyFrom_82 rfl (lv_at hl 0 rfl) ?_
        refine lv_aload_n hx hb dX5_copyFrom_83 rfl (lv_at hl 1 rfl) ?_
        refine gf_0_6 hx hb htm hown hE (hP.swap hww) hw' (htm _ qw_131) dX5_copyFrom_84 ?_
        refine pf_0_6 hx hb htm hown hE hP hS hw (htm _ qw_131) dX5_copyFrom_87 (fun H locs hP hS => ?_)
        refine lv_aload_n hx hb dX5_copyFrom_90 rfl (lv_at hl 0 rfl) ?_
        refine lv_aload_n hx hb dX5_copyFrom_91 rfl (lv_at hl 1 rfl) ?_
        refine gf_0_7 hx hb htm hown hE (hP.swap hww) hw' (htm _ qw_132) dX5_copyFrom_92 ?_
        refine pf_0_7 hx hb htm hown hE hP hS hw (htm _ qw_132) dX5_copyFrom_95 (fun H locs hP hS => ?_)
        refine lv_aload_n hx hb dX5_copyFrom_98 rfl (lv_at hl 0 rfl) ?_
        refine lv_aload_n hx hb dX5_copyFrom_99 rfl (lv_at hl 1 rfl) ?_
        refine gf_0_8 hx hb htm hown hE (hP.swap hww) hw' (htm _ qw_133) dX5_copyFrom_100 ?_
        refine pf_0_8 hx hb htm hown hE hP hS hw (htm _ qw_133) dX5_copyFrom_103 (fun H locs hP hS => ?_)
        refine lv_aload_n hx hb dX5_copyFrom_106 rfl (lv_at hl 0 rfl) ?_
        refine lv_aload_n hx hb dX5_copyFrom_107 rfl (lv_at hl 1 rfl) ?_
        refine gf_0_9 hx hb htm hown hE (hP.swap hww) hw' (htm _ qw_134) dX5_copyFrom_108 ?_
        refine pf_0_9 hx hb htm hown hE hP hS hw (htm _ qw_134) dX5_copyFrom_111 (fun H locs hP hS => ?_)
        refine lv_aload_n hx hb dX5_copyFrom_114 rfl (lv_at hl 0 rfl) ?_
        refine lv_aload_n hx hb dX5_copyFrom_115 rfl (lv_at hl 1 rfl) ?_
        refine gf_0_10 hx hb htm hown hE (hP.swap hww) hw' (htm _ qw_135) dX5_copyFrom_116 ?_
        refine pf_0_10 hx hb htm hown hE hP hS hw (htm _ qw_135) dX5_copyFrom_119 (fun H locs hP hS => ?_)
        refine lv_aload_n hx hb dX5_copyFrom_122 rfl (lv_at hl 1 rfl) ?_
        refine gf_0_11 hx hb htm hown hE (hP.swap hww) hw' (htm _ qw_122) dX5_copyFrom_123 ?_
        refine lv_iconst (v := 0) hx hb dX5_copyFrom_126 (by decide) ?_
        refine lv_aload_n hx hb dX5_copyFrom_127 rfl (lv_at hl 0 rfl) ?_
        refine gf_0_11 hx hb htm hown hE hP hw (htm _ qw_122) dX5_copyFrom_128 ?_
        refine lv_iconst (v := 0) hx hb dX5_copyFrom_131 (by decide) ?_
        refine lv_bipush (v := 24) hx hb dX5_copyFrom_132 (by decide) ?_
        refine cp_4 hx hb (hml.trans hl.1.symm) hown htm hE hP hS hw hw' hww (htm _ qw_128) (Nat.le_of_ble_eq_true rfl) (Nat.le_of_ble_eq_true rfl) dX5_copyFrom_134 (fun H locs hP hS => ?_)
        refine lv_aload_n hx hb dX5_copyFrom_137 rfl (lv_at hl 0 rfl) ?_
        refine lv_aload_n hx hb dX5_copyFrom_138 rfl (lv_at hl 1 rfl) ?_
        refine gf_0_12 hx hb htm hown hE (hP.swap hww) hw' (htm _ qw_136) dX5_copyFrom_139 ?_
        refine pf_0_12 hx hb htm hown hE hP hS hw (htm _ qw_136) dX5_copyFrom_142 (fun H locs hP hS => ?_)
        refine lv_aload_n hx hb dX5_copyFrom_145 rfl (lv_at hl 0 rfl) ?_
        refine lv_aload_n hx hb dX5_copyFrom_146 rfl (lv_at hl 1 rfl) ?_
        refine gf_0_13 hx hb htm hown hE (hP.swap hww) hw' (htm _ qw_137) dX5_copyFrom_147 ?_
        refine pf_0_13 hx hb htm hown hE hP hS hw (htm _ qw_137) dX5_copyFrom_150 (fun H locs hP hS => ?_)
        refine lv_aload_n hx hb dX5_copyFrom_153 rfl (lv_at hl 1 rfl) ?_
        refine gf_0_14 hx hb htm hown hE (hP.swap hww) hw' (htm _ qw_123) dX5_copyFrom_154 ?_
        refine lv_iconst (v := 0) hx hb dX5_copyFrom_157 (by decide) ?_
        refine lv_aload_n hx hb dX5_copyFrom_158 rfl (lv_at hl 0 rfl) ?_
        refine gf_0_14 hx hb htm hown hE hP hw (htm _ qw_123) dX5_copyFrom_159 ?_
        refine lv_iconst (v := 0) hx hb dX5_copyFrom_162 (by decide) ?_
        refine lv_bipush (v := 48) hx hb dX5_copyFrom_163 (by decide) ?_
        refine cp_5 hx hb (hml.trans hl.1.symm) hown htm hE hP hS hw hw' hww (htm _ qw_128) (Nat.le_of_ble_eq_true rfl) (Nat.le_of_ble_eq_true rfl) dX5_copyFrom_165 (fun H locs hP hS => ?_)
        refine lv_aload_n hx hb dX5_copyFrom_168 rfl (lv_at hl 1 rfl) ?_
        refine gf_0_15 hx hb htm hown hE (hP.swap hww) hw' (htm _ qw_124) dX5_copyFrom_169 ?_
        refine lv_iconst (v := 0) hx hb dX5_copyFrom_172 (by decide) ?_
        refine lv_aload_n hx hb dX5_copyFrom_173 rfl (lv_at hl 0 rfl) ?_
        refine gf_0_15 hx hb htm hown hE hP hw (htm _ qw_124) dX5_copyFrom_174 ?_
        refine lv_iconst (v := 0) hx hb dX5_copyFrom_177 (by decide) ?_
        refine lv_bipush (v := 48) hx hb dX5_copyFrom_178 (by decide) ?_
        refine cp_6 hx hb (hml.trans hl.1.symm) hown htm hE hP hS hw hw' hww (htm _ qw_128) (Nat.le_of_ble_eq_true rfl) (Nat.le_of_ble_eq_true rfl) dX5_copyFrom_180 (fun H locs hP hS => ?_)
        refine lv_aload_n hx hb dX5_copyFrom_183 rfl (lv_at hl 0 rfl) ?_
        refine lv_aload_n hx hb dX5_copyFrom_184 rfl (lv_at hl 1 rfl) ?_
        refine gf_0_16 hx hb htm hown hE (hP.swap hww) hw' (htm _ qw_138) dX5_copyFrom_185 ?_
        refine pf_0_16 hx hb htm hown hE hP hS hw (htm _ qw_138) dX5_copyFrom_188 (fun H locs hP hS => ?_)
        cases hF
        exact m_vret X hS hP dX5_copyFrom_191
      · have hF := ite_F c2 hF
        refine lv_aload_n hx hb dX5_copyFrom_53 rfl (lv_at hl 0 rfl) ?_
        refine gf_0_4 hx hb htm hown hE hP hw (htm _ qw_121) dX5_copyFrom_54 ?_
        refine lv_iload_n hx hb dX5_copyFrom_57 rfl (lv_at hl 3 rfl) ?_
        obtain ⟨hn3, hF⟩ := ite_S hF
        refine mql hx hb htm hown hE hP hw hn3 dX5_copyFrom_58 ?_
        have hj4 : Int32.toNatClampNeg y3 < 24 := Nat.not_le.mp fun q => hn3 (Or.inr q)
        refine lv_aload_n hx hb dX5_copyFrom_59 rfl (lv_at hl 1 rfl) ?_
        refine gf_0_4 hx hb htm hown hE (hP.swap hww) hw' (htm _ qw_121) dX5_copyFrom_60 ?_
        refine lv_iload_n hx hb dX5_copyFrom_63 rfl (lv_at hl 3 rfl) ?_
        obtain ⟨hn5, hF⟩ := ite_S hF
        refine mql hx hb htm hown hE (hP.swap hww) hw' hn5 dX5_copyFrom_64 ?_
        have hj6 : Int32.toNatClampNeg y3 < 24 := Nat.not_le.mp fun q => hn5 (Or.inr q)
        obtain ⟨V7, hc7, hF⟩ := ob_S hF
        refine m_cVv X hS vw_X2_copyFrom qw_139 (c_X2_copyFrom hw hw' hww hj6 hj6 hc7) ⟨rfl, rfl⟩ ⟨Nat.le_of_ble_eq_true rfl, Nat.le_of_ble_eq_true rfl⟩ (rc_7 hE hP hw hj6) hP rfl hl.1 (rest := []) rfl (Nat.le_of_ble_eq_true rfl) dX5_copyFrom_65 (fun H locs hP hS => ?_)
        refine lv_iinc (v := y3 + 1) (lv' := [(3, .int (y3 + 1)), (0, .ref (ad w 0 0)), (1, .ref (ad w' 0 0)), (2, .int y2)]) hx hb dX5_copyFrom_68 hl (k := 3) rfl rfl (by decide) rfl (fun ls hl => ?_)
        refine lv_goto (tgt := 42) hx hb dX5_copyFrom_71 (by decide) ?_
        exact ih42 _ _ _  hP hS (lv_sub hl [1, 2, 3, 0] rfl) hF
set_option maxRecDepth 20000 in
set_option maxHeartbeats 4000000 in
theorem c_X5_copyFrom {l : Launch} {D : va_G} {ad : Nat → Nat → Nat → Nat} {cI cZ cP : ClassId} {A : Nat → Prop} {w w' : Nat} (hw : w < 2) (hw' : w' < 2) (hww : w + w' = 1) {G V U : MT}  {V' : MT}  (hF : f_X5_copyFrom V U  = some V') : Met l yX5_copyFrom (.code yX5_copyFrom cX5_copyFrom 4 none :: WM) rm_X5_copyFrom (PcM D ad cI cZ cP A [.ref (ad w 0 0), .ref (ad w' 0 0)] (Pic D ad cI cZ cP w G V U)) (QcV A (Pic D ad cI cZ cP w G V' U)) 0 0 A := by
  refine m_entry (by decide) (Nat.le_of_ble_eq_true rfl) (fun p e s m below meth c ls X hP hS hl => ?_)
  have X : MX p s m _ meth c cX5_copyFrom RX5 4 none D ad cI cZ cP A := X
  obtain ⟨hx, hb, hml, hown, htm, hr, hlk, hE⟩ := id X
  have hl : lv_has ls 4 [(0, .ref (ad w 0 0)), (1, .ref (ad w' 0 0))] := hl
  refine lv_aload_n hx hb dX5_copyFrom_0 rfl (lv_at hl 1 rfl) ?_
  refine gf_0_2 hx hb htm hown hE (hP.swap hww) hw' (htm _ qw_119) dX5_copyFrom_1 ?_
  refine lv_iconst (v := 0) hx hb dX5_copyFrom_4 (by decide) ?_
  refine lv_aload_n hx hb dX5_copyFrom_5 rfl (lv_at hl 0 rfl) ?_
  refine gf_0_2 hx hb htm hown hE hP hw (htm _ qw_119) dX5_copyFrom_6 ?_
  refine lv_iconst (v := 0) hx hb dX5_copyFrom_9 (by decide) ?_
  refine lv_iconst (v := 4) hx hb dX5_copyFrom_10 (by decide) ?_
  refine cp_1 hx hb (hml.trans hl.1.symm) hown htm hE hP hS hw hw' hww (htm _ qw_128) (Nat.le_of_ble_eq_true rfl) (Nat.le_of_ble_eq_true rfl) dX5_copyFrom_11 (fun H locs hP hS => ?_)
  refine lv_aload_n hx hb dX5_copyFrom_14 rfl (lv_at hl 1 rfl) ?_
  refine gf_0_3 hx hb htm hown hE (hP.swap hww) hw' (htm _ qw_120) dX5_copyFrom_15 ?_
  refine lv_iconst (v := 0) hx hb dX5_copyFrom_18 (by decide) ?_
  refine lv_aload_n hx hb dX5_copyFrom_19 rfl (lv_at hl 0 rfl) ?_
  refine gf_0_3 hx hb htm hown hE hP hw (htm _ qw_120) dX5_copyFrom_20 ?_
  refine lv_iconst (v := 0) hx hb dX5_copyFrom_23 (by decide) ?_
  refine lv_iconst (v := 4) hx hb dX5_copyFrom_24 (by decide) ?_
  refine cp_2 hx hb (hml.trans hl.1.symm) hown htm hE hP hS hw hw' hww (htm _ qw_128) (Nat.le_of_ble_eq_true rfl) (Nat.le_of_ble_eq_true rfl) dX5_copyFrom_25 (fun H locs hP hS => ?_)
  refine lv_aload_n hx hb dX5_copyFrom_28 rfl (lv_at hl 0 rfl) ?_
  refine gf_0_5 hx hb htm hown hE hP hw (htm _ qw_129) dX5_copyFrom_29 ?_
  refine lv_aload_n hx hb dX5_copyFrom_32 rfl (lv_at hl 1 rfl) ?_
  refine gf_0_5 hx hb htm hown hE (hP.swap hww) hw' (htm _ qw_129) dX5_copyFrom_33 ?_
  refine va_mmax hx hb (hml.trans hl.1.symm) hown (htm _ qw_130) (htm _ qw_80) (htm _ qw_77) (htm _ qw_81) (Nat.le_of_ble_eq_true rfl) (Nat.le_of_ble_eq_true rfl) (Nat.zero_le _) (Nat.zero_le _) dX5_copyFrom_36 ?_
  refine lv_istore_n (lv' := [(2, .int (if (ct (ct V 1 0 (U 1 0) 4) 2 0 (U 2 0) 4) 0 0 5 < U 0 0 5 then U 0 0 5 else (ct (ct V 1 0 (U 1 0) 4) 2 0 (U 2 0) 4) 0 0 5)), (0, .ref (ad w 0 0)), (1, .ref (ad w' 0 0))]) hx hb dX5_copyFrom_39 rfl hl (by decide) rfl (fun ls hl => ?_)
  refine lv_iconst (v := 0) hx hb dX5_copyFrom_40 (by decide) ?_
  refine lv_istore_n (lv' := [(3, .int 0), (2, .int (if (ct (ct V 1 0 (U 1 0) 4) 2 0 (U 2 0) 4) 0 0 5 < U 0 0 5 then U 0 0 5 else (ct (ct V 1 0 (U 1 0) 4) 2 0 (U 2 0) 4) 0 0 5)), (0, .ref (ad w 0 0)), (1, .ref (ad w' 0 0))]) hx hb dX5_copyFrom_41 rfl hl (by decide) rfl (fun ls hl => ?_)
  exact l_X5_copyFrom_42 X hw hw' hww  30 _ _ _ hP hS (lv_sub hl [2, 3, 1, 0] rfl) hF
end
