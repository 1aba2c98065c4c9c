/-! names: the rows of objects and their fields, the methods, the words that the tables give; written by a program of mine out of the Statement -/
def RAi : String := "WakingPagers$Air"
def TAi : u_T := fun k => match k with
  | 0 => ("WakingPagers$Air", "words", "[I", true)
  | _ => ("WakingPagers$Air", "bitCount", "I", false)
def tyAi : Nat → FieldType := fun k => match k with
  | 0 => .array .int
  | _ => .int
theorem nmAi : ∀ a, a < 2 → ∀ b, b < 2 → a ≠ b → (TAi a).2.1 ≠ (TAi b).2.1 := by decide +kernel
theorem okAi : ∀ k, k < 2 → parseFieldDescriptor (TAi k).2.2.1 = some (tyAi k) := by decide +kernel
def RHd : String := "WakingPagers$Heard"
def THd : u_T := fun k => match k with
  | 0 => ("WakingPagers$Heard", "identity", "LWakingPagers$Identity;", true)
  | 1 => ("WakingPagers$Heard", "gaps", "J", false)
  | _ => ("WakingPagers$Heard", "latest", "I", false)
def tyHd : Nat → FieldType := fun k => match k with
  | 0 => .object "WakingPagers$Identity"
  | 1 => .long
  | _ => .int
theorem nmHd : ∀ a, a < 3 → ∀ b, b < 3 → a ≠ b → (THd a).2.1 ≠ (THd b).2.1 := by decide +kernel
theorem okHd : ∀ k, k < 3 → parseFieldDescriptor (THd k).2.2.1 = some (tyHd k) := by decide +kernel
def RId : String := "WakingPagers$Identity"
def TId : u_T := fun k => match k with
  | 0 => ("WakingPagers$Identity", "index", "I", true)
  | 1 => ("WakingPagers$Identity", "address", "I", true)
  | 2 => ("WakingPagers$Identity", "isText", "Z", true)
  | 3 => ("WakingPagers$Identity", "frame", "I", true)
  | 4 => ("WakingPagers$Identity", "addressWord", "I", true)
  | 5 => ("WakingPagers$Identity", "leastSign", "I", true)
  | 6 => ("WakingPagers$Identity", "greatestSign", "I", true)
  | 7 => ("WakingPagers$Identity", "signBits", "I", true)
  | 8 => ("WakingPagers$Identity", "filler", "I", true)
  | 9 => ("WakingPagers$Identity", "called", "I", false)
  | _ => ("WakingPagers$Identity", "nextPlace", "I", false)
def tyId : Nat → FieldType := fun k => match k with
  | 0 => .int
  | 1 => .int
  | 2 => .boolean
  | 3 => .int
  | 4 => .int
  | 5 => .int
  | 6 => .int
  | 7 => .int
  | 8 => .int
  | 9 => .int
  | _ => .int
theorem nmId : ∀ a, a < 11 → ∀ b, b < 11 → a ≠ b → (TId a).2.1 ≠ (TId b).2.1 := by decide +kernel
theorem okId : ∀ k, k < 11 → parseFieldDescriptor (TId k).2.2.1 = some (tyId k) := by decide +kernel
def RLy : String := "WakingPagers$Layout"
def TLy : u_T := fun k => match k with
  | 0 => ("WakingPagers$Layout", "places", "[I", true)
  | _ => ("WakingPagers$Layout", "placeCount", "I", false)
def tyLy : Nat → FieldType := fun k => match k with
  | 0 => .array .int
  | _ => .int
theorem nmLy : ∀ a, a < 2 → ∀ b, b < 2 → a ≠ b → (TLy a).2.1 ≠ (TLy b).2.1 := by decide +kernel
theorem okLy : ∀ k, k < 2 → parseFieldDescriptor (TLy k).2.2.1 = some (tyLy k) := by decide +kernel
def RLs : String := "WakingPagers$Listener"
def TLs : u_T := fun k => match k with
  | 0 => ("WakingPagers$Listener", "air", "LWakingPagers$Air;", false)
  | 1 => ("WakingPagers$Listener", "pager", "LWakingPagers$Pager;", false)
  | 2 => ("WakingPagers$Listener", "storedNow", "I", false)
  | 3 => ("WakingPagers$Listener", "running", "LWakingPagers$Heard;", false)
  | 4 => ("WakingPagers$Listener", "signs", "[I", true)
  | 5 => ("WakingPagers$Listener", "signCount", "I", false)
  | 6 => ("WakingPagers$Listener", "partOfSign", "I", false)
  | _ => ("WakingPagers$Listener", "partBits", "I", false)
def tyLs : Nat → FieldType := fun k => match k with
  | 0 => .object "WakingPagers$Air"
  | 1 => .object "WakingPagers$Pager"
  | 2 => .int
  | 3 => .object "WakingPagers$Heard"
  | 4 => .array .int
  | 5 => .int
  | 6 => .int
  | _ => .int
theorem nmLs : ∀ a, a < 8 → ∀ b, b < 8 → a ≠ b → (TLs a).2.1 ≠ (TLs b).2.1 := by decide +kernel
theorem okLs : ∀ k, k < 8 → parseFieldDescriptor (TLs k).2.2.1 = some (tyLs k) := by decide +kernel
def RMs : String := "WakingPagers$Message"
def TMs : u_T := fun k => match k with
  | 0 => ("WakingPagers$Message", "to", "LWakingPagers$Identity;", true)
  | 1 => ("WakingPagers$Message", "priority", "I", true)
  | 2 => ("WakingPagers$Message", "number", "I", true)
  | 3 => ("WakingPagers$Message", "signs", "[I", true)
  | 4 => ("WakingPagers$Message", "words", "[I", true)
  | _ => ("WakingPagers$Message", "waits", "Z", false)
def tyMs : Nat → FieldType := fun k => match k with
  | 0 => .object "WakingPagers$Identity"
  | 1 => .int
  | 2 => .int
  | 3 => .array .int
  | 4 => .array .int
  | _ => .boolean
theorem nmMs : ∀ a, a < 6 → ∀ b, b < 6 → a ≠ b → (TMs a).2.1 ≠ (TMs b).2.1 := by decide +kernel
theorem okMs : ∀ k, k < 6 → parseFieldDescriptor (TMs k).2.2.1 = some (tyMs k) := by decide +kernel
def RPg : String := "WakingPagers$Pager"
def TPg : u_T := fun k => match k with
  | 0 => ("WakingPagers$Pager", "heard", "[LWakingPagers$Heard;", true)
  | 1 => ("WakingPagers$Pager", "heardCount", "I", false)
  | 2 => ("WakingPagers$Pager", "ring", "[LWakingPagers$Stored;", true)
  | 3 => ("WakingPagers$Pager", "oldest", "I", false)
  | 4 => ("WakingPagers$Pager", "storedCount", "I", false)
  | 5 => ("WakingPagers$Pager", "bitsAwake", "I", false)
  | 6 => ("WakingPagers$Pager", "bitsRepaired", "I", false)
  | 7 => ("WakingPagers$Pager", "wordsBroken", "I", false)
  | _ => ("WakingPagers$Pager", "messagesLost", "I", false)
def tyPg : Nat → FieldType := fun k => match k with
  | 0 => .array (.object "WakingPagers$Heard")
  | 1 => .int
  | 2 => .array (.object "WakingPagers$Stored")
  | 3 => .int
  | 4 => .int
  | 5 => .int
  | 6 => .int
  | 7 => .int
  | _ => .int
theorem nmPg : ∀ a, a < 9 → ∀ b, b < 9 → a ≠ b → (TPg a).2.1 ≠ (TPg b).2.1 := by decide +kernel
theorem okPg : ∀ k, k < 9 → parseFieldDescriptor (TPg k).2.2.1 = some (tyPg k) := by decide +kernel
def RSd : String := "WakingPagers$Stored"
def TSd : u_T := fun k => match k with
  | 0 => ("WakingPagers$Stored", "identity", "I", false)
  | 1 => ("WakingPagers$Stored", "number", "I", false)
  | 2 => ("WakingPagers$Stored", "marked", "Z", false)
  | 3 => ("WakingPagers$Stored", "signs", "[I", true)
  | _ => ("WakingPagers$Stored", "signCount", "I", false)
def tySd : Nat → FieldType := fun k => match k with
  | 0 => .int
  | 1 => .int
  | 2 => .boolean
  | 3 => .array .int
  | _ => .int
theorem nmSd : ∀ a, a < 5 → ∀ b, b < 5 → a ≠ b → (TSd a).2.1 ≠ (TSd b).2.1 := by decide +kernel
theorem okSd : ∀ k, k < 5 → parseFieldDescriptor (TSd k).2.2.1 = some (tySd k) := by decide +kernel
def RWP : String := "WakingPagers"
def TWP : u_T := fun k => match k with
  | 0 => ("WakingPagers", "identities", "[LWakingPagers$Identity;", true)
  | 1 => ("WakingPagers", "identityCount", "I", false)
  | 2 => ("WakingPagers", "pagers", "[LWakingPagers$Pager;", true)
  | 3 => ("WakingPagers", "pagerCount", "I", false)
  | 4 => ("WakingPagers", "messages", "[LWakingPagers$Message;", true)
  | 5 => ("WakingPagers", "messageCount", "I", false)
  | 6 => ("WakingPagers", "waitingCount", "I", false)
  | 7 => ("WakingPagers", "loaded", "[I", true)
  | 8 => ("WakingPagers", "loadedCount", "I", false)
  | 9 => ("WakingPagers", "layout", "LWakingPagers$Layout;", true)
  | 10 => ("WakingPagers", "air", "LWakingPagers$Air;", true)
  | _ => ("WakingPagers", "listener", "LWakingPagers$Listener;", true)
def tyWP : Nat → FieldType := fun k => match k with
  | 0 => .array (.object "WakingPagers$Identity")
  | 1 => .int
  | 2 => .array (.object "WakingPagers$Pager")
  | 3 => .int
  | 4 => .array (.object "WakingPagers$Message")
  | 5 => .int
  | 6 => .int
  | 7 => .array .int
  | 8 => .int
  | 9 => .object "WakingPagers$Layout"
  | 10 => .object "WakingPagers$Air"
  | _ => .object "WakingPagers$Listener"
theorem nmWP : ∀ a, a < 12 → ∀ b, b < 12 → a ≠ b → (TWP a).2.1 ≠ (TWP b).2.1 := by decide +kernel
theorem okWP : ∀ k, k < 12 → parseFieldDescriptor (TWP k).2.2.1 = some (tyWP k) := by decide +kernel
def RMo : String := "WakingPagersModel"
def TMo : u_T := fun k => match k with
  | 0 => ("WakingPagersModel", "many", "I", false)
  | 1 => ("WakingPagersModel", "address", "[I", true)
  | 2 => ("WakingPagersModel", "kind", "[I", true)
  | 3 => ("WakingPagersModel", "called", "[I", true)
  | 4 => ("WakingPagersModel", "messages", "I", false)
  | 5 => ("WakingPagersModel", "to", "[I", true)
  | 6 => ("WakingPagersModel", "priority", "[I", true)
  | 7 => ("WakingPagersModel", "numbers", "[I", true)
  | 8 => ("WakingPagersModel", "lengths", "[I", true)
  | 9 => ("WakingPagersModel", "signs", "[I", true)
  | 10 => ("WakingPagersModel", "waits", "[Z", true)
  | 11 => ("WakingPagersModel", "loaded", "[I", true)
  | 12 => ("WakingPagersModel", "loads", "I", false)
  | 13 => ("WakingPagersModel", "words", "[I", true)
  | 14 => ("WakingPagersModel", "taken", "[Z", true)
  | 15 => ("WakingPagersModel", "air", "[I", true)
  | 16 => ("WakingPagersModel", "bits", "I", false)
  | 17 => ("WakingPagersModel", "content", "I", false)
  | 18 => ("WakingPagersModel", "filled", "I", false)
  | 19 => ("WakingPagersModel", "pagers", "I", false)
  | 20 => ("WakingPagersModel", "hears", "[I", true)
  | 21 => ("WakingPagersModel", "heard", "[I", true)
  | 22 => ("WakingPagersModel", "kept", "[I", true)
  | 23 => ("WakingPagersModel", "keptOf", "[I", true)
  | 24 => ("WakingPagersModel", "keptNumber", "[I", true)
  | 25 => ("WakingPagersModel", "keptMany", "[I", true)
  | 26 => ("WakingPagersModel", "marked", "[Z", true)
  | 27 => ("WakingPagersModel", "keptSigns", "[I", true)
  | 28 => ("WakingPagersModel", "missing", "[J", true)
  | 29 => ("WakingPagersModel", "latest", "[I", true)
  | 30 => ("WakingPagersModel", "counts", "[I", true)
  | 31 => ("WakingPagersModel", "who", "I", false)
  | 32 => ("WakingPagersModel", "running", "I", false)
  | 33 => ("WakingPagersModel", "got", "[I", true)
  | 34 => ("WakingPagersModel", "gotMany", "I", false)
  | 35 => ("WakingPagersModel", "fresh", "I", false)
  | _ => ("WakingPagersModel", "end", "[I", true)
def tyMo : Nat → FieldType := fun k => match k with
  | 0 => .int
  | 1 => .array .int
  | 2 => .array .int
  | 3 => .array .int
  | 4 => .int
  | 5 => .array .int
  | 6 => .array .int
  | 7 => .array .int
  | 8 => .array .int
  | 9 => .array .int
  | 10 => .array .boolean
  | 11 => .array .int
  | 12 => .int
  | 13 => .array .int
  | 14 => .array .boolean
  | 15 => .array .int
  | 16 => .int
  | 17 => .int
  | 18 => .int
  | 19 => .int
  | 20 => .array .int
  | 21 => .array .int
  | 22 => .array .int
  | 23 => .array .int
  | 24 => .array .int
  | 25 => .array .int
  | 26 => .array .boolean
  | 27 => .array .int
  | 28 => .array .long
  | 29 => .array .int
  | 30 => .array .int
  | 31 => .int
  | 32 => .int
  | 33 => .array .int
  | 34 => .int
  | 35 => .int
  | _ => .array .int
theorem nmMo : ∀ a, a < 37 → ∀ b, b < 37 → a ≠ b → (TMo a).2.1 ≠ (TMo b).2.1 := by decide +kernel
theorem okMo : ∀ k, k < 37 → parseFieldDescriptor (TMo k).2.2.1 = some (tyMo k) := by decide +kernel
abbrev vwCl : List vw_C := [(RAi, TAi, 2), (RHd, THd, 3), (RId, TId, 11), (RLy, TLy, 2), (RLs, TLs, 8), (RMs, TMs, 6), (RPg, TPg, 9), (RSd, TSd, 5), (RWP, TWP, 12), (RMo, TMo, 37)]
theorem hc_0 : vwCl[0]? = some (RAi, TAi, 2) := rfl
theorem hc_1 : vwCl[1]? = some (RHd, THd, 3) := rfl
theorem hc_2 : vwCl[2]? = some (RId, TId, 11) := rfl
theorem hc_3 : vwCl[3]? = some (RLy, TLy, 2) := rfl
theorem hc_4 : vwCl[4]? = some (RLs, TLs, 8) := rfl
theorem hc_5 : vwCl[5]? = some (RMs, TMs, 6) := rfl
theorem hc_6 : vwCl[6]? = some (RPg, TPg, 9) := rfl
theorem hc_7 : vwCl[7]? = some (RSd, TSd, 5) := rfl
theorem hc_8 : vwCl[8]? = some (RWP, TWP, 12) := rfl
theorem hc_9 : vwCl[9]? = some (RMo, TMo, 37) := rfl
def zw_rl : List Nat := [1, 2, 5, 6, 7]
def za_L : List String := [RHd, RId, RMs, RPg, RSd]
theorem za_1 : RHd ∈ za_L := List.mem_of_getElem? (i := 0) rfl
theorem za_2 : RId ∈ za_L := List.mem_of_getElem? (i := 1) rfl
theorem za_5 : RMs ∈ za_L := List.mem_of_getElem? (i := 2) rfl
theorem za_6 : RPg ∈ za_L := List.mem_of_getElem? (i := 3) rfl
theorem za_7 : RSd ∈ za_L := List.mem_of_getElem? (i := 4) rfl
abbrev cWP_init : ByteArray := prog_1_method_1_code
def yWP_init : MethodName := ⟨RWP, "<init>", "()V"⟩
abbrev cWP_areLoadedSignsOf : ByteArray := prog_1_method_25_code
def yWP_areLoadedSignsOf : MethodName := ⟨RWP, "areLoadedSignsOf", "(LWakingPagers$Identity;)Z"⟩
abbrev cWP_bit : ByteArray := prog_1_method_12_code
def yWP_bit : MethodName := ⟨RWP, "bit", "(I)I"⟩
abbrev cWP_byteOf : ByteArray := prog_1_method_27_code
def yWP_byteOf : MethodName := ⟨RWP, "byteOf", "(JI)I"⟩
abbrev cWP_call : ByteArray := prog_1_method_9_code
def yWP_call : MethodName := ⟨RWP, "call", "(II)I"⟩
abbrev cWP_code : ByteArray := prog_1_method_2_code
def yWP_code : MethodName := ⟨RWP, "code", "(I)I"⟩
abbrev cWP_codewordOf : ByteArray := prog_1_method_28_code
def yWP_codewordOf : MethodName := ⟨RWP, "codewordOf", "(I)I"⟩
abbrev cWP_count : ByteArray := prog_1_method_19_code
def yWP_count : MethodName := ⟨RWP, "count", "(II)I"⟩
abbrev cWP_desk : ByteArray := prog_1_method_20_code
def yWP_desk : MethodName := ⟨RWP, "desk", "(III)I"⟩
abbrev cWP_flip : ByteArray := prog_1_method_13_code
def yWP_flip : MethodName := ⟨RWP, "flip", "(I)I"⟩
abbrev cWP_hear : ByteArray := prog_1_method_14_code
def yWP_hear : MethodName := ⟨RWP, "hear", "(II)I"⟩
abbrev cWP_identity : ByteArray := prog_1_method_4_code
def yWP_identity : MethodName := ⟨RWP, "identity", "(II)I"⟩
abbrev cWP_identityAt : ByteArray := prog_1_method_21_code
def yWP_identityAt : MethodName := ⟨RWP, "identityAt", "(I)LWakingPagers$Identity;"⟩
abbrev cWP_isAddressUsed : ByteArray := prog_1_method_24_code
def yWP_isAddressUsed : MethodName := ⟨RWP, "isAddressUsed", "(I)Z"⟩
abbrev cWP_isSync : ByteArray := prog_1_method_29_code
def yWP_isSync : MethodName := ⟨RWP, "isSync", "(I)Z"⟩
abbrev cWP_join : ByteArray := prog_1_method_6_code
def yWP_join : MethodName := ⟨RWP, "join", "(II)I"⟩
abbrev cWP_kept : ByteArray := prog_1_method_15_code
def yWP_kept : MethodName := ⟨RWP, "kept", "(I)I"⟩
abbrev cWP_layMessages : ByteArray := prog_1_method_26_code
def yWP_layMessages : MethodName := ⟨RWP, "layMessages", "(I)V"⟩
abbrev cWP_load : ByteArray := prog_1_method_7_code
def yWP_load : MethodName := ⟨RWP, "load", "(JI)I"⟩
abbrev cWP_message : ByteArray := prog_1_method_16_code
def yWP_message : MethodName := ⟨RWP, "message", "(III)I"⟩
abbrev cWP_missed : ByteArray := prog_1_method_18_code
def yWP_missed : MethodName := ⟨RWP, "missed", "(II)J"⟩
abbrev cWP_pager : ByteArray := prog_1_method_5_code
def yWP_pager : MethodName := ⟨RWP, "pager", "()I"⟩
abbrev cWP_pagerAt : ByteArray := prog_1_method_22_code
def yWP_pagerAt : MethodName := ⟨RWP, "pagerAt", "(I)LWakingPagers$Pager;"⟩
abbrev cWP_repair : ByteArray := prog_1_method_3_code
def yWP_repair : MethodName := ⟨RWP, "repair", "(I)I"⟩
abbrev cWP_sign : ByteArray := prog_1_method_17_code
def yWP_sign : MethodName := ⟨RWP, "sign", "(III)I"⟩
abbrev cWP_storedAt : ByteArray := prog_1_method_23_code
def yWP_storedAt : MethodName := ⟨RWP, "storedAt", "(II)LWakingPagers$Stored;"⟩
abbrev cWP_transmit : ByteArray := prog_1_method_11_code
def yWP_transmit : MethodName := ⟨RWP, "transmit", "(I)I"⟩
abbrev cWP_unload : ByteArray := prog_1_method_8_code
def yWP_unload : MethodName := ⟨RWP, "unload", "()I"⟩
abbrev cWP_waiting : ByteArray := prog_1_method_10_code
def yWP_waiting : MethodName := ⟨RWP, "waiting", "()I"⟩
abbrev cAi_init : ByteArray := prog_2_method_1_code
def yAi_init : MethodName := ⟨RAi, "<init>", "()V"⟩
abbrev cAi_bitAt : ByteArray := prog_2_method_5_code
def yAi_bitAt : MethodName := ⟨RAi, "bitAt", "(I)I"⟩
abbrev cAi_changeBit : ByteArray := prog_2_method_6_code
def yAi_changeBit : MethodName := ⟨RAi, "changeBit", "(I)V"⟩
abbrev cAi_hasBit : ByteArray := prog_2_method_3_code
def yAi_hasBit : MethodName := ⟨RAi, "hasBit", "(I)Z"⟩
abbrev cAi_hasWord : ByteArray := prog_2_method_4_code
def yAi_hasWord : MethodName := ⟨RAi, "hasWord", "(I)Z"⟩
abbrev cAi_send : ByteArray := prog_2_method_2_code
def yAi_send : MethodName := ⟨RAi, "send", "([II)V"⟩
abbrev cAi_wordAt : ByteArray := prog_2_method_7_code
def yAi_wordAt : MethodName := ⟨RAi, "wordAt", "(I)I"⟩
abbrev cHd_init : ByteArray := prog_3_method_1_code
def yHd_init : MethodName := ⟨RHd, "<init>", "(LWakingPagers$Identity;)V"⟩
abbrev cHd_noteNumber : ByteArray := prog_3_method_2_code
def yHd_noteNumber : MethodName := ⟨RHd, "noteNumber", "(I)V"⟩
abbrev cId_init : ByteArray := prog_4_method_1_code
def yId_init : MethodName := ⟨RId, "<init>", "(III)V"⟩
abbrev cId_decimal : ByteArray := prog_4_method_5_code
def yId_decimal : MethodName := ⟨RId, "decimal", "(II)I"⟩
abbrev cId_numberIn : ByteArray := prog_4_method_4_code
def yId_numberIn : MethodName := ⟨RId, "numberIn", "([II)I"⟩
abbrev cId_numberSign : ByteArray := prog_4_method_3_code
def yId_numberSign : MethodName := ⟨RId, "numberSign", "(II)I"⟩
abbrev cId_numberSigns : ByteArray := prog_4_method_2_code
def yId_numberSigns : MethodName := ⟨RId, "numberSigns", "()I"⟩
abbrev cLy_init : ByteArray := prog_5_method_1_code
def yLy_init : MethodName := ⟨RLy, "<init>", "()V"⟩
abbrev cLy_areFree : ByteArray := prog_5_method_5_code
def yLy_areFree : MethodName := ⟨RLy, "areFree", "(II)Z"⟩
abbrev cLy_clear : ByteArray := prog_5_method_2_code
def yLy_clear : MethodName := ⟨RLy, "clear", "(I)V"⟩
abbrev cLy_findPlace : ByteArray := prog_5_method_4_code
def yLy_findPlace : MethodName := ⟨RLy, "findPlace", "(LWakingPagers$Identity;I)I"⟩
abbrev cLy_lay : ByteArray := prog_5_method_3_code
def yLy_lay : MethodName := ⟨RLy, "lay", "(LWakingPagers$Message;)Z"⟩
abbrev cLs_init : ByteArray := prog_6_method_1_code
def yLs_init : MethodName := ⟨RLs, "<init>", "()V"⟩
abbrev cLs_addContent : ByteArray := prog_6_method_8_code
def yLs_addContent : MethodName := ⟨RLs, "addContent", "(I)V"⟩
abbrev cLs_addSign : ByteArray := prog_6_method_9_code
def yLs_addSign : MethodName := ⟨RLs, "addSign", "(I)V"⟩
abbrev cLs_beginMessage : ByteArray := prog_6_method_7_code
def yLs_beginMessage : MethodName := ⟨RLs, "beginMessage", "(LWakingPagers$Heard;)V"⟩
abbrev cLs_endMessage : ByteArray := prog_6_method_10_code
def yLs_endMessage : MethodName := ⟨RLs, "endMessage", "(Z)V"⟩
abbrev cLs_hunt : ByteArray := prog_6_method_3_code
def yLs_hunt : MethodName := ⟨RLs, "hunt", "(I)I"⟩
abbrev cLs_listen : ByteArray := prog_6_method_2_code
def yLs_listen : MethodName := ⟨RLs, "listen", "(LWakingPagers$Pager;LWakingPagers$Air;I)I"⟩
abbrev cLs_store : ByteArray := prog_6_method_11_code
def yLs_store : MethodName := ⟨RLs, "store", "(IZ)V"⟩
abbrev cLs_takeBatch : ByteArray := prog_6_method_4_code
def yLs_takeBatch : MethodName := ⟨RLs, "takeBatch", "(I)I"⟩
abbrev cLs_takeSync : ByteArray := prog_6_method_5_code
def yLs_takeSync : MethodName := ⟨RLs, "takeSync", "(I)I"⟩
abbrev cLs_takeWord : ByteArray := prog_6_method_6_code
def yLs_takeWord : MethodName := ⟨RLs, "takeWord", "(II)V"⟩
abbrev cMs_init : ByteArray := prog_7_method_1_code
def yMs_init : MethodName := ⟨RMs, "<init>", "(LWakingPagers$Identity;II[I)V"⟩
abbrev cMs_sentSign : ByteArray := prog_7_method_3_code
def yMs_sentSign : MethodName := ⟨RMs, "sentSign", "(ILWakingPagers$Identity;I[I)I"⟩
abbrev cMs_wordsOf : ByteArray := prog_7_method_2_code
def yMs_wordsOf : MethodName := ⟨RMs, "wordsOf", "(LWakingPagers$Identity;I[I)[I"⟩
abbrev cPg_init : ByteArray := prog_8_method_1_code
def yPg_init : MethodName := ⟨RPg, "<init>", "()V"⟩
abbrev cPg_addHeard : ByteArray := prog_8_method_2_code
def yPg_addHeard : MethodName := ⟨RPg, "addHeard", "(LWakingPagers$Identity;)Z"⟩
abbrev cPg_calledBy : ByteArray := prog_8_method_5_code
def yPg_calledBy : MethodName := ⟨RPg, "calledBy", "(II)LWakingPagers$Heard;"⟩
abbrev cPg_hasFrame : ByteArray := prog_8_method_4_code
def yPg_hasFrame : MethodName := ⟨RPg, "hasFrame", "(I)Z"⟩
abbrev cPg_heardOf : ByteArray := prog_8_method_3_code
def yPg_heardOf : MethodName := ⟨RPg, "heardOf", "(I)LWakingPagers$Heard;"⟩
abbrev cPg_nextStored : ByteArray := prog_8_method_7_code
def yPg_nextStored : MethodName := ⟨RPg, "nextStored", "()LWakingPagers$Stored;"⟩
abbrev cPg_storedAt : ByteArray := prog_8_method_6_code
def yPg_storedAt : MethodName := ⟨RPg, "storedAt", "(I)LWakingPagers$Stored;"⟩
abbrev cRp_oneWrongBit : ByteArray := prog_9_method_5_code
def yRp_oneWrongBit : MethodName := ⟨"WakingPagers$Repairer", "oneWrongBit", "(I)I"⟩
abbrev cRp_remainder : ByteArray := prog_9_method_2_code
def yRp_remainder : MethodName := ⟨"WakingPagers$Repairer", "remainder", "(I)I"⟩
abbrev cRp_traceOf : ByteArray := prog_9_method_3_code
def yRp_traceOf : MethodName := ⟨"WakingPagers$Repairer", "traceOf", "(I)I"⟩
abbrev cRp_twoWrongBits : ByteArray := prog_9_method_6_code
def yRp_twoWrongBits : MethodName := ⟨"WakingPagers$Repairer", "twoWrongBits", "(I)I"⟩
abbrev cRp_wrongBits : ByteArray := prog_9_method_4_code
def yRp_wrongBits : MethodName := ⟨"WakingPagers$Repairer", "wrongBits", "(I)I"⟩
abbrev cSd_init : ByteArray := prog_10_method_1_code
def ySd_init : MethodName := ⟨RSd, "<init>", "()V"⟩
abbrev cMo_init : ByteArray := prog_12_method_1_code
def yMo_init : MethodName := ⟨RMo, "<init>", "()V"⟩
abbrev cMo_add : ByteArray := prog_12_method_36_code
def yMo_add : MethodName := ⟨RMo, "add", "(I)V"⟩
abbrev cMo_addressData : ByteArray := prog_12_method_17_code
def yMo_addressData : MethodName := ⟨RMo, "addressData", "(I)I"⟩
abbrev cMo_batches : ByteArray := prog_12_method_39_code
def yMo_batches : MethodName := ⟨RMo, "batches", "(I)I"⟩
abbrev cMo_bit : ByteArray := prog_12_method_26_code
def yMo_bit : MethodName := ⟨RMo, "bit", "(I)I"⟩
abbrev cMo_call : ByteArray := prog_12_method_16_code
def yMo_call : MethodName := ⟨RMo, "call", "(II)I"⟩
abbrev cMo_code : ByteArray := prog_12_method_3_code
def yMo_code : MethodName := ⟨RMo, "code", "(I)I"⟩
abbrev cMo_codeword : ByteArray := prog_12_method_2_code
def yMo_codeword : MethodName := ⟨RMo, "codeword", "(I)I"⟩
abbrev cMo_count : ByteArray := prog_12_method_46_code
def yMo_count : MethodName := ⟨RMo, "count", "(II)I"⟩
abbrev cMo_desk : ByteArray := prog_12_method_47_code
def yMo_desk : MethodName := ⟨RMo, "desk", "(III)I"⟩
abbrev cMo_finish : ByteArray := prog_12_method_34_code
def yMo_finish : MethodName := ⟨RMo, "finish", "(Z)V"⟩
abbrev cMo_fits : ByteArray := prog_12_method_22_code
def yMo_fits : MethodName := ⟨RMo, "fits", "(III)Z"⟩
abbrev cMo_flip : ByteArray := prog_12_method_27_code
def yMo_flip : MethodName := ⟨RMo, "flip", "(I)I"⟩
abbrev cMo_gotSign : ByteArray := prog_12_method_30_code
def yMo_gotSign : MethodName := ⟨RMo, "gotSign", "(I)I"⟩
abbrev cMo_hear : ByteArray := prog_12_method_40_code
def yMo_hear : MethodName := ⟨RMo, "hear", "(II)I"⟩
abbrev cMo_identity : ByteArray := prog_12_method_7_code
def yMo_identity : MethodName := ⟨RMo, "identity", "(II)I"⟩
abbrev cMo_identityOf : ByteArray := prog_12_method_35_code
def yMo_identityOf : MethodName := ⟨RMo, "identityOf", "(II)I"⟩
abbrev cMo_isAwake : ByteArray := prog_12_method_38_code
def yMo_isAwake : MethodName := ⟨RMo, "isAwake", "(I)Z"⟩
abbrev cMo_isCodeword : ByteArray := prog_12_method_4_code
def yMo_isCodeword : MethodName := ⟨RMo, "isCodeword", "(I)Z"⟩
abbrev cMo_isIdentity : ByteArray := prog_12_method_10_code
def yMo_isIdentity : MethodName := ⟨RMo, "isIdentity", "(I)Z"⟩
abbrev cMo_isKept : ByteArray := prog_12_method_42_code
def yMo_isKept : MethodName := ⟨RMo, "isKept", "(II)Z"⟩
abbrev cMo_isPager : ByteArray := prog_12_method_9_code
def yMo_isPager : MethodName := ⟨RMo, "isPager", "(I)Z"⟩
abbrev cMo_isSync : ByteArray := prog_12_method_29_code
def yMo_isSync : MethodName := ⟨RMo, "isSync", "(I)Z"⟩
abbrev cMo_join : ByteArray := prog_12_method_12_code
def yMo_join : MethodName := ⟨RMo, "join", "(II)I"⟩
abbrev cMo_kept : ByteArray := prog_12_method_41_code
def yMo_kept : MethodName := ⟨RMo, "kept", "(I)I"⟩
abbrev cMo_lay : ByteArray := prog_12_method_23_code
def yMo_lay : MethodName := ⟨RMo, "lay", "(III)I"⟩
abbrev cMo_layAt : ByteArray := prog_12_method_21_code
def yMo_layAt : MethodName := ⟨RMo, "layAt", "(II)V"⟩
abbrev cMo_listensTo : ByteArray := prog_12_method_11_code
def yMo_listensTo : MethodName := ⟨RMo, "listensTo", "(II)Z"⟩
abbrev cMo_load : ByteArray := prog_12_method_13_code
def yMo_load : MethodName := ⟨RMo, "load", "(JI)I"⟩
abbrev cMo_look : ByteArray := prog_12_method_37_code
def yMo_look : MethodName := ⟨RMo, "look", "(II)V"⟩
abbrev cMo_message : ByteArray := prog_12_method_43_code
def yMo_message : MethodName := ⟨RMo, "message", "(III)I"⟩
abbrev cMo_missed : ByteArray := prog_12_method_45_code
def yMo_missed : MethodName := ⟨RMo, "missed", "(II)J"⟩
abbrev cMo_note : ByteArray := prog_12_method_33_code
def yMo_note : MethodName := ⟨RMo, "note", "(I)V"⟩
abbrev cMo_numberOf : ByteArray := prog_12_method_31_code
def yMo_numberOf : MethodName := ⟨RMo, "numberOf", "(I)I"⟩
abbrev cMo_onesOf : ByteArray := prog_12_method_5_code
def yMo_onesOf : MethodName := ⟨RMo, "onesOf", "(I)I"⟩
abbrev cMo_outBit : ByteArray := prog_12_method_20_code
def yMo_outBit : MethodName := ⟨RMo, "outBit", "(II)I"⟩
abbrev cMo_outgoing : ByteArray := prog_12_method_19_code
def yMo_outgoing : MethodName := ⟨RMo, "outgoing", "(II)I"⟩
abbrev cMo_pager : ByteArray := prog_12_method_8_code
def yMo_pager : MethodName := ⟨RMo, "pager", "()I"⟩
abbrev cMo_repair : ByteArray := prog_12_method_6_code
def yMo_repair : MethodName := ⟨RMo, "repair", "(I)I"⟩
abbrev cMo_room : ByteArray := prog_12_method_32_code
def yMo_room : MethodName := ⟨RMo, "room", "()I"⟩
abbrev cMo_send : ByteArray := prog_12_method_24_code
def yMo_send : MethodName := ⟨RMo, "send", "(I)V"⟩
abbrev cMo_sign : ByteArray := prog_12_method_44_code
def yMo_sign : MethodName := ⟨RMo, "sign", "(III)I"⟩
abbrev cMo_transmit : ByteArray := prog_12_method_25_code
def yMo_transmit : MethodName := ⟨RMo, "transmit", "(I)I"⟩
abbrev cMo_unload : ByteArray := prog_12_method_14_code
def yMo_unload : MethodName := ⟨RMo, "unload", "()I"⟩
abbrev cMo_waiting : ByteArray := prog_12_method_15_code
def yMo_waiting : MethodName := ⟨RMo, "waiting", "()I"⟩
abbrev cMo_wordAt : ByteArray := prog_12_method_28_code
def yMo_wordAt : MethodName := ⟨RMo, "wordAt", "(I)I"⟩
abbrev cMo_wordsOf : ByteArray := prog_12_method_18_code
def yMo_wordsOf : MethodName := ⟨RMo, "wordsOf", "(I)I"⟩
abbrev cIn_bitCount : ByteArray := prog_14_method_49_code
def yIn_bitCount : MethodName := ⟨"java/lang/Integer", "bitCount", "(I)I"⟩
abbrev cMa_floorMod : ByteArray := prog_15_method_50_code
def yMa_floorMod : MethodName := ⟨"java/lang/Math", "floorMod", "(II)I"⟩
abbrev cMa_min : ByteArray := prog_15_method_69_code
def yMa_min : MethodName := ⟨"java/lang/Math", "min", "(II)I"⟩
abbrev cAr_copyOf : ByteArray := prog_17_method_123_code
def yAr_copyOf : MethodName := ⟨"java/util/Arrays", "copyOf", "([II)[I"⟩
abbrev cAr_fill : ByteArray := prog_17_method_103_code
def yAr_fill : MethodName := ⟨"java/util/Arrays", "fill", "([II)V"⟩
def zn_L : List (String × Nat × MethodName × String) := [(RWP, 49, yLy_init, RWP), (RWP, 56, yAi_init, RWP), (RWP, 63, yLs_init, RWP), (RId, 31, yWP_codewordOf, RWP), (RPg, 43, ySd_init, RWP), (RMs, 54, yWP_codewordOf, RWP), (RLs, 71, yWP_isSync, RWP)]
theorem zn_0 : (RWP, 49, yLy_init, RWP) ∈ zn_L := List.mem_of_getElem? (i := 0) rfl
theorem zn_1 : (RWP, 56, yAi_init, RWP) ∈ zn_L := List.mem_of_getElem? (i := 1) rfl
theorem zn_2 : (RWP, 63, yLs_init, RWP) ∈ zn_L := List.mem_of_getElem? (i := 2) rfl
theorem zn_3 : (RId, 31, yWP_codewordOf, RWP) ∈ zn_L := List.mem_of_getElem? (i := 3) rfl
theorem zn_4 : (RPg, 43, ySd_init, RWP) ∈ zn_L := List.mem_of_getElem? (i := 4) rfl
theorem zn_5 : (RMs, 54, yWP_codewordOf, RWP) ∈ zn_L := List.mem_of_getElem? (i := 5) rfl
theorem zn_6 : (RLs, 71, yWP_isSync, RWP) ∈ zn_L := List.mem_of_getElem? (i := 6) rfl
def zT : List Cond := lw_tbl.filter goodWord
theorem zt_mem {w : Cond} (i : Nat) (h : tables_1[i]? = some w) (hg : goodWord w = true) : w ∈ zT := List.mem_filter.mpr ⟨List.mem_append_right _ (List.mem_of_getElem? h), hg⟩
theorem zt_m1 {w : Cond} (i : Nat) (h : tables_1_1[i]? = some w) (hg : goodWord w = true) : w ∈ zT := List.mem_filter.mpr ⟨List.mem_append_right _ (List.mem_append_left _ (List.mem_of_getElem? h)), hg⟩
theorem zt_m2 {w : Cond} (i : Nat) (h : tables_1_2[i]? = some w) (hg : goodWord w = true) : w ∈ zT := List.mem_filter.mpr ⟨List.mem_append_right _ (List.mem_append_right _ (List.mem_append_left _ (List.mem_of_getElem? h))), hg⟩
theorem zt_m3 {w : Cond} (i : Nat) (h : tables_1_3[i]? = some w) (hg : goodWord w = true) : w ∈ zT := List.mem_filter.mpr ⟨List.mem_append_right _ (List.mem_append_right _ (List.mem_append_right _ (List.mem_append_left _ (List.mem_of_getElem? h)))), hg⟩
theorem zt_m4 {w : Cond} (i : Nat) (h : tables_1_4[i]? = some w) (hg : goodWord w = true) : w ∈ zT := List.mem_filter.mpr ⟨List.mem_append_right _ (List.mem_append_right _ (List.mem_append_right _ (List.mem_append_right _ (List.mem_of_getElem? h)))), hg⟩
theorem zt_sel {w : Cond} (i : Nat) (h : (k2_sels lw_privs)[i]? = some w) (hg : goodWord w = true) : w ∈ zT := List.mem_filter.mpr ⟨List.mem_append_left _ (List.mem_of_getElem? h), hg⟩
theorem zt_G {c : Cond} (h : c ∈ zT) : GoodIn zT (c :: zT) := by
  intro w hw
  have hz : w ∈ zT := by
    rcases List.mem_cons.mp hw with rfl | h1
    · exact h
    · exact h1
  exact ⟨hz, good_of_word (List.mem_filter.mp hz).2⟩
theorem zt_app {a b : List Cond} (ha : ∀ w ∈ a, w ∈ zT) (hb : GoodIn zT b) : GoodIn zT (a ++ b) := by
  intro w hw
  rcases List.mem_append.mp hw with h | h
  · exact ⟨ha w h, good_of_word (List.mem_filter.mp (ha w h)).2⟩
  · exact hb w h
theorem zt_S {own : String} {idx maxL : Nat} {y : MethodName} {b : ByteArray} {ret : Option FieldType} (h1 : Cond.methodLink own idx y ∈ zT) (h2 : Cond.static y ∈ zT) (h3 : Cond.initialized y.cls ∈ zT) (h4 : Cond.code y b maxL ret ∈ zT) : GoodIn zT (va_wsS own idx y (Cond.code y b maxL ret :: zT)) :=
  zt_app (List.forall_mem_cons.mpr ⟨h1, List.forall_mem_cons.mpr ⟨h2, List.forall_mem_cons.mpr ⟨h3, fun _ h => absurd h List.not_mem_nil⟩⟩⟩) (zt_G h4)
theorem zt_V {own C : String} {idx maxL : Nat} {y : MethodName} {b : ByteArray} {ret : Option FieldType} (h1 : Cond.methodLink own idx y ∈ zT) (h2 : Cond.instanceMethod y ∈ zT) (h5 : Cond.selects C y y ∈ zT) (h3 : Cond.initialized C ∈ zT) (h4 : Cond.code y b maxL ret ∈ zT) : GoodIn zT (wsV own idx C y (Cond.code y b maxL ret :: zT)) :=
  zt_app (List.forall_mem_cons.mpr ⟨h1, List.forall_mem_cons.mpr ⟨h2, List.forall_mem_cons.mpr ⟨h5, List.forall_mem_cons.mpr ⟨h3, fun _ h => absurd h List.not_mem_nil⟩⟩⟩⟩) (zt_G h4)
