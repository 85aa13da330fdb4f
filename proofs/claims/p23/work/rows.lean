section
/-- a private method of a class that the tables say can be made, by its rows of tables_1 -/
def lw_okq (q : MethodName × Nat) : Prop := (q.1.cls ≠ "java/lang/invoke/MethodHandle" ∧ q.1.cls ≠ "java/lang/invoke/VarHandle") ∧ Cond.instantiable q.1.cls q.2 ∈ tables_1 ∧ Cond.privateMethod q.1 ∈ tables_1 ∧ Cond.instanceMethod q.1 ∈ tables_1
theorem lw_p0 : lw_okq (⟨"CompositeDecoder$Picture", "noiseAt", "(II)I"⟩, 9) := ⟨⟨by decide +kernel, by decide +kernel⟩, List.mem_of_getElem? (i := 23) (by decide +kernel), List.mem_of_getElem? (i := 367) (by decide +kernel), List.mem_of_getElem? (i := 368) (by decide +kernel)⟩
theorem lw_p1 : lw_okq (⟨"CompositeDecoder$Picture", "levelAt", "(III)I"⟩, 9) := ⟨⟨by decide +kernel, by decide +kernel⟩, List.mem_of_getElem? (i := 23) (by decide +kernel), List.mem_of_getElem? (i := 374) (by decide +kernel), List.mem_of_getElem? (i := 375) (by decide +kernel)⟩
theorem lw_p2 : lw_okq (⟨"CompositeDecoder$Picture", "burstAt", "(II)I"⟩, 9) := ⟨⟨by decide +kernel, by decide +kernel⟩, List.mem_of_getElem? (i := 23) (by decide +kernel), List.mem_of_getElem? (i := 378) (by decide +kernel), List.mem_of_getElem? (i := 379) (by decide +kernel)⟩
theorem lw_p3 : lw_okq (⟨"CompositeDecoder$Picture", "signOf", "(I)I"⟩, 9) := ⟨⟨by decide +kernel, by decide +kernel⟩, List.mem_of_getElem? (i := 23) (by decide +kernel), List.mem_of_getElem? (i := 384) (by decide +kernel), List.mem_of_getElem? (i := 385) (by decide +kernel)⟩
theorem lw_p4 : lw_okq (⟨"CompositeDecoder$LineFinder", "steer", "(I)V"⟩, 8) := ⟨⟨by decide +kernel, by decide +kernel⟩, List.mem_of_getElem? (i := 111) (by decide +kernel), List.mem_of_getElem? (i := 403) (by decide +kernel), List.mem_of_getElem? (i := 404) (by decide +kernel)⟩
theorem lw_p5 : lw_okq (⟨"CompositeDecoder$Bursts", "sumUp", "(LCompositeDecoder$Signal;II)V"⟩, 6) := ⟨⟨by decide +kernel, by decide +kernel⟩, List.mem_of_getElem? (i := 146) (by decide +kernel), List.mem_of_getElem? (i := 419) (by decide +kernel), List.mem_of_getElem? (i := 420) (by decide +kernel)⟩
theorem lw_p6 : lw_okq (⟨"CompositeDecoder$Bursts", "countPair", "(II)V"⟩, 6) := ⟨⟨by decide +kernel, by decide +kernel⟩, List.mem_of_getElem? (i := 146) (by decide +kernel), List.mem_of_getElem? (i := 430) (by decide +kernel), List.mem_of_getElem? (i := 431) (by decide +kernel)⟩
theorem lw_p7 : lw_okq (⟨"CompositeDecoder$Combs", "sumUp", "(LCompositeDecoder$Signal;[I)V"⟩, 5) := ⟨⟨by decide +kernel, by decide +kernel⟩, List.mem_of_getElem? (i := 197) (by decide +kernel), List.mem_of_getElem? (i := 463) (by decide +kernel), List.mem_of_getElem? (i := 464) (by decide +kernel)⟩
theorem lw_p8 : lw_okq (⟨"CompositeDecoder$Combs", "wayFor", "(IIII)I"⟩, 5) := ⟨⟨by decide +kernel, by decide +kernel⟩, List.mem_of_getElem? (i := 197) (by decide +kernel), List.mem_of_getElem? (i := 472) (by decide +kernel), List.mem_of_getElem? (i := 473) (by decide +kernel)⟩
theorem lw_p9 : lw_okq (⟨"CompositeDecoder$Combs", "isNear", "(III)Z"⟩, 5) := ⟨⟨by decide +kernel, by decide +kernel⟩, List.mem_of_getElem? (i := 197) (by decide +kernel), List.mem_of_getElem? (i := 476) (by decide +kernel), List.mem_of_getElem? (i := 477) (by decide +kernel)⟩
theorem lw_p10 : lw_okq (⟨"CompositeDecoder$Combs", "splitSegment", "(LCompositeDecoder$Signal;[IIII)V"⟩, 5) := ⟨⟨by decide +kernel, by decide +kernel⟩, List.mem_of_getElem? (i := 197) (by decide +kernel), List.mem_of_getElem? (i := 482) (by decide +kernel), List.mem_of_getElem? (i := 483) (by decide +kernel)⟩
theorem lw_p11 : lw_okq (⟨"CompositeDecoder$Colors", "turnSegment", "(LCompositeDecoder$Combs;IFFZ)V"⟩, 4) := ⟨⟨by decide +kernel, by decide +kernel⟩, List.mem_of_getElem? (i := 223) (by decide +kernel), List.mem_of_getElem? (i := 503) (by decide +kernel), List.mem_of_getElem? (i := 504) (by decide +kernel)⟩
theorem lw_p12 : lw_okq (⟨"CompositeDecoder$Colors", "mixSegment", "(IZ)V"⟩, 4) := ⟨⟨by decide +kernel, by decide +kernel⟩, List.mem_of_getElem? (i := 223) (by decide +kernel), List.mem_of_getElem? (i := 509) (by decide +kernel), List.mem_of_getElem? (i := 510) (by decide +kernel)⟩
theorem lw_p13 : lw_okq (⟨"CompositeDecoder$Movement", "kindOf", "(II)I"⟩, 3) := ⟨⟨by decide +kernel, by decide +kernel⟩, List.mem_of_getElem? (i := 244) (by decide +kernel), List.mem_of_getElem? (i := 521) (by decide +kernel), List.mem_of_getElem? (i := 522) (by decide +kernel)⟩
theorem lw_p14 : lw_okq (⟨"CompositeDecoder$Movement", "hasChanged", "(II)Z"⟩, 3) := ⟨⟨by decide +kernel, by decide +kernel⟩, List.mem_of_getElem? (i := 244) (by decide +kernel), List.mem_of_getElem? (i := 525) (by decide +kernel), List.mem_of_getElem? (i := 526) (by decide +kernel)⟩
theorem lw_p15 : lw_okq (⟨"CompositeDecoder", "countOfNow", "(I)I"⟩, 11) := ⟨⟨by decide +kernel, by decide +kernel⟩, List.mem_of_getElem? (i := 15) (by decide +kernel), List.mem_of_getElem? (i := 557) (by decide +kernel), List.mem_of_getElem? (i := 558) (by decide +kernel)⟩
def lw_privs_1 : List (MethodName × Nat) := [(⟨"CompositeDecoder$Picture", "noiseAt", "(II)I"⟩, 9), (⟨"CompositeDecoder$Picture", "levelAt", "(III)I"⟩, 9), (⟨"CompositeDecoder$Picture", "burstAt", "(II)I"⟩, 9), (⟨"CompositeDecoder$Picture", "signOf", "(I)I"⟩, 9), (⟨"CompositeDecoder$LineFinder", "steer", "(I)V"⟩, 8), (⟨"CompositeDecoder$Bursts", "sumUp", "(LCompositeDecoder$Signal;II)V"⟩, 6), (⟨"CompositeDecoder$Bursts", "countPair", "(II)V"⟩, 6), (⟨"CompositeDecoder$Combs", "sumUp", "(LCompositeDecoder$Signal;[I)V"⟩, 5), (⟨"CompositeDecoder$Combs", "wayFor", "(IIII)I"⟩, 5), (⟨"CompositeDecoder$Combs", "isNear", "(III)Z"⟩, 5), (⟨"CompositeDecoder$Combs", "splitSegment", "(LCompositeDecoder$Signal;[IIII)V"⟩, 5), (⟨"CompositeDecoder$Colors", "turnSegment", "(LCompositeDecoder$Combs;IFFZ)V"⟩, 4), (⟨"CompositeDecoder$Colors", "mixSegment", "(IZ)V"⟩, 4), (⟨"CompositeDecoder$Movement", "kindOf", "(II)I"⟩, 3), (⟨"CompositeDecoder$Movement", "hasChanged", "(II)Z"⟩, 3), (⟨"CompositeDecoder", "countOfNow", "(I)I"⟩, 11)]
theorem lw_r1 : ∀ q ∈ lw_privs_1, lw_okq q := List.forall_mem_cons.mpr ⟨lw_p0, List.forall_mem_cons.mpr ⟨lw_p1, List.forall_mem_cons.mpr ⟨lw_p2, List.forall_mem_cons.mpr ⟨lw_p3, List.forall_mem_cons.mpr ⟨lw_p4, List.forall_mem_cons.mpr ⟨lw_p5, List.forall_mem_cons.mpr ⟨lw_p6, List.forall_mem_cons.mpr ⟨lw_p7, List.forall_mem_cons.mpr ⟨lw_p8, List.forall_mem_cons.mpr ⟨lw_p9, List.forall_mem_cons.mpr ⟨lw_p10, List.forall_mem_cons.mpr ⟨lw_p11, List.forall_mem_cons.mpr ⟨lw_p12, List.forall_mem_cons.mpr ⟨lw_p13, List.forall_mem_cons.mpr ⟨lw_p14, List.forall_mem_cons.mpr ⟨lw_p15, fun _ h => absurd h List.not_mem_nil⟩⟩⟩⟩⟩⟩⟩⟩⟩⟩⟩⟩⟩⟩⟩⟩
theorem lw_p16 : lw_okq (⟨"CompositeDecoder", "countOfDecoding", "(I)I"⟩, 11) := ⟨⟨by decide +kernel, by decide +kernel⟩, List.mem_of_getElem? (i := 15) (by decide +kernel), List.mem_of_getElem? (i := 561) (by decide +kernel), List.mem_of_getElem? (i := 562) (by decide +kernel)⟩
theorem lw_p17 : lw_okq (⟨"CompositeDecoder", "wrongLumas", "()I"⟩, 11) := ⟨⟨by decide +kernel, by decide +kernel⟩, List.mem_of_getElem? (i := 15) (by decide +kernel), List.mem_of_getElem? (i := 565) (by decide +kernel), List.mem_of_getElem? (i := 566) (by decide +kernel)⟩
theorem lw_p18 : lw_okq (⟨"CompositeDecoder", "lumaDifferences", "()I"⟩, 11) := ⟨⟨by decide +kernel, by decide +kernel⟩, List.mem_of_getElem? (i := 15) (by decide +kernel), List.mem_of_getElem? (i := 569) (by decide +kernel), List.mem_of_getElem? (i := 570) (by decide +kernel)⟩
theorem lw_p19 : lw_okq (⟨"CompositeDecoder$BarText", "repeatBar", "(II)I"⟩, 4) := ⟨⟨by decide +kernel, by decide +kernel⟩, List.mem_of_getElem? (i := 66) (by decide +kernel), List.mem_of_getElem? (i := 656) (by decide +kernel), List.mem_of_getElem? (i := 657) (by decide +kernel)⟩
def lw_privs_2 : List (MethodName × Nat) := [(⟨"CompositeDecoder", "countOfDecoding", "(I)I"⟩, 11), (⟨"CompositeDecoder", "wrongLumas", "()I"⟩, 11), (⟨"CompositeDecoder", "lumaDifferences", "()I"⟩, 11), (⟨"CompositeDecoder$BarText", "repeatBar", "(II)I"⟩, 4)]
theorem lw_r2 : ∀ q ∈ lw_privs_2, lw_okq q := List.forall_mem_cons.mpr ⟨lw_p16, List.forall_mem_cons.mpr ⟨lw_p17, List.forall_mem_cons.mpr ⟨lw_p18, List.forall_mem_cons.mpr ⟨lw_p19, fun _ h => absurd h List.not_mem_nil⟩⟩⟩⟩
def lw_privs : List (MethodName × Nat) := lw_privs_1 ++ (lw_privs_2)
def lw_tbl : List Cond := k2_sels lw_privs ++ tables_1
theorem lw_privs_ok : ∀ q ∈ lw_privs, lw_okq q := by
  show ∀ q ∈ lw_privs_1 ++ (lw_privs_2), lw_okq q
  exact List.forall_mem_append.mpr ⟨lw_r1, lw_r2⟩
/-- the streams that the claim lets the run draw from -/
abbrev lw_cs : List Choice := [Jvm.Choice.named "NaN.bits"]
theorem lw_bits : nanBits ∈ lw_cs := by first | decide | exact List.mem_cons_self | simp [lw_cs, nanBits]
end
section
/-! names, fields, field types; the classes of the worlds -/
def RX0 : String := "CompositeDecoder$BarText"
def TX0 : u_T := fun k => match k with
  | 0 => ("CompositeDecoder$BarText", "characters", "[C", true)
  | 1 => ("CompositeDecoder$BarText", "used", "I", false)
  | 2 => ("CompositeDecoder$BarText", "bars", "[I", true)
  | _ => ("CompositeDecoder$BarText", "letters", "I", false)
def tyX0 : Nat → FieldType := fun k => match k with
  | 0 => .array .char
  | 1 => .int
  | 2 => .array .int
  | _ => .int
abbrev wsX00 : List Cond := u_ws RX0 TX0 4
theorem nmX0 : ∀ a, a < 4 → ∀ b, b < 4 → a ≠ b → (TX0 a).2.1 ≠ (TX0 b).2.1 := by decide +kernel
theorem tyX0_ok : ∀ k, k < 4 → parseFieldDescriptor (TX0 k).2.2.1 = some (tyX0 k) := by decide +kernel
abbrev cX0_init : ByteArray := prog_2_method_1_code
def yX0_init : MethodName := ⟨RX0, "<init>", "()V"⟩
abbrev cX0_append : ByteArray := prog_2_method_2_code
def yX0_append : MethodName := ⟨RX0, "append", "(C)Z"⟩
abbrev cX0_parse : ByteArray := prog_2_method_3_code
def yX0_parse : MethodName := ⟨RX0, "parse", "()I"⟩
abbrev cX0_repeatBar : ByteArray := prog_2_method_4_code
def yX0_repeatBar : MethodName := ⟨RX0, "repeatBar", "(II)I"⟩
abbrev cX0_paintBar : ByteArray := prog_2_method_5_code
def yX0_paintBar : MethodName := ⟨RX0, "paintBar", "(LCompositeDecoder$Picture;II)V"⟩
abbrev cX0_barOf : ByteArray := prog_2_method_6_code
def yX0_barOf : MethodName := ⟨RX0, "barOf", "(C)I"⟩
abbrev cX0_digitOf : ByteArray := prog_2_method_7_code
def yX0_digitOf : MethodName := ⟨RX0, "digitOf", "(C)I"⟩
def RX1 : String := "CompositeDecoder$Bursts"
def TX1 : u_T := fun k => match k with
  | 0 => ("CompositeDecoder$Bursts", "sines", "[I", true)
  | 1 => ("CompositeDecoder$Bursts", "cosines", "[I", true)
  | 2 => ("CompositeDecoder$Bursts", "good", "[Z", true)
  | 3 => ("CompositeDecoder$Bursts", "colorOn", "[Z", true)
  | 4 => ("CompositeDecoder$Bursts", "turnedPairs", "I", false)
  | _ => ("CompositeDecoder$Bursts", "steadyPairs", "I", false)
def tyX1 : Nat → FieldType := fun k => match k with
  | 0 => .array .int
  | 1 => .array .int
  | 2 => .array .boolean
  | 3 => .array .boolean
  | 4 => .int
  | _ => .int
abbrev wsX10 : List Cond := u_ws RX1 TX1 6
theorem nmX1 : ∀ a, a < 6 → ∀ b, b < 6 → a ≠ b → (TX1 a).2.1 ≠ (TX1 b).2.1 := by decide +kernel
theorem tyX1_ok : ∀ k, k < 6 → parseFieldDescriptor (TX1 k).2.2.1 = some (tyX1 k) := by decide +kernel
abbrev cX1_init : ByteArray := prog_3_method_1_code
def yX1_init : MethodName := ⟨RX1, "<init>", "()V"⟩
abbrev cX1_measure : ByteArray := prog_3_method_2_code
def yX1_measure : MethodName := ⟨RX1, "measure", "(LCompositeDecoder$Signal;[II)V"⟩
abbrev cX1_sumUp : ByteArray := prog_3_method_3_code
def yX1_sumUp : MethodName := ⟨RX1, "sumUp", "(LCompositeDecoder$Signal;II)V"⟩
abbrev cX1_countPair : ByteArray := prog_3_method_4_code
def yX1_countPair : MethodName := ⟨RX1, "countPair", "(II)V"⟩
abbrev cX1_guessedStandard : ByteArray := prog_3_method_5_code
def yX1_guessedStandard : MethodName := ⟨RX1, "guessedStandard", "()I"⟩
def RX2 : String := "CompositeDecoder$Colors"
def TX2 : u_T := fun k => match k with
  | 0 => ("CompositeDecoder$Colors", "rawUs", "[F", true)
  | 1 => ("CompositeDecoder$Colors", "rawVs", "[F", true)
  | 2 => ("CompositeDecoder$Colors", "us", "[F", true)
  | _ => ("CompositeDecoder$Colors", "vs", "[F", true)
def tyX2 : Nat → FieldType := fun k => match k with
  | 0 => .array .float
  | 1 => .array .float
  | 2 => .array .float
  | _ => .array .float
abbrev wsX20 : List Cond := u_ws RX2 TX2 4
theorem nmX2 : ∀ a, a < 4 → ∀ b, b < 4 → a ≠ b → (TX2 a).2.1 ≠ (TX2 b).2.1 := by decide +kernel
theorem tyX2_ok : ∀ k, k < 4 → parseFieldDescriptor (TX2 k).2.2.1 = some (tyX2 k) := by decide +kernel
abbrev cX2_init : ByteArray := prog_4_method_1_code
def yX2_init : MethodName := ⟨RX2, "<init>", "()V"⟩
abbrev cX2_turn : ByteArray := prog_4_method_2_code
def yX2_turn : MethodName := ⟨RX2, "turn", "(LCompositeDecoder$Combs;LCompositeDecoder$Bursts;LCompositeDecoder$PhaseReference;I)V"⟩
abbrev cX2_turnSegment : ByteArray := prog_4_method_3_code
def yX2_turnSegment : MethodName := ⟨RX2, "turnSegment", "(LCompositeDecoder$Combs;IFFZ)V"⟩
abbrev cX2_mixSegment : ByteArray := prog_4_method_4_code
def yX2_mixSegment : MethodName := ⟨RX2, "mixSegment", "(IZ)V"⟩
def RX3 : String := "CompositeDecoder$Combs"
def TX3 : u_T := fun k => match k with
  | 0 => ("CompositeDecoder$Combs", "sums", "[I", true)
  | 1 => ("CompositeDecoder$Combs", "lumas", "[I", true)
  | 2 => ("CompositeDecoder$Combs", "ways", "[I", true)
  | 3 => ("CompositeDecoder$Combs", "sines", "[I", true)
  | _ => ("CompositeDecoder$Combs", "cosines", "[I", true)
def tyX3 : Nat → FieldType := fun k => match k with
  | 0 => .array .int
  | 1 => .array .int
  | 2 => .array .int
  | 3 => .array .int
  | _ => .array .int
abbrev wsX30 : List Cond := u_ws RX3 TX3 5
theorem nmX3 : ∀ a, a < 5 → ∀ b, b < 5 → a ≠ b → (TX3 a).2.1 ≠ (TX3 b).2.1 := by decide +kernel
theorem tyX3_ok : ∀ k, k < 5 → parseFieldDescriptor (TX3 k).2.2.1 = some (tyX3 k) := by decide +kernel
abbrev cX3_init : ByteArray := prog_5_method_1_code
def yX3_init : MethodName := ⟨RX3, "<init>", "()V"⟩
abbrev cX3_separate : ByteArray := prog_5_method_2_code
def yX3_separate : MethodName := ⟨RX3, "separate", "(LCompositeDecoder$Signal;[ILCompositeDecoder$Settings;I)V"⟩
abbrev cX3_sumUp : ByteArray := prog_5_method_3_code
def yX3_sumUp : MethodName := ⟨RX3, "sumUp", "(LCompositeDecoder$Signal;[I)V"⟩
abbrev cX3_wayFor : ByteArray := prog_5_method_4_code
def yX3_wayFor : MethodName := ⟨RX3, "wayFor", "(IIII)I"⟩
abbrev cX3_isNear : ByteArray := prog_5_method_5_code
def yX3_isNear : MethodName := ⟨RX3, "isNear", "(III)Z"⟩
abbrev cX3_splitSegment : ByteArray := prog_5_method_6_code
def yX3_splitSegment : MethodName := ⟨RX3, "splitSegment", "(LCompositeDecoder$Signal;[IIII)V"⟩
abbrev cX3_chromaAt : ByteArray := prog_5_method_7_code
def yX3_chromaAt : MethodName := ⟨RX3, "chromaAt", "(LCompositeDecoder$Signal;[IIII)I"⟩
abbrev cX3_sampleAt : ByteArray := prog_5_method_8_code
def yX3_sampleAt : MethodName := ⟨RX3, "sampleAt", "(LCompositeDecoder$Signal;[III)I"⟩
def RX4 : String := "CompositeDecoder$LineFinder"
def TX4 : u_T := fun k => match k with
  | 0 => ("CompositeDecoder$LineFinder", "pulses", "[I", true)
  | 1 => ("CompositeDecoder$LineFinder", "starts", "[I", true)
  | 2 => ("CompositeDecoder$LineFinder", "positions", "[I", true)
  | 3 => ("CompositeDecoder$LineFinder", "locked", "[Z", true)
  | 4 => ("CompositeDecoder$LineFinder", "position", "I", false)
  | 5 => ("CompositeDecoder$LineFinder", "hits", "I", false)
  | 6 => ("CompositeDecoder$LineFinder", "misses", "I", false)
  | _ => ("CompositeDecoder$LineFinder", "isLocked", "Z", false)
def tyX4 : Nat → FieldType := fun k => match k with
  | 0 => .array .int
  | 1 => .array .int
  | 2 => .array .int
  | 3 => .array .boolean
  | 4 => .int
  | 5 => .int
  | 6 => .int
  | _ => .boolean
abbrev wsX40 : List Cond := u_ws RX4 TX4 8
theorem nmX4 : ∀ a, a < 8 → ∀ b, b < 8 → a ≠ b → (TX4 a).2.1 ≠ (TX4 b).2.1 := by decide +kernel
theorem tyX4_ok : ∀ k, k < 8 → parseFieldDescriptor (TX4 k).2.2.1 = some (tyX4 k) := by decide +kernel
abbrev cX4_init : ByteArray := prog_6_method_1_code
def yX4_init : MethodName := ⟨RX4, "<init>", "()V"⟩
abbrev cX4_find : ByteArray := prog_6_method_2_code
def yX4_find : MethodName := ⟨RX4, "find", "(LCompositeDecoder$Signal;)V"⟩
abbrev cX4_steer : ByteArray := prog_6_method_3_code
def yX4_steer : MethodName := ⟨RX4, "steer", "(I)V"⟩
def RX5 : String := "CompositeDecoder$Movement"
def TX5 : u_T := fun k => match k with
  | 0 => ("CompositeDecoder$Movement", "lumasBefore", "[I", true)
  | 1 => ("CompositeDecoder$Movement", "changed", "[Z", true)
  | _ => ("CompositeDecoder$Movement", "kinds", "[I", true)
def tyX5 : Nat → FieldType := fun k => match k with
  | 0 => .array .int
  | 1 => .array .boolean
  | _ => .array .int
abbrev wsX50 : List Cond := u_ws RX5 TX5 3
theorem nmX5 : ∀ a, a < 3 → ∀ b, b < 3 → a ≠ b → (TX5 a).2.1 ≠ (TX5 b).2.1 := by decide +kernel
theorem tyX5_ok : ∀ k, k < 3 → parseFieldDescriptor (TX5 k).2.2.1 = some (tyX5 k) := by decide +kernel
abbrev cX5_init : ByteArray := prog_7_method_1_code
def yX5_init : MethodName := ⟨RX5, "<init>", "()V"⟩
abbrev cX5_watch : ByteArray := prog_7_method_2_code
def yX5_watch : MethodName := ⟨RX5, "watch", "([IIZ)V"⟩
abbrev cX5_kindOf : ByteArray := prog_7_method_3_code
def yX5_kindOf : MethodName := ⟨RX5, "kindOf", "(II)I"⟩
abbrev cX5_hasChanged : ByteArray := prog_7_method_4_code
def yX5_hasChanged : MethodName := ⟨RX5, "hasChanged", "(II)Z"⟩
def RX6 : String := "CompositeDecoder$PhaseReference"
def TX6 : u_T := fun k => match k with
  | 0 => ("CompositeDecoder$PhaseReference", "sines", "[F", true)
  | _ => ("CompositeDecoder$PhaseReference", "cosines", "[F", true)
def tyX6 : Nat → FieldType := fun k => match k with
  | 0 => .array .float
  | _ => .array .float
abbrev wsX60 : List Cond := u_ws RX6 TX6 2
theorem nmX6 : ∀ a, a < 2 → ∀ b, b < 2 → a ≠ b → (TX6 a).2.1 ≠ (TX6 b).2.1 := by decide +kernel
theorem tyX6_ok : ∀ k, k < 2 → parseFieldDescriptor (TX6 k).2.2.1 = some (tyX6 k) := by decide +kernel
abbrev cX6_init : ByteArray := prog_8_method_1_code
def yX6_init : MethodName := ⟨RX6, "<init>", "()V"⟩
abbrev cX6_follow : ByteArray := prog_8_method_2_code
def yX6_follow : MethodName := ⟨RX6, "follow", "(LCompositeDecoder$Bursts;I)V"⟩
abbrev cX6_aimOf : ByteArray := prog_8_method_3_code
def yX6_aimOf : MethodName := ⟨RX6, "aimOf", "([III)F"⟩
def RX7 : String := "CompositeDecoder$Picture"
def TX7 : u_T := fun k => match k with
  | 0 => ("CompositeDecoder$Picture", "lumas", "[I", true)
  | 1 => ("CompositeDecoder$Picture", "us", "[I", true)
  | 2 => ("CompositeDecoder$Picture", "vs", "[I", true)
  | 3 => ("CompositeDecoder$Picture", "jitters", "[I", true)
  | 4 => ("CompositeDecoder$Picture", "amplitudes", "[I", true)
  | 5 => ("CompositeDecoder$Picture", "phases", "[I", true)
  | 6 => ("CompositeDecoder$Picture", "noises", "[I", true)
  | 7 => ("CompositeDecoder$Picture", "missing", "[Z", true)
  | _ => ("CompositeDecoder$Picture", "standard", "I", false)
def tyX7 : Nat → FieldType := fun k => match k with
  | 0 => .array .int
  | 1 => .array .int
  | 2 => .array .int
  | 3 => .array .int
  | 4 => .array .int
  | 5 => .array .int
  | 6 => .array .int
  | 7 => .array .boolean
  | _ => .int
abbrev wsX70 : List Cond := u_ws RX7 TX7 9
theorem nmX7 : ∀ a, a < 9 → ∀ b, b < 9 → a ≠ b → (TX7 a).2.1 ≠ (TX7 b).2.1 := by decide +kernel
theorem tyX7_ok : ∀ k, k < 9 → parseFieldDescriptor (TX7 k).2.2.1 = some (tyX7 k) := by decide +kernel
abbrev cX7_init : ByteArray := prog_9_method_1_code
def yX7_init : MethodName := ⟨RX7, "<init>", "()V"⟩
abbrev cX7_paint : ByteArray := prog_9_method_2_code
def yX7_paint : MethodName := ⟨RX7, "paint", "(IIII)Z"⟩
abbrev cX7_sampleAt : ByteArray := prog_9_method_3_code
def yX7_sampleAt : MethodName := ⟨RX7, "sampleAt", "(II)I"⟩
abbrev cX7_noiseAt : ByteArray := prog_9_method_4_code
def yX7_noiseAt : MethodName := ⟨RX7, "noiseAt", "(II)I"⟩
abbrev cX7_levelAt : ByteArray := prog_9_method_5_code
def yX7_levelAt : MethodName := ⟨RX7, "levelAt", "(III)I"⟩
abbrev cX7_burstAt : ByteArray := prog_9_method_6_code
def yX7_burstAt : MethodName := ⟨RX7, "burstAt", "(II)I"⟩
abbrev cX7_signOf : ByteArray := prog_9_method_7_code
def yX7_signOf : MethodName := ⟨RX7, "signOf", "(I)I"⟩
def RX8 : String := "CompositeDecoder$Settings"
def TX8 : u_T := fun k => match k with
  | _ => ("CompositeDecoder$Settings", "values", "[I", true)
def tyX8 : Nat → FieldType := fun k => match k with
  | _ => .array .int
abbrev wsX80 : List Cond := u_ws RX8 TX8 1
theorem nmX8 : ∀ a, a < 1 → ∀ b, b < 1 → a ≠ b → (TX8 a).2.1 ≠ (TX8 b).2.1 := by decide +kernel
theorem tyX8_ok : ∀ k, k < 1 → parseFieldDescriptor (TX8 k).2.2.1 = some (tyX8 k) := by decide +kernel
abbrev cX8_init : ByteArray := prog_10_method_1_code
def yX8_init : MethodName := ⟨RX8, "<init>", "()V"⟩
abbrev cX8_allows : ByteArray := prog_10_method_2_code
def yX8_allows : MethodName := ⟨RX8, "allows", "(II)Z"⟩
abbrev cX8_threshold : ByteArray := prog_10_method_3_code
def yX8_threshold : MethodName := ⟨RX8, "threshold", "()I"⟩
abbrev cX8_limit : ByteArray := prog_10_method_4_code
def yX8_limit : MethodName := ⟨RX8, "limit", "()I"⟩
abbrev cX8_comb : ByteArray := prog_10_method_5_code
def yX8_comb : MethodName := ⟨RX8, "comb", "()I"⟩
abbrev cX8_standardTaken : ByteArray := prog_10_method_6_code
def yX8_standardTaken : MethodName := ⟨RX8, "standardTaken", "(I)I"⟩
def RX9 : String := "CompositeDecoder$Signal"
def TX9 : u_T := fun k => match k with
  | _ => ("CompositeDecoder$Signal", "rows", "[[I", true)
def tyX9 : Nat → FieldType := fun k => match k with
  | _ => .array (.array .int)
abbrev wsX90 : List Cond := u_ws RX9 TX9 1
theorem nmX9 : ∀ a, a < 1 → ∀ b, b < 1 → a ≠ b → (TX9 a).2.1 ≠ (TX9 b).2.1 := by decide +kernel
theorem tyX9_ok : ∀ k, k < 1 → parseFieldDescriptor (TX9 k).2.2.1 = some (tyX9 k) := by decide +kernel
abbrev cX9_init : ByteArray := prog_11_method_1_code
def yX9_init : MethodName := ⟨RX9, "<init>", "()V"⟩
abbrev cX9_sendFrom : ByteArray := prog_11_method_2_code
def yX9_sendFrom : MethodName := ⟨RX9, "sendFrom", "(LCompositeDecoder$Picture;)V"⟩
abbrev cX9_at : ByteArray := prog_11_method_3_code
def yX9_at : MethodName := ⟨RX9, "at", "(II)I"⟩
abbrev cX9_sumFrom : ByteArray := prog_11_method_4_code
def yX9_sumFrom : MethodName := ⟨RX9, "sumFrom", "(II)I"⟩
abbrev cX9_pulseOf : ByteArray := prog_11_method_5_code
def yX9_pulseOf : MethodName := ⟨RX9, "pulseOf", "(I)I"⟩
def RX10 : String := "CompositeDecoder"
def TX10 : u_T := fun k => match k with
  | 0 => ("CompositeDecoder", "picture", "LCompositeDecoder$Picture;", true)
  | 1 => ("CompositeDecoder", "text", "LCompositeDecoder$BarText;", true)
  | 2 => ("CompositeDecoder", "settings", "LCompositeDecoder$Settings;", true)
  | 3 => ("CompositeDecoder", "signal", "LCompositeDecoder$Signal;", true)
  | 4 => ("CompositeDecoder", "finder", "LCompositeDecoder$LineFinder;", true)
  | 5 => ("CompositeDecoder", "bursts", "LCompositeDecoder$Bursts;", true)
  | 6 => ("CompositeDecoder", "phases", "LCompositeDecoder$PhaseReference;", true)
  | 7 => ("CompositeDecoder", "combs", "LCompositeDecoder$Combs;", true)
  | 8 => ("CompositeDecoder", "colors", "LCompositeDecoder$Colors;", true)
  | 9 => ("CompositeDecoder", "movement", "LCompositeDecoder$Movement;", true)
  | _ => ("CompositeDecoder", "decodings", "I", false)
def tyX10 : Nat → FieldType := fun k => match k with
  | 0 => .object "CompositeDecoder$Picture"
  | 1 => .object "CompositeDecoder$BarText"
  | 2 => .object "CompositeDecoder$Settings"
  | 3 => .object "CompositeDecoder$Signal"
  | 4 => .object "CompositeDecoder$LineFinder"
  | 5 => .object "CompositeDecoder$Bursts"
  | 6 => .object "CompositeDecoder$PhaseReference"
  | 7 => .object "CompositeDecoder$Combs"
  | 8 => .object "CompositeDecoder$Colors"
  | 9 => .object "CompositeDecoder$Movement"
  | _ => .int
abbrev wsX100 : List Cond := u_ws RX10 TX10 11
theorem nmX10 : ∀ a, a < 11 → ∀ b, b < 11 → a ≠ b → (TX10 a).2.1 ≠ (TX10 b).2.1 := by decide +kernel
theorem tyX10_ok : ∀ k, k < 11 → parseFieldDescriptor (TX10 k).2.2.1 = some (tyX10 k) := by decide +kernel
abbrev cX10_init : ByteArray := prog_1_method_1_code
def yX10_init : MethodName := ⟨RX10, "<init>", "()V"⟩
abbrev cX10_setSegment : ByteArray := prog_1_method_2_code
def yX10_setSegment : MethodName := ⟨RX10, "setSegment", "(IIIII)I"⟩
abbrev cX10_fill : ByteArray := prog_1_method_3_code
def yX10_fill : MethodName := ⟨RX10, "fill", "(IIII)I"⟩
abbrev cX10_setLine : ByteArray := prog_1_method_4_code
def yX10_setLine : MethodName := ⟨RX10, "setLine", "(IIIII)I"⟩
abbrev cX10_miss : ByteArray := prog_1_method_5_code
def yX10_miss : MethodName := ⟨RX10, "miss", "(IZ)I"⟩
abbrev cX10_setStandard : ByteArray := prog_1_method_6_code
def yX10_setStandard : MethodName := ⟨RX10, "setStandard", "(I)I"⟩
abbrev cX10_type : ByteArray := prog_1_method_7_code
def yX10_type : MethodName := ⟨RX10, "type", "(C)I"⟩
abbrev cX10_clearText : ByteArray := prog_1_method_8_code
def yX10_clearText : MethodName := ⟨RX10, "clearText", "()I"⟩
abbrev cX10_readBars : ByteArray := prog_1_method_9_code
def yX10_readBars : MethodName := ⟨RX10, "readBars", "(I)I"⟩
abbrev cX10_sample : ByteArray := prog_1_method_10_code
def yX10_sample : MethodName := ⟨RX10, "sample", "(II)I"⟩
abbrev cX10_set : ByteArray := prog_1_method_11_code
def yX10_set : MethodName := ⟨RX10, "set", "(II)I"⟩
abbrev cX10_decode : ByteArray := prog_1_method_12_code
def yX10_decode : MethodName := ⟨RX10, "decode", "()I"⟩
abbrev cX10_line : ByteArray := prog_1_method_13_code
def yX10_line : MethodName := ⟨RX10, "line", "(II)I"⟩
abbrev cX10_luma : ByteArray := prog_1_method_14_code
def yX10_luma : MethodName := ⟨RX10, "luma", "(II)I"⟩
abbrev cX10_combed : ByteArray := prog_1_method_15_code
def yX10_combed : MethodName := ⟨RX10, "combed", "(II)I"⟩
abbrev cX10_thousandths : ByteArray := prog_1_method_18_code
def yX10_thousandths : MethodName := ⟨RX10, "thousandths", "(III)I"⟩
abbrev cX10_motion : ByteArray := prog_1_method_20_code
def yX10_motion : MethodName := ⟨RX10, "motion", "(II)I"⟩
abbrev cX10_count : ByteArray := prog_1_method_21_code
def yX10_count : MethodName := ⟨RX10, "count", "(I)I"⟩
abbrev cX10_countOfNow : ByteArray := prog_1_method_22_code
def yX10_countOfNow : MethodName := ⟨RX10, "countOfNow", "(I)I"⟩
abbrev cX10_countOfDecoding : ByteArray := prog_1_method_23_code
def yX10_countOfDecoding : MethodName := ⟨RX10, "countOfDecoding", "(I)I"⟩
abbrev cX10_wrongLumas : ByteArray := prog_1_method_24_code
def yX10_wrongLumas : MethodName := ⟨RX10, "wrongLumas", "()I"⟩
abbrev cX10_lumaDifferences : ByteArray := prog_1_method_25_code
def yX10_lumaDifferences : MethodName := ⟨RX10, "lumaDifferences", "()I"⟩
abbrev cX10_tally : ByteArray := prog_1_method_26_code
def yX10_tally : MethodName := ⟨RX10, "tally", "([Z)I"⟩
abbrev cX10_tally_ : ByteArray := prog_1_method_27_code
def yX10_tally_ : MethodName := ⟨RX10, "tally", "([II)I"⟩
abbrev cX10_oneIf : ByteArray := prog_1_method_28_code
def yX10_oneIf : MethodName := ⟨RX10, "oneIf", "(Z)I"⟩
abbrev cX10_isWithin : ByteArray := prog_1_method_29_code
def yX10_isWithin : MethodName := ⟨RX10, "isWithin", "(III)Z"⟩
abbrev cX10_isLine : ByteArray := prog_1_method_30_code
def yX10_isLine : MethodName := ⟨RX10, "isLine", "(I)Z"⟩
abbrev cX10_isPlace : ByteArray := prog_1_method_31_code
def yX10_isPlace : MethodName := ⟨RX10, "isPlace", "(II)Z"⟩
abbrev cX10_isPaint : ByteArray := prog_1_method_32_code
def yX10_isPaint : MethodName := ⟨RX10, "isPaint", "(III)Z"⟩
abbrev cX10_placeOf : ByteArray := prog_1_method_33_code
def yX10_placeOf : MethodName := ⟨RX10, "placeOf", "(II)I"⟩
abbrev cX10_turnAt : ByteArray := prog_1_method_34_code
def yX10_turnAt : MethodName := ⟨RX10, "turnAt", "(II)I"⟩
def RX11 : String := "CompositeDecoderModel"
def TX11 : u_T := fun k => match k with
  | _ => ("", "", "", false)
def tyX11 : Nat → FieldType := fun k => match k with
  | _ => .int
abbrev wsX110 : List Cond := u_ws RX11 TX11 0
theorem nmX11 : ∀ a, a < 0 → ∀ b, b < 0 → a ≠ b → (TX11 a).2.1 ≠ (TX11 b).2.1 := by decide +kernel
theorem tyX11_ok : ∀ k, k < 0 → parseFieldDescriptor (TX11 k).2.2.1 = some (tyX11 k) := by decide +kernel
def RJ9 : String := "java/lang/Math"
abbrev cJ9_floorDiv_7cf53 : ByteArray := prog_14_method_47_code
def yJ9_floorDiv_7cf53 : MethodName := ⟨RJ9, "floorDiv", "(II)I"⟩
abbrev cJ9_floorMod_7cf53 : ByteArray := prog_14_method_50_code
def yJ9_floorMod_7cf53 : MethodName := ⟨RJ9, "floorMod", "(II)I"⟩
abbrev cJ9_abs_0f7a4 : ByteArray := prog_14_method_59_code
def yJ9_abs_0f7a4 : MethodName := ⟨RJ9, "abs", "(I)I"⟩
def RJ10 : String := "java/lang/System"
def RL : String := "CompositeDecoderLaw"
abbrev cL_cell : ByteArray := method_2_code
def yL_cell : MethodName := ⟨RL, "cell", "([II)I"⟩
abbrev cL_low : ByteArray := method_3_code
def yL_low : MethodName := ⟨RL, "low", "(II)I"⟩
abbrev cL_size : ByteArray := method_4_code
def yL_size : MethodName := ⟨RL, "size", "(I)I"⟩
abbrev cL_floor : ByteArray := method_5_code
def yL_floor : MethodName := ⟨RL, "floor", "(II)I"⟩
abbrev cL_at : ByteArray := method_6_code
def yL_at : MethodName := ⟨RL, "at", "(LCompositeDecoder;II)I"⟩
abbrev cL_sine : ByteArray := method_7_code
def yL_sine : MethodName := ⟨RL, "sine", "(I)I"⟩
abbrev cL_cosine : ByteArray := method_8_code
def yL_cosine : MethodName := ⟨RL, "cosine", "(I)I"⟩
abbrev cL_lines : ByteArray := method_9_code
def yL_lines : MethodName := ⟨RL, "lines", "(LCompositeDecoder;I)Z"⟩
abbrev cL_sum : ByteArray := method_10_code
def yL_sum : MethodName := ⟨RL, "sum", "(LCompositeDecoder;II)I"⟩
abbrev cL_near : ByteArray := method_11_code
def yL_near : MethodName := ⟨RL, "near", "(LCompositeDecoder;III)Z"⟩
abbrev cL_combs : ByteArray := method_12_code
def yL_combs : MethodName := ⟨RL, "combs", "(LCompositeDecoder;)Z"⟩
abbrev cL_motion : ByteArray := method_13_code
def yL_motion : MethodName := ⟨RL, "motion", "(LCompositeDecoder;[I[II)Z"⟩
abbrev cL_is : ByteArray := method_14_code
def yL_is : MethodName := ⟨RL, "is", "(JJI)Z"⟩
abbrev cL_keep : ByteArray := method_15_code
def yL_keep : MethodName := ⟨RL, "keep", "(LCompositeDecoder;[I[I)V"⟩
abbrev cL_bars : ByteArray := method_16_code
def yL_bars : MethodName := ⟨RL, "bars", "(LCompositeDecoder;III)Z"⟩
abbrev cL_errors : ByteArray := method_17_code
def yL_errors : MethodName := ⟨RL, "errors", "(LCompositeDecoder;)Z"⟩
abbrev cL_law : ByteArray := code
def yL_law : MethodName := ⟨RL, "law", "([I)Z"⟩
abbrev vwCl : List vw_C := [(RX0, TX0, 4), (RX1, TX1, 6), (RX2, TX2, 4), (RX3, TX3, 5), (RX4, TX4, 8), (RX5, TX5, 3), (RX6, TX6, 2), (RX7, TX7, 9), (RX8, TX8, 1), (RX9, TX9, 1), (RX10, TX10, 11)]
end
section
/-! decode rows, part 1 -/
theorem dX0_init_0 : decode cX0_init 0 = .ok (.aload_n 0, 1) := by decide +kernel
theorem dX0_init_1 : decode cX0_init 1 = .ok (.invokespecial 3, 3) := by decide +kernel
theorem dX0_init_4 : decode cX0_init 4 = .ok (.aload_n 0, 1) := by decide +kernel
theorem dX0_init_5 : decode cX0_init 5 = .ok (.bipush 60, 2) := by decide +kernel
theorem dX0_init_7 : decode cX0_init 7 = .ok (.newarray .char, 2) := by decide +kernel
theorem dX0_init_9 : decode cX0_init 9 = .ok (.putfield 11, 3) := by decide +kernel
theorem dX0_init_12 : decode cX0_init 12 = .ok (.aload_n 0, 1) := by decide +kernel
theorem dX0_init_13 : decode cX0_init 13 = .ok (.bipush 10, 2) := by decide +kernel
theorem dX0_init_15 : decode cX0_init 15 = .ok (.newarray .int, 2) := by decide +kernel
theorem dX0_init_17 : decode cX0_init 17 = .ok (.putfield 15, 3) := by decide +kernel
theorem dX0_init_20 : decode cX0_init 20 = .ok (.return_, 1) := by decide +kernel
theorem dX0_append_0 : decode cX0_append 0 = .ok (.aload_n 0, 1) := by decide +kernel
theorem dX0_append_1 : decode cX0_append 1 = .ok (.getfield 19, 3) := by decide +kernel
theorem dX0_append_4 : decode cX0_append 4 = .ok (.bipush 60, 2) := by decide +kernel
theorem dX0_append_6 : decode cX0_append 6 = .ok (.if_icmp .lt 5, 3) := by decide +kernel
theorem dX0_append_9 : decode cX0_append 9 = .ok (.iconst 0, 1) := by decide +kernel
theorem dX0_append_10 : decode cX0_append 10 = .ok (.ireturn, 1) := by decide +kernel
theorem dX0_append_11 : decode cX0_append 11 = .ok (.aload_n 0, 1) := by decide +kernel
theorem dX0_append_12 : decode cX0_append 12 = .ok (.getfield 11, 3) := by decide +kernel
theorem dX0_append_15 : decode cX0_append 15 = .ok (.aload_n 0, 1) := by decide +kernel
theorem dX0_append_16 : decode cX0_append 16 = .ok (.getfield 19, 3) := by decide +kernel
theorem dX0_append_19 : decode cX0_append 19 = .ok (.iload_n 1, 1) := by decide +kernel
theorem dX0_append_20 : decode cX0_append 20 = .ok (.castore, 1) := by decide +kernel
theorem dX0_append_21 : decode cX0_append 21 = .ok (.aload_n 0, 1) := by decide +kernel
theorem dX0_append_22 : decode cX0_append 22 = .ok (.dup, 1) := by decide +kernel
theorem dX0_append_23 : decode cX0_append 23 = .ok (.getfield 19, 3) := by decide +kernel
theorem dX0_append_26 : decode cX0_append 26 = .ok (.iconst 1, 1) := by decide +kernel
theorem dX0_append_27 : decode cX0_append 27 = .ok (.iadd, 1) := by decide +kernel
theorem dX0_append_28 : decode cX0_append 28 = .ok (.putfield 19, 3) := by decide +kernel
theorem dX0_append_31 : decode cX0_append 31 = .ok (.iconst 1, 1) := by decide +kernel
theorem dX0_append_32 : decode cX0_append 32 = .ok (.ireturn, 1) := by decide +kernel
theorem dX0_parse_0 : decode cX0_parse 0 = .ok (.iconst 0, 1) := by decide +kernel
theorem dX0_parse_1 : decode cX0_parse 1 = .ok (.istore_n 1, 1) := by decide +kernel
theorem dX0_parse_2 : decode cX0_parse 2 = .ok (.iconst 0, 1) := by decide +kernel
theorem dX0_parse_3 : decode cX0_parse 3 = .ok (.istore_n 2, 1) := by decide +kernel
theorem dX0_parse_4 : decode cX0_parse 4 = .ok (.aload_n 0, 1) := by decide +kernel
theorem dX0_parse_5 : decode cX0_parse 5 = .ok (.iconst 0, 1) := by decide +kernel
theorem dX0_parse_6 : decode cX0_parse 6 = .ok (.putfield 23, 3) := by decide +kernel
theorem dX0_parse_9 : decode cX0_parse 9 = .ok (.iconst 0, 1) := by decide +kernel
theorem dX0_parse_10 : decode cX0_parse 10 = .ok (.istore_n 3, 1) := by decide +kernel
theorem dX0_parse_11 : decode cX0_parse 11 = .ok (.iload_n 3, 1) := by decide +kernel
theorem dX0_parse_12 : decode cX0_parse 12 = .ok (.aload_n 0, 1) := by decide +kernel
theorem dX0_parse_13 : decode cX0_parse 13 = .ok (.getfield 19, 3) := by decide +kernel
theorem dX0_parse_16 : decode cX0_parse 16 = .ok (.if_icmp .ge 106, 3) := by decide +kernel
theorem dX0_parse_19 : decode cX0_parse 19 = .ok (.aload_n 0, 1) := by decide +kernel
theorem dX0_parse_20 : decode cX0_parse 20 = .ok (.getfield 11, 3) := by decide +kernel
theorem dX0_parse_23 : decode cX0_parse 23 = .ok (.iload_n 3, 1) := by decide +kernel
theorem dX0_parse_24 : decode cX0_parse 24 = .ok (.caload, 1) := by decide +kernel
theorem dX0_parse_25 : decode cX0_parse 25 = .ok (.invokestatic 26, 3) := by decide +kernel
theorem dX0_parse_28 : decode cX0_parse 28 = .ok (.istore 4, 2) := by decide +kernel
theorem dX0_parse_30 : decode cX0_parse 30 = .ok (.iload 4, 2) := by decide +kernel
theorem dX0_parse_32 : decode cX0_parse 32 = .ok (.ifCond .lt 37, 3) := by decide +kernel
theorem dX0_parse_35 : decode cX0_parse 35 = .ok (.iload_n 1, 1) := by decide +kernel
theorem dX0_parse_36 : decode cX0_parse 36 = .ok (.bipush 10, 2) := by decide +kernel
theorem dX0_parse_38 : decode cX0_parse 38 = .ok (.if_icmp .lt 5, 3) := by decide +kernel
theorem dX0_parse_41 : decode cX0_parse 41 = .ok (.iload_n 3, 1) := by decide +kernel
theorem dX0_parse_42 : decode cX0_parse 42 = .ok (.ireturn, 1) := by decide +kernel
theorem dX0_parse_43 : decode cX0_parse 43 = .ok (.aload_n 0, 1) := by decide +kernel
theorem dX0_parse_44 : decode cX0_parse 44 = .ok (.getfield 15, 3) := by decide +kernel
theorem dX0_parse_47 : decode cX0_parse 47 = .ok (.iload_n 1, 1) := by decide +kernel
theorem dX0_parse_48 : decode cX0_parse 48 = .ok (.iload 4, 2) := by decide +kernel
theorem dX0_parse_50 : decode cX0_parse 50 = .ok (.iastore, 1) := by decide +kernel
theorem dX0_parse_51 : decode cX0_parse 51 = .ok (.iinc 1 1, 3) := by decide +kernel
theorem dX0_parse_54 : decode cX0_parse 54 = .ok (.aload_n 0, 1) := by decide +kernel
theorem dX0_parse_55 : decode cX0_parse 55 = .ok (.dup, 1) := by decide +kernel
theorem dX0_parse_56 : decode cX0_parse 56 = .ok (.getfield 23, 3) := by decide +kernel
theorem dX0_parse_59 : decode cX0_parse 59 = .ok (.iconst 1, 1) := by decide +kernel
theorem dX0_parse_60 : decode cX0_parse 60 = .ok (.iadd, 1) := by decide +kernel
theorem dX0_parse_61 : decode cX0_parse 61 = .ok (.putfield 23, 3) := by decide +kernel
theorem dX0_parse_64 : decode cX0_parse 64 = .ok (.iconst 1, 1) := by decide +kernel
theorem dX0_parse_65 : decode cX0_parse 65 = .ok (.istore_n 2, 1) := by decide +kernel
theorem dX0_parse_66 : decode cX0_parse 66 = .ok (.goto 50, 3) := by decide +kernel
theorem dX0_parse_69 : decode cX0_parse 69 = .ok (.iload_n 2, 1) := by decide +kernel
theorem dX0_parse_70 : decode cX0_parse 70 = .ok (.ifCond .eq 17, 3) := by decide +kernel
theorem dX0_parse_73 : decode cX0_parse 73 = .ok (.aload_n 0, 1) := by decide +kernel
theorem dX0_parse_74 : decode cX0_parse 74 = .ok (.getfield 11, 3) := by decide +kernel
theorem dX0_parse_77 : decode cX0_parse 77 = .ok (.iload_n 3, 1) := by decide +kernel
theorem dX0_parse_78 : decode cX0_parse 78 = .ok (.caload, 1) := by decide +kernel
theorem dX0_parse_79 : decode cX0_parse 79 = .ok (.invokestatic 30, 3) := by decide +kernel
theorem dX0_parse_82 : decode cX0_parse 82 = .ok (.iconst 1, 1) := by decide +kernel
theorem dX0_parse_83 : decode cX0_parse 83 = .ok (.isub, 1) := by decide +kernel
theorem dX0_parse_84 : decode cX0_parse 84 = .ok (.goto 4, 3) := by decide +kernel
theorem dX0_parse_87 : decode cX0_parse 87 = .ok (.iconst (-1), 1) := by decide +kernel
theorem dX0_parse_88 : decode cX0_parse 88 = .ok (.istore 5, 2) := by decide +kernel
theorem dX0_parse_90 : decode cX0_parse 90 = .ok (.iload 5, 2) := by decide +kernel
theorem dX0_parse_92 : decode cX0_parse 92 = .ok (.ifCond .lt 12, 3) := by decide +kernel
theorem dX0_parse_95 : decode cX0_parse 95 = .ok (.iload_n 1, 1) := by decide +kernel
theorem dX0_parse_96 : decode cX0_parse 96 = .ok (.iload 5, 2) := by decide +kernel
theorem dX0_parse_98 : decode cX0_parse 98 = .ok (.iadd, 1) := by decide +kernel
theorem dX0_parse_99 : decode cX0_parse 99 = .ok (.bipush 10, 2) := by decide +kernel
theorem dX0_parse_101 : decode cX0_parse 101 = .ok (.if_icmp .le 5, 3) := by decide +kernel
theorem dX0_parse_104 : decode cX0_parse 104 = .ok (.iload_n 3, 1) := by decide +kernel
theorem dX0_parse_105 : decode cX0_parse 105 = .ok (.ireturn, 1) := by decide +kernel
theorem dX0_parse_106 : decode cX0_parse 106 = .ok (.aload_n 0, 1) := by decide +kernel
theorem dX0_parse_107 : decode cX0_parse 107 = .ok (.iload_n 1, 1) := by decide +kernel
theorem dX0_parse_108 : decode cX0_parse 108 = .ok (.iload 5, 2) := by decide +kernel
theorem dX0_parse_110 : decode cX0_parse 110 = .ok (.invokevirtual 33, 3) := by decide +kernel
theorem dX0_parse_113 : decode cX0_parse 113 = .ok (.istore_n 1, 1) := by decide +kernel
theorem dX0_parse_114 : decode cX0_parse 114 = .ok (.iconst 0, 1) := by decide +kernel
theorem dX0_parse_115 : decode cX0_parse 115 = .ok (.istore_n 2, 1) := by decide +kernel
theorem dX0_parse_116 : decode cX0_parse 116 = .ok (.iinc 3 1, 3) := by decide +kernel
theorem dX0_parse_119 : decode cX0_parse 119 = .ok (.goto (-108), 3) := by decide +kernel
theorem dX0_parse_122 : decode cX0_parse 122 = .ok (.iload_n 1, 1) := by decide +kernel
theorem dX0_parse_123 : decode cX0_parse 123 = .ok (.bipush 10, 2) := by decide +kernel
theorem dX0_parse_125 : decode cX0_parse 125 = .ok (.if_icmp .ge 10, 3) := by decide +kernel
theorem dX0_parse_128 : decode cX0_parse 128 = .ok (.aload_n 0, 1) := by decide +kernel
theorem dX0_parse_129 : decode cX0_parse 129 = .ok (.getfield 19, 3) := by decide +kernel
theorem dX0_parse_132 : decode cX0_parse 132 = .ok (.goto 4, 3) := by decide +kernel
theorem dX0_parse_135 : decode cX0_parse 135 = .ok (.iconst (-1), 1) := by decide +kernel
theorem dX0_parse_136 : decode cX0_parse 136 = .ok (.ireturn, 1) := by decide +kernel
theorem dX0_repeatBar_0 : decode cX0_repeatBar 0 = .ok (.iload_n 1, 1) := by decide +kernel
theorem dX0_repeatBar_1 : decode cX0_repeatBar 1 = .ok (.iload_n 2, 1) := by decide +kernel
theorem dX0_repeatBar_2 : decode cX0_repeatBar 2 = .ok (.iadd, 1) := by decide +kernel
theorem dX0_repeatBar_3 : decode cX0_repeatBar 3 = .ok (.istore_n 3, 1) := by decide +kernel
theorem dX0_repeatBar_4 : decode cX0_repeatBar 4 = .ok (.iload_n 1, 1) := by decide +kernel
theorem dX0_repeatBar_5 : decode cX0_repeatBar 5 = .ok (.istore 4, 2) := by decide +kernel
theorem dX0_repeatBar_7 : decode cX0_repeatBar 7 = .ok (.iload 4, 2) := by decide +kernel
theorem dX0_repeatBar_9 : decode cX0_repeatBar 9 = .ok (.ifCond .le 38, 3) := by decide +kernel
theorem dX0_repeatBar_12 : decode cX0_repeatBar 12 = .ok (.iload 4, 2) := by decide +kernel
theorem dX0_repeatBar_14 : decode cX0_repeatBar 14 = .ok (.iload_n 3, 1) := by decide +kernel
theorem dX0_repeatBar_15 : decode cX0_repeatBar 15 = .ok (.if_icmp .ge 32, 3) := by decide +kernel
theorem dX0_repeatBar_18 : decode cX0_repeatBar 18 = .ok (.iload 4, 2) := by decide +kernel
theorem dX0_repeatBar_20 : decode cX0_repeatBar 20 = .ok (.bipush 10, 2) := by decide +kernel
theorem dX0_repeatBar_22 : decode cX0_repeatBar 22 = .ok (.if_icmp .ge 25, 3) := by decide +kernel
theorem dX0_repeatBar_25 : decode cX0_repeatBar 25 = .ok (.aload_n 0, 1) := by decide +kernel
theorem dX0_repeatBar_26 : decode cX0_repeatBar 26 = .ok (.getfield 15, 3) := by decide +kernel
theorem dX0_repeatBar_29 : decode cX0_repeatBar 29 = .ok (.iload 4, 2) := by decide +kernel
theorem dX0_repeatBar_31 : decode cX0_repeatBar 31 = .ok (.aload_n 0, 1) := by decide +kernel
theorem dX0_repeatBar_32 : decode cX0_repeatBar 32 = .ok (.getfield 15, 3) := by decide +kernel
theorem dX0_repeatBar_35 : decode cX0_repeatBar 35 = .ok (.iload 4, 2) := by decide +kernel
theorem dX0_repeatBar_37 : decode cX0_repeatBar 37 = .ok (.iconst 1, 1) := by decide +kernel
theorem dX0_repeatBar_38 : decode cX0_repeatBar 38 = .ok (.isub, 1) := by decide +kernel
theorem dX0_repeatBar_39 : decode cX0_repeatBar 39 = .ok (.iaload, 1) := by decide +kernel
theorem dX0_repeatBar_40 : decode cX0_repeatBar 40 = .ok (.iastore, 1) := by decide +kernel
theorem dX0_repeatBar_41 : decode cX0_repeatBar 41 = .ok (.iinc 4 1, 3) := by decide +kernel
theorem dX0_repeatBar_44 : decode cX0_repeatBar 44 = .ok (.goto (-37), 3) := by decide +kernel
theorem dX0_repeatBar_47 : decode cX0_repeatBar 47 = .ok (.iload_n 3, 1) := by decide +kernel
theorem dX0_repeatBar_48 : decode cX0_repeatBar 48 = .ok (.ireturn, 1) := by decide +kernel
theorem dX0_paintBar_0 : decode cX0_paintBar 0 = .ok (.aload_n 0, 1) := by decide +kernel
theorem dX0_paintBar_1 : decode cX0_paintBar 1 = .ok (.getfield 15, 3) := by decide +kernel
theorem dX0_paintBar_4 : decode cX0_paintBar 4 = .ok (.iload_n 3, 1) := by decide +kernel
theorem dX0_paintBar_5 : decode cX0_paintBar 5 = .ok (.iaload, 1) := by decide +kernel
theorem dX0_paintBar_6 : decode cX0_paintBar 6 = .ok (.istore 4, 2) := by decide +kernel
theorem dX0_paintBar_8 : decode cX0_paintBar 8 = .ok (.aload_n 1, 1) := by decide +kernel
theorem dX0_paintBar_9 : decode cX0_paintBar 9 = .ok (.iload_n 2, 1) := by decide +kernel
theorem dX0_paintBar_10 : decode cX0_paintBar 10 = .ok (.getstatic 37, 3) := by decide +kernel
theorem dX0_paintBar_13 : decode cX0_paintBar 13 = .ok (.iload 4, 2) := by decide +kernel
theorem dX0_paintBar_15 : decode cX0_paintBar 15 = .ok (.iaload, 1) := by decide +kernel
theorem dX0_paintBar_16 : decode cX0_paintBar 16 = .ok (.getstatic 40, 3) := by decide +kernel
theorem dX0_paintBar_19 : decode cX0_paintBar 19 = .ok (.iload 4, 2) := by decide +kernel
theorem dX0_paintBar_21 : decode cX0_paintBar 21 = .ok (.iaload, 1) := by decide +kernel
theorem dX0_paintBar_22 : decode cX0_paintBar 22 = .ok (.getstatic 43, 3) := by decide +kernel
theorem dX0_paintBar_25 : decode cX0_paintBar 25 = .ok (.iload 4, 2) := by decide +kernel
theorem dX0_paintBar_27 : decode cX0_paintBar 27 = .ok (.iaload, 1) := by decide +kernel
theorem dX0_paintBar_28 : decode cX0_paintBar 28 = .ok (.invokevirtual 46, 3) := by decide +kernel
theorem dX0_paintBar_31 : decode cX0_paintBar 31 = .ok (.pop, 1) := by decide +kernel
theorem dX0_paintBar_32 : decode cX0_paintBar 32 = .ok (.return_, 1) := by decide +kernel
theorem dX0_barOf_0 : decode cX0_barOf 0 = .ok (.iconst 0, 1) := by decide +kernel
theorem dX0_barOf_1 : decode cX0_barOf 1 = .ok (.istore_n 1, 1) := by decide +kernel
theorem dX0_barOf_2 : decode cX0_barOf 2 = .ok (.iload_n 1, 1) := by decide +kernel
theorem dX0_barOf_3 : decode cX0_barOf 3 = .ok (.getstatic 52, 3) := by decide +kernel
theorem dX0_barOf_6 : decode cX0_barOf 6 = .ok (.arraylength, 1) := by decide +kernel
theorem dX0_barOf_7 : decode cX0_barOf 7 = .ok (.if_icmp .ge 20, 3) := by decide +kernel
theorem dX0_barOf_10 : decode cX0_barOf 10 = .ok (.getstatic 52, 3) := by decide +kernel
theorem dX0_barOf_13 : decode cX0_barOf 13 = .ok (.iload_n 1, 1) := by decide +kernel
theorem dX0_barOf_14 : decode cX0_barOf 14 = .ok (.caload, 1) := by decide +kernel
theorem dX0_barOf_15 : decode cX0_barOf 15 = .ok (.iload_n 0, 1) := by decide +kernel
theorem dX0_barOf_16 : decode cX0_barOf 16 = .ok (.if_icmp .ne 5, 3) := by decide +kernel
theorem dX0_barOf_19 : decode cX0_barOf 19 = .ok (.iload_n 1, 1) := by decide +kernel
theorem dX0_barOf_20 : decode cX0_barOf 20 = .ok (.ireturn, 1) := by decide +kernel
theorem dX0_barOf_21 : decode cX0_barOf 21 = .ok (.iinc 1 1, 3) := by decide +kernel
theorem dX0_barOf_24 : decode cX0_barOf 24 = .ok (.goto (-22), 3) := by decide +kernel
theorem dX0_barOf_27 : decode cX0_barOf 27 = .ok (.iconst (-1), 1) := by decide +kernel
theorem dX0_barOf_28 : decode cX0_barOf 28 = .ok (.ireturn, 1) := by decide +kernel
theorem dX0_digitOf_0 : decode cX0_digitOf 0 = .ok (.iload_n 0, 1) := by decide +kernel
theorem dX0_digitOf_1 : decode cX0_digitOf 1 = .ok (.bipush 49, 2) := by decide +kernel
theorem dX0_digitOf_3 : decode cX0_digitOf 3 = .ok (.if_icmp .lt 16, 3) := by decide +kernel
theorem dX0_digitOf_6 : decode cX0_digitOf 6 = .ok (.iload_n 0, 1) := by decide +kernel
theorem dX0_digitOf_7 : decode cX0_digitOf 7 = .ok (.bipush 57, 2) := by decide +kernel
theorem dX0_digitOf_9 : decode cX0_digitOf 9 = .ok (.if_icmp .gt 10, 3) := by decide +kernel
theorem dX0_digitOf_12 : decode cX0_digitOf 12 = .ok (.iload_n 0, 1) := by decide +kernel
theorem dX0_digitOf_13 : decode cX0_digitOf 13 = .ok (.bipush 48, 2) := by decide +kernel
theorem dX0_digitOf_15 : decode cX0_digitOf 15 = .ok (.isub, 1) := by decide +kernel
theorem dX0_digitOf_16 : decode cX0_digitOf 16 = .ok (.goto 4, 3) := by decide +kernel
theorem dX0_digitOf_19 : decode cX0_digitOf 19 = .ok (.iconst 0, 1) := by decide +kernel
theorem dX0_digitOf_20 : decode cX0_digitOf 20 = .ok (.ireturn, 1) := by decide +kernel
theorem dX1_init_0 : decode cX1_init 0 = .ok (.aload_n 0, 1) := by decide +kernel
theorem dX1_init_1 : decode cX1_init 1 = .ok (.invokespecial 3, 3) := by decide +kernel
theorem dX1_init_4 : decode cX1_init 4 = .ok (.aload_n 0, 1) := by decide +kernel
theorem dX1_init_5 : decode cX1_init 5 = .ok (.bipush 8, 2) := by decide +kernel
theorem dX1_init_7 : decode cX1_init 7 = .ok (.newarray .int, 2) := by decide +kernel
theorem dX1_init_9 : decode cX1_init 9 = .ok (.putfield 9, 3) := by decide +kernel
theorem dX1_init_12 : decode cX1_init 12 = .ok (.aload_n 0, 1) := by decide +kernel
theorem dX1_init_13 : decode cX1_init 13 = .ok (.bipush 8, 2) := by decide +kernel
theorem dX1_init_15 : decode cX1_init 15 = .ok (.newarray .int, 2) := by decide +kernel
theorem dX1_init_17 : decode cX1_init 17 = .ok (.putfield 15, 3) := by decide +kernel
theorem dX1_init_20 : decode cX1_init 20 = .ok (.aload_n 0, 1) := by decide +kernel
theorem dX1_init_21 : decode cX1_init 21 = .ok (.bipush 8, 2) := by decide +kernel
theorem dX1_init_23 : decode cX1_init 23 = .ok (.newarray .boolean, 2) := by decide +kernel
theorem dX1_init_25 : decode cX1_init 25 = .ok (.putfield 18, 3) := by decide +kernel
theorem dX1_init_28 : decode cX1_init 28 = .ok (.aload_n 0, 1) := by decide +kernel
theorem dX1_init_29 : decode cX1_init 29 = .ok (.bipush 8, 2) := by decide +kernel
theorem dX1_init_31 : decode cX1_init 31 = .ok (.newarray .boolean, 2) := by decide +kernel
theorem dX1_init_33 : decode cX1_init 33 = .ok (.putfield 22, 3) := by decide +kernel
theorem dX1_init_36 : decode cX1_init 36 = .ok (.return_, 1) := by decide +kernel
theorem dX1_measure_0 : decode cX1_measure 0 = .ok (.aload_n 0, 1) := by decide +kernel
theorem dX1_measure_1 : decode cX1_measure 1 = .ok (.iconst 0, 1) := by decide +kernel
theorem dX1_measure_2 : decode cX1_measure 2 = .ok (.putfield 25, 3) := by decide +kernel
theorem dX1_measure_5 : decode cX1_measure 5 = .ok (.aload_n 0, 1) := by decide +kernel
theorem dX1_measure_6 : decode cX1_measure 6 = .ok (.iconst 0, 1) := by decide +kernel
theorem dX1_measure_7 : decode cX1_measure 7 = .ok (.putfield 29, 3) := by decide +kernel
theorem dX1_measure_10 : decode cX1_measure 10 = .ok (.iconst 1, 1) := by decide +kernel
theorem dX1_measure_11 : decode cX1_measure 11 = .ok (.istore 4, 2) := by decide +kernel
theorem dX1_measure_13 : decode cX1_measure 13 = .ok (.iconst 0, 1) := by decide +kernel
theorem dX1_measure_14 : decode cX1_measure 14 = .ok (.istore 5, 2) := by decide +kernel
theorem dX1_measure_16 : decode cX1_measure 16 = .ok (.iload 5, 2) := by decide +kernel
theorem dX1_measure_18 : decode cX1_measure 18 = .ok (.bipush 8, 2) := by decide +kernel
theorem dX1_measure_20 : decode cX1_measure 20 = .ok (.if_icmp .ge 111, 3) := by decide +kernel
theorem dX1_measure_23 : decode cX1_measure 23 = .ok (.aload_n 0, 1) := by decide +kernel
theorem dX1_measure_24 : decode cX1_measure 24 = .ok (.aload_n 1, 1) := by decide +kernel
theorem dX1_measure_25 : decode cX1_measure 25 = .ok (.iload 5, 2) := by decide +kernel
theorem dX1_measure_27 : decode cX1_measure 27 = .ok (.aload_n 2, 1) := by decide +kernel
theorem dX1_measure_28 : decode cX1_measure 28 = .ok (.iload 5, 2) := by decide +kernel
theorem dX1_measure_30 : decode cX1_measure 30 = .ok (.iaload, 1) := by decide +kernel
theorem dX1_measure_31 : decode cX1_measure 31 = .ok (.bipush 8, 2) := by decide +kernel
theorem dX1_measure_33 : decode cX1_measure 33 = .ok (.iadd, 1) := by decide +kernel
theorem dX1_measure_34 : decode cX1_measure 34 = .ok (.invokevirtual 32, 3) := by decide +kernel
theorem dX1_measure_37 : decode cX1_measure 37 = .ok (.aload_n 0, 1) := by decide +kernel
theorem dX1_measure_38 : decode cX1_measure 38 = .ok (.getfield 18, 3) := by decide +kernel
theorem dX1_measure_41 : decode cX1_measure 41 = .ok (.iload 5, 2) := by decide +kernel
theorem dX1_measure_43 : decode cX1_measure 43 = .ok (.aload_n 0, 1) := by decide +kernel
theorem dX1_measure_44 : decode cX1_measure 44 = .ok (.getfield 9, 3) := by decide +kernel
theorem dX1_measure_47 : decode cX1_measure 47 = .ok (.iload 5, 2) := by decide +kernel
theorem dX1_measure_49 : decode cX1_measure 49 = .ok (.iaload, 1) := by decide +kernel
theorem dX1_measure_50 : decode cX1_measure 50 = .ok (.invokestatic 36, 3) := by decide +kernel
theorem dX1_measure_53 : decode cX1_measure 53 = .ok (.aload_n 0, 1) := by decide +kernel
theorem dX1_measure_54 : decode cX1_measure 54 = .ok (.getfield 15, 3) := by decide +kernel
theorem dX1_measure_57 : decode cX1_measure 57 = .ok (.iload 5, 2) := by decide +kernel
theorem dX1_measure_59 : decode cX1_measure 59 = .ok (.iaload, 1) := by decide +kernel
theorem dX1_measure_60 : decode cX1_measure 60 = .ok (.invokestatic 36, 3) := by decide +kernel
theorem dX1_measure_63 : decode cX1_measure 63 = .ok (.iadd, 1) := by decide +kernel
theorem dX1_measure_64 : decode cX1_measure 64 = .ok (.iconst 4, 1) := by decide +kernel
theorem dX1_measure_65 : decode cX1_measure 65 = .ok (.iload_n 3, 1) := by decide +kernel
theorem dX1_measure_66 : decode cX1_measure 66 = .ok (.imul, 1) := by decide +kernel
theorem dX1_measure_67 : decode cX1_measure 67 = .ok (.if_icmp .lt 7, 3) := by decide +kernel
theorem dX1_measure_70 : decode cX1_measure 70 = .ok (.iconst 1, 1) := by decide +kernel
theorem dX1_measure_71 : decode cX1_measure 71 = .ok (.goto 4, 3) := by decide +kernel
theorem dX1_measure_74 : decode cX1_measure 74 = .ok (.iconst 0, 1) := by decide +kernel
theorem dX1_measure_75 : decode cX1_measure 75 = .ok (.bastore, 1) := by decide +kernel
theorem dX1_measure_76 : decode cX1_measure 76 = .ok (.iload 5, 2) := by decide +kernel
theorem dX1_measure_78 : decode cX1_measure 78 = .ok (.ifCond .le 38, 3) := by decide +kernel
theorem dX1_measure_81 : decode cX1_measure 81 = .ok (.aload_n 0, 1) := by decide +kernel
theorem dX1_measure_82 : decode cX1_measure 82 = .ok (.getfield 18, 3) := by decide +kernel
theorem dX1_measure_85 : decode cX1_measure 85 = .ok (.iload 5, 2) := by decide +kernel
theorem dX1_measure_87 : decode cX1_measure 87 = .ok (.baload, 1) := by decide +kernel
theorem dX1_measure_88 : decode cX1_measure 88 = .ok (.aload_n 0, 1) := by decide +kernel
theorem dX1_measure_89 : decode cX1_measure 89 = .ok (.getfield 18, 3) := by decide +kernel
theorem dX1_measure_92 : decode cX1_measure 92 = .ok (.iload 5, 2) := by decide +kernel
theorem dX1_measure_94 : decode cX1_measure 94 = .ok (.iconst 1, 1) := by decide +kernel
theorem dX1_measure_95 : decode cX1_measure 95 = .ok (.isub, 1) := by decide +kernel
theorem dX1_measure_96 : decode cX1_measure 96 = .ok (.baload, 1) := by decide +kernel
theorem dX1_measure_97 : decode cX1_measure 97 = .ok (.if_icmp .ne 19, 3) := by decide +kernel
theorem dX1_measure_100 : decode cX1_measure 100 = .ok (.aload_n 0, 1) := by decide +kernel
theorem dX1_measure_101 : decode cX1_measure 101 = .ok (.getfield 18, 3) := by decide +kernel
theorem dX1_measure_104 : decode cX1_measure 104 = .ok (.iload 5, 2) := by decide +kernel
theorem dX1_measure_106 : decode cX1_measure 106 = .ok (.baload, 1) := by decide +kernel
theorem dX1_measure_107 : decode cX1_measure 107 = .ok (.istore 4, 2) := by decide +kernel
theorem dX1_measure_109 : decode cX1_measure 109 = .ok (.aload_n 0, 1) := by decide +kernel
theorem dX1_measure_110 : decode cX1_measure 110 = .ok (.iload 5, 2) := by decide +kernel
theorem dX1_measure_112 : decode cX1_measure 112 = .ok (.iload_n 3, 1) := by decide +kernel
theorem dX1_measure_113 : decode cX1_measure 113 = .ok (.invokevirtual 42, 3) := by decide +kernel
theorem dX1_measure_116 : decode cX1_measure 116 = .ok (.aload_n 0, 1) := by decide +kernel
theorem dX1_measure_117 : decode cX1_measure 117 = .ok (.getfield 22, 3) := by decide +kernel
theorem dX1_measure_120 : decode cX1_measure 120 = .ok (.iload 5, 2) := by decide +kernel
theorem dX1_measure_122 : decode cX1_measure 122 = .ok (.iload 4, 2) := by decide +kernel
theorem dX1_measure_124 : decode cX1_measure 124 = .ok (.bastore, 1) := by decide +kernel
theorem dX1_measure_125 : decode cX1_measure 125 = .ok (.iinc 5 1, 3) := by decide +kernel
theorem dX1_measure_128 : decode cX1_measure 128 = .ok (.goto (-112), 3) := by decide +kernel
theorem dX1_measure_131 : decode cX1_measure 131 = .ok (.return_, 1) := by decide +kernel
theorem dX1_sumUp_0 : decode cX1_sumUp 0 = .ok (.iconst 0, 1) := by decide +kernel
theorem dX1_sumUp_1 : decode cX1_sumUp 1 = .ok (.istore 4, 2) := by decide +kernel
theorem dX1_sumUp_3 : decode cX1_sumUp 3 = .ok (.iconst 0, 1) := by decide +kernel
theorem dX1_sumUp_4 : decode cX1_sumUp 4 = .ok (.istore 5, 2) := by decide +kernel
theorem dX1_sumUp_6 : decode cX1_sumUp 6 = .ok (.iload_n 3, 1) := by decide +kernel
theorem dX1_sumUp_7 : decode cX1_sumUp 7 = .ok (.istore 6, 2) := by decide +kernel
theorem dX1_sumUp_9 : decode cX1_sumUp 9 = .ok (.iload 6, 2) := by decide +kernel
theorem dX1_sumUp_11 : decode cX1_sumUp 11 = .ok (.iload_n 3, 1) := by decide +kernel
theorem dX1_sumUp_12 : decode cX1_sumUp 12 = .ok (.bipush 8, 2) := by decide +kernel
theorem dX1_sumUp_14 : decode cX1_sumUp 14 = .ok (.iadd, 1) := by decide +kernel
theorem dX1_sumUp_15 : decode cX1_sumUp 15 = .ok (.if_icmp .ge 54, 3) := by decide +kernel
theorem dX1_sumUp_18 : decode cX1_sumUp 18 = .ok (.aload_n 1, 1) := by decide +kernel
theorem dX1_sumUp_19 : decode cX1_sumUp 19 = .ok (.iload_n 2, 1) := by decide +kernel
theorem dX1_sumUp_20 : decode cX1_sumUp 20 = .ok (.iload 6, 2) := by decide +kernel
theorem dX1_sumUp_22 : decode cX1_sumUp 22 = .ok (.invokevirtual 46, 3) := by decide +kernel
theorem dX1_sumUp_25 : decode cX1_sumUp 25 = .ok (.istore 7, 2) := by decide +kernel
theorem dX1_sumUp_27 : decode cX1_sumUp 27 = .ok (.iload_n 2, 1) := by decide +kernel
theorem dX1_sumUp_28 : decode cX1_sumUp 28 = .ok (.iload 6, 2) := by decide +kernel
theorem dX1_sumUp_30 : decode cX1_sumUp 30 = .ok (.invokestatic 52, 3) := by decide +kernel
theorem dX1_sumUp_33 : decode cX1_sumUp 33 = .ok (.istore 8, 2) := by decide +kernel
theorem dX1_sumUp_35 : decode cX1_sumUp 35 = .ok (.iload 4, 2) := by decide +kernel
theorem dX1_sumUp_37 : decode cX1_sumUp 37 = .ok (.iload 7, 2) := by decide +kernel
theorem dX1_sumUp_39 : decode cX1_sumUp 39 = .ok (.getstatic 55, 3) := by decide +kernel
theorem dX1_sumUp_42 : decode cX1_sumUp 42 = .ok (.iload 8, 2) := by decide +kernel
theorem dX1_sumUp_44 : decode cX1_sumUp 44 = .ok (.iaload, 1) := by decide +kernel
theorem dX1_sumUp_45 : decode cX1_sumUp 45 = .ok (.imul, 1) := by decide +kernel
theorem dX1_sumUp_46 : decode cX1_sumUp 46 = .ok (.iadd, 1) := by decide +kernel
theorem dX1_sumUp_47 : decode cX1_sumUp 47 = .ok (.istore 4, 2) := by decide +kernel
theorem dX1_sumUp_49 : decode cX1_sumUp 49 = .ok (.iload 5, 2) := by decide +kernel
theorem dX1_sumUp_51 : decode cX1_sumUp 51 = .ok (.iload 7, 2) := by decide +kernel
theorem dX1_sumUp_53 : decode cX1_sumUp 53 = .ok (.getstatic 58, 3) := by decide +kernel
theorem dX1_sumUp_56 : decode cX1_sumUp 56 = .ok (.iload 8, 2) := by decide +kernel
theorem dX1_sumUp_58 : decode cX1_sumUp 58 = .ok (.iaload, 1) := by decide +kernel
theorem dX1_sumUp_59 : decode cX1_sumUp 59 = .ok (.imul, 1) := by decide +kernel
theorem dX1_sumUp_60 : decode cX1_sumUp 60 = .ok (.iadd, 1) := by decide +kernel
theorem dX1_sumUp_61 : decode cX1_sumUp 61 = .ok (.istore 5, 2) := by decide +kernel
theorem dX1_sumUp_63 : decode cX1_sumUp 63 = .ok (.iinc 6 1, 3) := by decide +kernel
theorem dX1_sumUp_66 : decode cX1_sumUp 66 = .ok (.goto (-57), 3) := by decide +kernel
theorem dX1_sumUp_69 : decode cX1_sumUp 69 = .ok (.aload_n 0, 1) := by decide +kernel
theorem dX1_sumUp_70 : decode cX1_sumUp 70 = .ok (.getfield 9, 3) := by decide +kernel
theorem dX1_sumUp_73 : decode cX1_sumUp 73 = .ok (.iload_n 2, 1) := by decide +kernel
theorem dX1_sumUp_74 : decode cX1_sumUp 74 = .ok (.iload 4, 2) := by decide +kernel
theorem dX1_sumUp_76 : decode cX1_sumUp 76 = .ok (.iastore, 1) := by decide +kernel
theorem dX1_sumUp_77 : decode cX1_sumUp 77 = .ok (.aload_n 0, 1) := by decide +kernel
theorem dX1_sumUp_78 : decode cX1_sumUp 78 = .ok (.getfield 15, 3) := by decide +kernel
theorem dX1_sumUp_81 : decode cX1_sumUp 81 = .ok (.iload_n 2, 1) := by decide +kernel
theorem dX1_sumUp_82 : decode cX1_sumUp 82 = .ok (.iload 5, 2) := by decide +kernel
theorem dX1_sumUp_84 : decode cX1_sumUp 84 = .ok (.iastore, 1) := by decide +kernel
theorem dX1_sumUp_85 : decode cX1_sumUp 85 = .ok (.return_, 1) := by decide +kernel
theorem dX1_countPair_0 : decode cX1_countPair 0 = .ok (.iload_n 1, 1) := by decide +kernel
theorem dX1_countPair_1 : decode cX1_countPair 1 = .ok (.iconst 1, 1) := by decide +kernel
theorem dX1_countPair_2 : decode cX1_countPair 2 = .ok (.if_icmp .lt 23, 3) := by decide +kernel
theorem dX1_countPair_5 : decode cX1_countPair 5 = .ok (.aload_n 0, 1) := by decide +kernel
theorem dX1_countPair_6 : decode cX1_countPair 6 = .ok (.getfield 18, 3) := by decide +kernel
theorem dX1_countPair_9 : decode cX1_countPair 9 = .ok (.iload_n 1, 1) := by decide +kernel
theorem dX1_countPair_10 : decode cX1_countPair 10 = .ok (.baload, 1) := by decide +kernel
theorem dX1_countPair_11 : decode cX1_countPair 11 = .ok (.ifCond .eq 14, 3) := by decide +kernel
theorem dX1_countPair_14 : decode cX1_countPair 14 = .ok (.aload_n 0, 1) := by decide +kernel
theorem dX1_countPair_15 : decode cX1_countPair 15 = .ok (.getfield 18, 3) := by decide +kernel
theorem dX1_countPair_18 : decode cX1_countPair 18 = .ok (.iload_n 1, 1) := by decide +kernel
theorem dX1_countPair_19 : decode cX1_countPair 19 = .ok (.iconst 1, 1) := by decide +kernel
theorem dX1_countPair_20 : decode cX1_countPair 20 = .ok (.isub, 1) := by decide +kernel
theorem dX1_countPair_21 : decode cX1_countPair 21 = .ok (.baload, 1) := by decide +kernel
theorem dX1_countPair_22 : decode cX1_countPair 22 = .ok (.ifCond .ne 4, 3) := by decide +kernel
theorem dX1_countPair_25 : decode cX1_countPair 25 = .ok (.return_, 1) := by decide +kernel
theorem dX1_countPair_26 : decode cX1_countPair 26 = .ok (.aload_n 0, 1) := by decide +kernel
theorem dX1_countPair_27 : decode cX1_countPair 27 = .ok (.getfield 15, 3) := by decide +kernel
theorem dX1_countPair_30 : decode cX1_countPair 30 = .ok (.iload_n 1, 1) := by decide +kernel
theorem dX1_countPair_31 : decode cX1_countPair 31 = .ok (.iconst 1, 1) := by decide +kernel
theorem dX1_countPair_32 : decode cX1_countPair 32 = .ok (.isub, 1) := by decide +kernel
theorem dX1_countPair_33 : decode cX1_countPair 33 = .ok (.iaload, 1) := by decide +kernel
theorem dX1_countPair_34 : decode cX1_countPair 34 = .ok (.istore_n 3, 1) := by decide +kernel
theorem dX1_countPair_35 : decode cX1_countPair 35 = .ok (.aload_n 0, 1) := by decide +kernel
theorem dX1_countPair_36 : decode cX1_countPair 36 = .ok (.getfield 15, 3) := by decide +kernel
theorem dX1_countPair_39 : decode cX1_countPair 39 = .ok (.iload_n 1, 1) := by decide +kernel
theorem dX1_countPair_40 : decode cX1_countPair 40 = .ok (.iaload, 1) := by decide +kernel
theorem dX1_countPair_41 : decode cX1_countPair 41 = .ok (.istore 4, 2) := by decide +kernel
theorem dX1_countPair_43 : decode cX1_countPair 43 = .ok (.iload_n 3, 1) := by decide +kernel
theorem dX1_countPair_44 : decode cX1_countPair 44 = .ok (.iload 4, 2) := by decide +kernel
theorem dX1_countPair_46 : decode cX1_countPair 46 = .ok (.imul, 1) := by decide +kernel
theorem dX1_countPair_47 : decode cX1_countPair 47 = .ok (.ifCond .ge 33, 3) := by decide +kernel
theorem dX1_countPair_50 : decode cX1_countPair 50 = .ok (.iload_n 3, 1) := by decide +kernel
theorem dX1_countPair_51 : decode cX1_countPair 51 = .ok (.invokestatic 36, 3) := by decide +kernel
theorem dX1_countPair_54 : decode cX1_countPair 54 = .ok (.iload_n 2, 1) := by decide +kernel
theorem dX1_countPair_55 : decode cX1_countPair 55 = .ok (.if_icmp .lt 25, 3) := by decide +kernel
theorem dX1_countPair_58 : decode cX1_countPair 58 = .ok (.iload 4, 2) := by decide +kernel
theorem dX1_countPair_60 : decode cX1_countPair 60 = .ok (.invokestatic 36, 3) := by decide +kernel
theorem dX1_countPair_63 : decode cX1_countPair 63 = .ok (.iload_n 2, 1) := by decide +kernel
theorem dX1_countPair_64 : decode cX1_countPair 64 = .ok (.if_icmp .lt 16, 3) := by decide +kernel
theorem dX1_countPair_67 : decode cX1_countPair 67 = .ok (.aload_n 0, 1) := by decide +kernel
theorem dX1_countPair_68 : decode cX1_countPair 68 = .ok (.dup, 1) := by decide +kernel
theorem dX1_countPair_69 : decode cX1_countPair 69 = .ok (.getfield 25, 3) := by decide +kernel
theorem dX1_countPair_72 : decode cX1_countPair 72 = .ok (.iconst 1, 1) := by decide +kernel
theorem dX1_countPair_73 : decode cX1_countPair 73 = .ok (.iadd, 1) := by decide +kernel
theorem dX1_countPair_74 : decode cX1_countPair 74 = .ok (.putfield 25, 3) := by decide +kernel
theorem dX1_countPair_77 : decode cX1_countPair 77 = .ok (.goto 13, 3) := by decide +kernel
theorem dX1_countPair_80 : decode cX1_countPair 80 = .ok (.aload_n 0, 1) := by decide +kernel
theorem dX1_countPair_81 : decode cX1_countPair 81 = .ok (.dup, 1) := by decide +kernel
theorem dX1_countPair_82 : decode cX1_countPair 82 = .ok (.getfield 29, 3) := by decide +kernel
theorem dX1_countPair_85 : decode cX1_countPair 85 = .ok (.iconst 1, 1) := by decide +kernel
theorem dX1_countPair_86 : decode cX1_countPair 86 = .ok (.iadd, 1) := by decide +kernel
theorem dX1_countPair_87 : decode cX1_countPair 87 = .ok (.putfield 29, 3) := by decide +kernel
theorem dX1_countPair_90 : decode cX1_countPair 90 = .ok (.return_, 1) := by decide +kernel
theorem dX1_guessedStandard_0 : decode cX1_guessedStandard 0 = .ok (.aload_n 0, 1) := by decide +kernel
theorem dX1_guessedStandard_1 : decode cX1_guessedStandard 1 = .ok (.getfield 25, 3) := by decide +kernel
theorem dX1_guessedStandard_4 : decode cX1_guessedStandard 4 = .ok (.aload_n 0, 1) := by decide +kernel
theorem dX1_guessedStandard_5 : decode cX1_guessedStandard 5 = .ok (.getfield 29, 3) := by decide +kernel
theorem dX1_guessedStandard_8 : decode cX1_guessedStandard 8 = .ok (.if_icmp .le 7, 3) := by decide +kernel
theorem dX1_guessedStandard_11 : decode cX1_guessedStandard 11 = .ok (.iconst 1, 1) := by decide +kernel
theorem dX1_guessedStandard_12 : decode cX1_guessedStandard 12 = .ok (.goto 4, 3) := by decide +kernel
theorem dX1_guessedStandard_15 : decode cX1_guessedStandard 15 = .ok (.iconst 0, 1) := by decide +kernel
theorem dX1_guessedStandard_16 : decode cX1_guessedStandard 16 = .ok (.invokestatic 61, 3) := by decide +kernel
theorem dX1_guessedStandard_19 : decode cX1_guessedStandard 19 = .ok (.ireturn, 1) := by decide +kernel
theorem dX2_init_0 : decode cX2_init 0 = .ok (.aload_n 0, 1) := by decide +kernel
theorem dX2_init_1 : decode cX2_init 1 = .ok (.invokespecial 3, 3) := by decide +kernel
theorem dX2_init_4 : decode cX2_init 4 = .ok (.aload_n 0, 1) := by decide +kernel
theorem dX2_init_5 : decode cX2_init 5 = .ok (.bipush 80, 2) := by decide +kernel
theorem dX2_init_7 : decode cX2_init 7 = .ok (.newarray .float, 2) := by decide +kernel
theorem dX2_init_9 : decode cX2_init 9 = .ok (.putfield 9, 3) := by decide +kernel
theorem dX2_init_12 : decode cX2_init 12 = .ok (.aload_n 0, 1) := by decide +kernel
theorem dX2_init_13 : decode cX2_init 13 = .ok (.bipush 80, 2) := by decide +kernel
theorem dX2_init_15 : decode cX2_init 15 = .ok (.newarray .float, 2) := by decide +kernel
theorem dX2_init_17 : decode cX2_init 17 = .ok (.putfield 15, 3) := by decide +kernel
theorem dX2_init_20 : decode cX2_init 20 = .ok (.aload_n 0, 1) := by decide +kernel
theorem dX2_init_21 : decode cX2_init 21 = .ok (.bipush 80, 2) := by decide +kernel
theorem dX2_init_23 : decode cX2_init 23 = .ok (.newarray .float, 2) := by decide +kernel
theorem dX2_init_25 : decode cX2_init 25 = .ok (.putfield 18, 3) := by decide +kernel
theorem dX2_init_28 : decode cX2_init 28 = .ok (.aload_n 0, 1) := by decide +kernel
theorem dX2_init_29 : decode cX2_init 29 = .ok (.bipush 80, 2) := by decide +kernel
theorem dX2_init_31 : decode cX2_init 31 = .ok (.newarray .float, 2) := by decide +kernel
theorem dX2_init_33 : decode cX2_init 33 = .ok (.putfield 21, 3) := by decide +kernel
theorem dX2_init_36 : decode cX2_init 36 = .ok (.return_, 1) := by decide +kernel
theorem dX2_turn_0 : decode cX2_turn 0 = .ok (.iconst 0, 1) := by decide +kernel
theorem dX2_turn_1 : decode cX2_turn 1 = .ok (.istore 5, 2) := by decide +kernel
theorem dX2_turn_3 : decode cX2_turn 3 = .ok (.iload 5, 2) := by decide +kernel
theorem dX2_turn_5 : decode cX2_turn 5 = .ok (.bipush 8, 2) := by decide +kernel
theorem dX2_turn_7 : decode cX2_turn 7 = .ok (.if_icmp .ge 140, 3) := by decide +kernel
theorem dX2_turn_10 : decode cX2_turn 10 = .ok (.aload_n 2, 1) := by decide +kernel
theorem dX2_turn_11 : decode cX2_turn 11 = .ok (.getfield 24, 3) := by decide +kernel
theorem dX2_turn_14 : decode cX2_turn 14 = .ok (.iload 5, 2) := by decide +kernel
theorem dX2_turn_16 : decode cX2_turn 16 = .ok (.baload, 1) := by decide +kernel
theorem dX2_turn_17 : decode cX2_turn 17 = .ok (.ifCond .eq 13, 3) := by decide +kernel
theorem dX2_turn_20 : decode cX2_turn 20 = .ok (.aload_n 3, 1) := by decide +kernel
theorem dX2_turn_21 : decode cX2_turn 21 = .ok (.getfield 30, 3) := by decide +kernel
theorem dX2_turn_24 : decode cX2_turn 24 = .ok (.iload 5, 2) := by decide +kernel
theorem dX2_turn_26 : decode cX2_turn 26 = .ok (.faload, 1) := by decide +kernel
theorem dX2_turn_27 : decode cX2_turn 27 = .ok (.goto 4, 3) := by decide +kernel
theorem dX2_turn_30 : decode cX2_turn 30 = .ok (.fconst 0, 1) := by decide +kernel
theorem dX2_turn_31 : decode cX2_turn 31 = .ok (.fstore 6, 2) := by decide +kernel
theorem dX2_turn_33 : decode cX2_turn 33 = .ok (.aload_n 2, 1) := by decide +kernel
theorem dX2_turn_34 : decode cX2_turn 34 = .ok (.getfield 24, 3) := by decide +kernel
theorem dX2_turn_37 : decode cX2_turn 37 = .ok (.iload 5, 2) := by decide +kernel
theorem dX2_turn_39 : decode cX2_turn 39 = .ok (.baload, 1) := by decide +kernel
theorem dX2_turn_40 : decode cX2_turn 40 = .ok (.ifCond .eq 13, 3) := by decide +kernel
theorem dX2_turn_43 : decode cX2_turn 43 = .ok (.aload_n 3, 1) := by decide +kernel
theorem dX2_turn_44 : decode cX2_turn 44 = .ok (.getfield 35, 3) := by decide +kernel
theorem dX2_turn_47 : decode cX2_turn 47 = .ok (.iload 5, 2) := by decide +kernel
theorem dX2_turn_49 : decode cX2_turn 49 = .ok (.faload, 1) := by decide +kernel
theorem dX2_turn_50 : decode cX2_turn 50 = .ok (.goto 4, 3) := by decide +kernel
theorem dX2_turn_53 : decode cX2_turn 53 = .ok (.fconst 0, 1) := by decide +kernel
theorem dX2_turn_54 : decode cX2_turn 54 = .ok (.fstore 7, 2) := by decide +kernel
theorem dX2_turn_56 : decode cX2_turn 56 = .ok (.iload 4, 2) := by decide +kernel
theorem dX2_turn_58 : decode cX2_turn 58 = .ok (.iconst 1, 1) := by decide +kernel
theorem dX2_turn_59 : decode cX2_turn 59 = .ok (.if_icmp .ne 15, 3) := by decide +kernel
theorem dX2_turn_62 : decode cX2_turn 62 = .ok (.iload 5, 2) := by decide +kernel
theorem dX2_turn_64 : decode cX2_turn 64 = .ok (.iconst 1, 1) := by decide +kernel
theorem dX2_turn_65 : decode cX2_turn 65 = .ok (.iand, 1) := by decide +kernel
theorem dX2_turn_66 : decode cX2_turn 66 = .ok (.iconst 1, 1) := by decide +kernel
theorem dX2_turn_67 : decode cX2_turn 67 = .ok (.if_icmp .ne 7, 3) := by decide +kernel
theorem dX2_turn_70 : decode cX2_turn 70 = .ok (.iconst 1, 1) := by decide +kernel
theorem dX2_turn_71 : decode cX2_turn 71 = .ok (.goto 4, 3) := by decide +kernel
theorem dX2_turn_74 : decode cX2_turn 74 = .ok (.iconst 0, 1) := by decide +kernel
theorem dX2_turn_75 : decode cX2_turn 75 = .ok (.istore 8, 2) := by decide +kernel
theorem dX2_turn_77 : decode cX2_turn 77 = .ok (.iload 4, 2) := by decide +kernel
theorem dX2_turn_79 : decode cX2_turn 79 = .ok (.iconst 1, 1) := by decide +kernel
theorem dX2_turn_80 : decode cX2_turn 80 = .ok (.if_icmp .ne 12, 3) := by decide +kernel
theorem dX2_turn_83 : decode cX2_turn 83 = .ok (.iload 5, 2) := by decide +kernel
theorem dX2_turn_85 : decode cX2_turn 85 = .ok (.ifCond .le 7, 3) := by decide +kernel
theorem dX2_turn_88 : decode cX2_turn 88 = .ok (.iconst 1, 1) := by decide +kernel
theorem dX2_turn_89 : decode cX2_turn 89 = .ok (.goto 4, 3) := by decide +kernel
theorem dX2_turn_92 : decode cX2_turn 92 = .ok (.iconst 0, 1) := by decide +kernel
theorem dX2_turn_93 : decode cX2_turn 93 = .ok (.istore 9, 2) := by decide +kernel
theorem dX2_turn_95 : decode cX2_turn 95 = .ok (.iconst 0, 1) := by decide +kernel
theorem dX2_turn_96 : decode cX2_turn 96 = .ok (.istore 10, 2) := by decide +kernel
theorem dX2_turn_98 : decode cX2_turn 98 = .ok (.iload 10, 2) := by decide +kernel
theorem dX2_turn_100 : decode cX2_turn 100 = .ok (.bipush 10, 2) := by decide +kernel
theorem dX2_turn_102 : decode cX2_turn 102 = .ok (.if_icmp .ge 39, 3) := by decide +kernel
theorem dX2_turn_105 : decode cX2_turn 105 = .ok (.iload 5, 2) := by decide +kernel
theorem dX2_turn_107 : decode cX2_turn 107 = .ok (.iload 10, 2) := by decide +kernel
theorem dX2_turn_109 : decode cX2_turn 109 = .ok (.invokestatic 38, 3) := by decide +kernel
theorem dX2_turn_112 : decode cX2_turn 112 = .ok (.istore 11, 2) := by decide +kernel
theorem dX2_turn_114 : decode cX2_turn 114 = .ok (.aload_n 0, 1) := by decide +kernel
theorem dX2_turn_115 : decode cX2_turn 115 = .ok (.aload_n 1, 1) := by decide +kernel
theorem dX2_turn_116 : decode cX2_turn 116 = .ok (.iload 11, 2) := by decide +kernel
theorem dX2_turn_118 : decode cX2_turn 118 = .ok (.fload 6, 2) := by decide +kernel
theorem dX2_turn_120 : decode cX2_turn 120 = .ok (.fload 7, 2) := by decide +kernel
theorem dX2_turn_122 : decode cX2_turn 122 = .ok (.iload 8, 2) := by decide +kernel
theorem dX2_turn_124 : decode cX2_turn 124 = .ok (.invokevirtual 42, 3) := by decide +kernel
theorem dX2_turn_127 : decode cX2_turn 127 = .ok (.aload_n 0, 1) := by decide +kernel
theorem dX2_turn_128 : decode cX2_turn 128 = .ok (.iload 11, 2) := by decide +kernel
theorem dX2_turn_130 : decode cX2_turn 130 = .ok (.iload 9, 2) := by decide +kernel
theorem dX2_turn_132 : decode cX2_turn 132 = .ok (.invokevirtual 46, 3) := by decide +kernel
theorem dX2_turn_135 : decode cX2_turn 135 = .ok (.iinc 10 1, 3) := by decide +kernel
theorem dX2_turn_138 : decode cX2_turn 138 = .ok (.goto (-40), 3) := by decide +kernel
theorem dX2_turn_141 : decode cX2_turn 141 = .ok (.iinc 5 1, 3) := by decide +kernel
theorem dX2_turn_144 : decode cX2_turn 144 = .ok (.goto (-141), 3) := by decide +kernel
theorem dX2_turn_147 : decode cX2_turn 147 = .ok (.return_, 1) := by decide +kernel
theorem dX2_turnSegment_0 : decode cX2_turnSegment 0 = .ok (.fconst 0, 1) := by decide +kernel
theorem dX2_turnSegment_1 : decode cX2_turnSegment 1 = .ok (.fstore 6, 2) := by decide +kernel
theorem dX2_turnSegment_3 : decode cX2_turnSegment 3 = .ok (.fconst 0, 1) := by decide +kernel
theorem dX2_turnSegment_4 : decode cX2_turnSegment 4 = .ok (.fstore 7, 2) := by decide +kernel
theorem dX2_turnSegment_6 : decode cX2_turnSegment 6 = .ok (.fload_n 3, 1) := by decide +kernel
theorem dX2_turnSegment_7 : decode cX2_turnSegment 7 = .ok (.fload_n 3, 1) := by decide +kernel
theorem dX2_turnSegment_8 : decode cX2_turnSegment 8 = .ok (.fmul, 1) := by decide +kernel
theorem dX2_turnSegment_9 : decode cX2_turnSegment 9 = .ok (.fload 4, 2) := by decide +kernel
theorem dX2_turnSegment_11 : decode cX2_turnSegment 11 = .ok (.fload 4, 2) := by decide +kernel
theorem dX2_turnSegment_13 : decode cX2_turnSegment 13 = .ok (.fmul, 1) := by decide +kernel
theorem dX2_turnSegment_14 : decode cX2_turnSegment 14 = .ok (.fadd, 1) := by decide +kernel
theorem dX2_turnSegment_15 : decode cX2_turnSegment 15 = .ok (.fstore 8, 2) := by decide +kernel
theorem dX2_turnSegment_17 : decode cX2_turnSegment 17 = .ok (.fload 8, 2) := by decide +kernel
theorem dX2_turnSegment_19 : decode cX2_turnSegment 19 = .ok (.fconst 0, 1) := by decide +kernel
theorem dX2_turnSegment_20 : decode cX2_turnSegment 20 = .ok (.fcmp .l, 1) := by decide +kernel
theorem dX2_turnSegment_21 : decode cX2_turnSegment 21 = .ok (.ifCond .eq 74, 3) := by decide +kernel
theorem dX2_turnSegment_24 : decode cX2_turnSegment 24 = .ok (.aload_n 1, 1) := by decide +kernel
theorem dX2_turnSegment_25 : decode cX2_turnSegment 25 = .ok (.getfield 50, 3) := by decide +kernel
theorem dX2_turnSegment_28 : decode cX2_turnSegment 28 = .ok (.iload_n 2, 1) := by decide +kernel
theorem dX2_turnSegment_29 : decode cX2_turnSegment 29 = .ok (.iaload, 1) := by decide +kernel
theorem dX2_turnSegment_30 : decode cX2_turnSegment 30 = .ok (.i2f, 1) := by decide +kernel
theorem dX2_turnSegment_31 : decode cX2_turnSegment 31 = .ok (.ldc 55, 2) := by decide +kernel
theorem dX2_turnSegment_33 : decode cX2_turnSegment 33 = .ok (.fdiv, 1) := by decide +kernel
theorem dX2_turnSegment_34 : decode cX2_turnSegment 34 = .ok (.fstore 9, 2) := by decide +kernel
theorem dX2_turnSegment_36 : decode cX2_turnSegment 36 = .ok (.aload_n 1, 1) := by decide +kernel
theorem dX2_turnSegment_37 : decode cX2_turnSegment 37 = .ok (.getfield 56, 3) := by decide +kernel
theorem dX2_turnSegment_40 : decode cX2_turnSegment 40 = .ok (.iload_n 2, 1) := by decide +kernel
theorem dX2_turnSegment_41 : decode cX2_turnSegment 41 = .ok (.iaload, 1) := by decide +kernel
theorem dX2_turnSegment_42 : decode cX2_turnSegment 42 = .ok (.i2f, 1) := by decide +kernel
theorem dX2_turnSegment_43 : decode cX2_turnSegment 43 = .ok (.ldc 55, 2) := by decide +kernel
theorem dX2_turnSegment_45 : decode cX2_turnSegment 45 = .ok (.fdiv, 1) := by decide +kernel
theorem dX2_turnSegment_46 : decode cX2_turnSegment 46 = .ok (.fstore 10, 2) := by decide +kernel
theorem dX2_turnSegment_48 : decode cX2_turnSegment 48 = .ok (.fload 9, 2) := by decide +kernel
theorem dX2_turnSegment_50 : decode cX2_turnSegment 50 = .ok (.fload_n 3, 1) := by decide +kernel
theorem dX2_turnSegment_51 : decode cX2_turnSegment 51 = .ok (.fmul, 1) := by decide +kernel
theorem dX2_turnSegment_52 : decode cX2_turnSegment 52 = .ok (.fload 10, 2) := by decide +kernel
theorem dX2_turnSegment_54 : decode cX2_turnSegment 54 = .ok (.fload 4, 2) := by decide +kernel
theorem dX2_turnSegment_56 : decode cX2_turnSegment 56 = .ok (.fmul, 1) := by decide +kernel
theorem dX2_turnSegment_57 : decode cX2_turnSegment 57 = .ok (.fadd, 1) := by decide +kernel
theorem dX2_turnSegment_58 : decode cX2_turnSegment 58 = .ok (.ldc 58, 2) := by decide +kernel
theorem dX2_turnSegment_60 : decode cX2_turnSegment 60 = .ok (.fmul, 1) := by decide +kernel
theorem dX2_turnSegment_61 : decode cX2_turnSegment 61 = .ok (.fload 8, 2) := by decide +kernel
theorem dX2_turnSegment_63 : decode cX2_turnSegment 63 = .ok (.fdiv, 1) := by decide +kernel
theorem dX2_turnSegment_64 : decode cX2_turnSegment 64 = .ok (.fstore 6, 2) := by decide +kernel
theorem dX2_turnSegment_66 : decode cX2_turnSegment 66 = .ok (.fload 10, 2) := by decide +kernel
theorem dX2_turnSegment_68 : decode cX2_turnSegment 68 = .ok (.fload_n 3, 1) := by decide +kernel
theorem dX2_turnSegment_69 : decode cX2_turnSegment 69 = .ok (.fmul, 1) := by decide +kernel
theorem dX2_turnSegment_70 : decode cX2_turnSegment 70 = .ok (.fload 9, 2) := by decide +kernel
theorem dX2_turnSegment_72 : decode cX2_turnSegment 72 = .ok (.fload 4, 2) := by decide +kernel
theorem dX2_turnSegment_74 : decode cX2_turnSegment 74 = .ok (.fmul, 1) := by decide +kernel
theorem dX2_turnSegment_75 : decode cX2_turnSegment 75 = .ok (.fsub, 1) := by decide +kernel
theorem dX2_turnSegment_76 : decode cX2_turnSegment 76 = .ok (.ldc 58, 2) := by decide +kernel
theorem dX2_turnSegment_78 : decode cX2_turnSegment 78 = .ok (.fmul, 1) := by decide +kernel
theorem dX2_turnSegment_79 : decode cX2_turnSegment 79 = .ok (.fload 8, 2) := by decide +kernel
theorem dX2_turnSegment_81 : decode cX2_turnSegment 81 = .ok (.fdiv, 1) := by decide +kernel
theorem dX2_turnSegment_82 : decode cX2_turnSegment 82 = .ok (.fstore 7, 2) := by decide +kernel
theorem dX2_turnSegment_84 : decode cX2_turnSegment 84 = .ok (.iload 5, 2) := by decide +kernel
theorem dX2_turnSegment_86 : decode cX2_turnSegment 86 = .ok (.ifCond .eq 9, 3) := by decide +kernel
theorem dX2_turnSegment_89 : decode cX2_turnSegment 89 = .ok (.fconst 0, 1) := by decide +kernel
theorem dX2_turnSegment_90 : decode cX2_turnSegment 90 = .ok (.fload 7, 2) := by decide +kernel
theorem dX2_turnSegment_92 : decode cX2_turnSegment 92 = .ok (.fsub, 1) := by decide +kernel
theorem dX2_turnSegment_93 : decode cX2_turnSegment 93 = .ok (.fstore 7, 2) := by decide +kernel
theorem dX2_turnSegment_95 : decode cX2_turnSegment 95 = .ok (.aload_n 0, 1) := by decide +kernel
theorem dX2_turnSegment_96 : decode cX2_turnSegment 96 = .ok (.getfield 9, 3) := by decide +kernel
theorem dX2_turnSegment_99 : decode cX2_turnSegment 99 = .ok (.iload_n 2, 1) := by decide +kernel
theorem dX2_turnSegment_100 : decode cX2_turnSegment 100 = .ok (.fload 6, 2) := by decide +kernel
theorem dX2_turnSegment_102 : decode cX2_turnSegment 102 = .ok (.fastore, 1) := by decide +kernel
theorem dX2_turnSegment_103 : decode cX2_turnSegment 103 = .ok (.aload_n 0, 1) := by decide +kernel
theorem dX2_turnSegment_104 : decode cX2_turnSegment 104 = .ok (.getfield 15, 3) := by decide +kernel
theorem dX2_turnSegment_107 : decode cX2_turnSegment 107 = .ok (.iload_n 2, 1) := by decide +kernel
theorem dX2_turnSegment_108 : decode cX2_turnSegment 108 = .ok (.fload 7, 2) := by decide +kernel
theorem dX2_turnSegment_110 : decode cX2_turnSegment 110 = .ok (.fastore, 1) := by decide +kernel
theorem dX2_turnSegment_111 : decode cX2_turnSegment 111 = .ok (.return_, 1) := by decide +kernel
theorem dX2_mixSegment_0 : decode cX2_mixSegment 0 = .ok (.iload_n 1, 1) := by decide +kernel
theorem dX2_mixSegment_1 : decode cX2_mixSegment 1 = .ok (.bipush 10, 2) := by decide +kernel
theorem dX2_mixSegment_3 : decode cX2_mixSegment 3 = .ok (.isub, 1) := by decide +kernel
theorem dX2_mixSegment_4 : decode cX2_mixSegment 4 = .ok (.istore_n 3, 1) := by decide +kernel
theorem dX2_mixSegment_5 : decode cX2_mixSegment 5 = .ok (.iload_n 2, 1) := by decide +kernel
theorem dX2_mixSegment_6 : decode cX2_mixSegment 6 = .ok (.ifCond .eq 54, 3) := by decide +kernel
theorem dX2_mixSegment_9 : decode cX2_mixSegment 9 = .ok (.iload_n 3, 1) := by decide +kernel
theorem dX2_mixSegment_10 : decode cX2_mixSegment 10 = .ok (.ifCond .lt 50, 3) := by decide +kernel
theorem dX2_mixSegment_13 : decode cX2_mixSegment 13 = .ok (.aload_n 0, 1) := by decide +kernel
theorem dX2_mixSegment_14 : decode cX2_mixSegment 14 = .ok (.getfield 18, 3) := by decide +kernel
theorem dX2_mixSegment_17 : decode cX2_mixSegment 17 = .ok (.iload_n 1, 1) := by decide +kernel
theorem dX2_mixSegment_18 : decode cX2_mixSegment 18 = .ok (.aload_n 0, 1) := by decide +kernel
theorem dX2_mixSegment_19 : decode cX2_mixSegment 19 = .ok (.getfield 9, 3) := by decide +kernel
theorem dX2_mixSegment_22 : decode cX2_mixSegment 22 = .ok (.iload_n 1, 1) := by decide +kernel
theorem dX2_mixSegment_23 : decode cX2_mixSegment 23 = .ok (.faload, 1) := by decide +kernel
theorem dX2_mixSegment_24 : decode cX2_mixSegment 24 = .ok (.aload_n 0, 1) := by decide +kernel
theorem dX2_mixSegment_25 : decode cX2_mixSegment 25 = .ok (.getfield 9, 3) := by decide +kernel
theorem dX2_mixSegment_28 : decode cX2_mixSegment 28 = .ok (.iload_n 3, 1) := by decide +kernel
theorem dX2_mixSegment_29 : decode cX2_mixSegment 29 = .ok (.faload, 1) := by decide +kernel
theorem dX2_mixSegment_30 : decode cX2_mixSegment 30 = .ok (.fadd, 1) := by decide +kernel
theorem dX2_mixSegment_31 : decode cX2_mixSegment 31 = .ok (.ldc 59, 2) := by decide +kernel
theorem dX2_mixSegment_33 : decode cX2_mixSegment 33 = .ok (.fmul, 1) := by decide +kernel
theorem dX2_mixSegment_34 : decode cX2_mixSegment 34 = .ok (.fastore, 1) := by decide +kernel
theorem dX2_mixSegment_35 : decode cX2_mixSegment 35 = .ok (.aload_n 0, 1) := by decide +kernel
theorem dX2_mixSegment_36 : decode cX2_mixSegment 36 = .ok (.getfield 21, 3) := by decide +kernel
theorem dX2_mixSegment_39 : decode cX2_mixSegment 39 = .ok (.iload_n 1, 1) := by decide +kernel
theorem dX2_mixSegment_40 : decode cX2_mixSegment 40 = .ok (.aload_n 0, 1) := by decide +kernel
theorem dX2_mixSegment_41 : decode cX2_mixSegment 41 = .ok (.getfield 15, 3) := by decide +kernel
theorem dX2_mixSegment_44 : decode cX2_mixSegment 44 = .ok (.iload_n 1, 1) := by decide +kernel
theorem dX2_mixSegment_45 : decode cX2_mixSegment 45 = .ok (.faload, 1) := by decide +kernel
theorem dX2_mixSegment_46 : decode cX2_mixSegment 46 = .ok (.aload_n 0, 1) := by decide +kernel
theorem dX2_mixSegment_47 : decode cX2_mixSegment 47 = .ok (.getfield 15, 3) := by decide +kernel
theorem dX2_mixSegment_50 : decode cX2_mixSegment 50 = .ok (.iload_n 3, 1) := by decide +kernel
theorem dX2_mixSegment_51 : decode cX2_mixSegment 51 = .ok (.faload, 1) := by decide +kernel
theorem dX2_mixSegment_52 : decode cX2_mixSegment 52 = .ok (.fadd, 1) := by decide +kernel
theorem dX2_mixSegment_53 : decode cX2_mixSegment 53 = .ok (.ldc 59, 2) := by decide +kernel
theorem dX2_mixSegment_55 : decode cX2_mixSegment 55 = .ok (.fmul, 1) := by decide +kernel
theorem dX2_mixSegment_56 : decode cX2_mixSegment 56 = .ok (.fastore, 1) := by decide +kernel
theorem dX2_mixSegment_57 : decode cX2_mixSegment 57 = .ok (.goto 27, 3) := by decide +kernel
theorem dX2_mixSegment_60 : decode cX2_mixSegment 60 = .ok (.aload_n 0, 1) := by decide +kernel
theorem dX2_mixSegment_61 : decode cX2_mixSegment 61 = .ok (.getfield 18, 3) := by decide +kernel
theorem dX2_mixSegment_64 : decode cX2_mixSegment 64 = .ok (.iload_n 1, 1) := by decide +kernel
theorem dX2_mixSegment_65 : decode cX2_mixSegment 65 = .ok (.aload_n 0, 1) := by decide +kernel
theorem dX2_mixSegment_66 : decode cX2_mixSegment 66 = .ok (.getfield 9, 3) := by decide +kernel
theorem dX2_mixSegment_69 : decode cX2_mixSegment 69 = .ok (.iload_n 1, 1) := by decide +kernel
theorem dX2_mixSegment_70 : decode cX2_mixSegment 70 = .ok (.faload, 1) := by decide +kernel
theorem dX2_mixSegment_71 : decode cX2_mixSegment 71 = .ok (.fastore, 1) := by decide +kernel
theorem dX2_mixSegment_72 : decode cX2_mixSegment 72 = .ok (.aload_n 0, 1) := by decide +kernel
theorem dX2_mixSegment_73 : decode cX2_mixSegment 73 = .ok (.getfield 21, 3) := by decide +kernel
theorem dX2_mixSegment_76 : decode cX2_mixSegment 76 = .ok (.iload_n 1, 1) := by decide +kernel
theorem dX2_mixSegment_77 : decode cX2_mixSegment 77 = .ok (.aload_n 0, 1) := by decide +kernel
theorem dX2_mixSegment_78 : decode cX2_mixSegment 78 = .ok (.getfield 15, 3) := by decide +kernel
theorem dX2_mixSegment_81 : decode cX2_mixSegment 81 = .ok (.iload_n 1, 1) := by decide +kernel
theorem dX2_mixSegment_82 : decode cX2_mixSegment 82 = .ok (.faload, 1) := by decide +kernel
theorem dX2_mixSegment_83 : decode cX2_mixSegment 83 = .ok (.fastore, 1) := by decide +kernel
theorem dX2_mixSegment_84 : decode cX2_mixSegment 84 = .ok (.return_, 1) := by decide +kernel
theorem dX3_init_0 : decode cX3_init 0 = .ok (.aload_n 0, 1) := by decide +kernel
theorem dX3_init_1 : decode cX3_init 1 = .ok (.invokespecial 3, 3) := by decide +kernel
theorem dX3_init_4 : decode cX3_init 4 = .ok (.aload_n 0, 1) := by decide +kernel
theorem dX3_init_5 : decode cX3_init 5 = .ok (.bipush 80, 2) := by decide +kernel
theorem dX3_init_7 : decode cX3_init 7 = .ok (.newarray .int, 2) := by decide +kernel
theorem dX3_init_9 : decode cX3_init 9 = .ok (.putfield 9, 3) := by decide +kernel
theorem dX3_init_12 : decode cX3_init 12 = .ok (.aload_n 0, 1) := by decide +kernel
theorem dX3_init_13 : decode cX3_init 13 = .ok (.bipush 80, 2) := by decide +kernel
theorem dX3_init_15 : decode cX3_init 15 = .ok (.newarray .int, 2) := by decide +kernel
theorem dX3_init_17 : decode cX3_init 17 = .ok (.putfield 15, 3) := by decide +kernel
theorem dX3_init_20 : decode cX3_init 20 = .ok (.aload_n 0, 1) := by decide +kernel
theorem dX3_init_21 : decode cX3_init 21 = .ok (.bipush 80, 2) := by decide +kernel
theorem dX3_init_23 : decode cX3_init 23 = .ok (.newarray .int, 2) := by decide +kernel
theorem dX3_init_25 : decode cX3_init 25 = .ok (.putfield 18, 3) := by decide +kernel
theorem dX3_init_28 : decode cX3_init 28 = .ok (.aload_n 0, 1) := by decide +kernel
theorem dX3_init_29 : decode cX3_init 29 = .ok (.bipush 80, 2) := by decide +kernel
theorem dX3_init_31 : decode cX3_init 31 = .ok (.newarray .int, 2) := by decide +kernel
theorem dX3_init_33 : decode cX3_init 33 = .ok (.putfield 21, 3) := by decide +kernel
theorem dX3_init_36 : decode cX3_init 36 = .ok (.aload_n 0, 1) := by decide +kernel
theorem dX3_init_37 : decode cX3_init 37 = .ok (.bipush 80, 2) := by decide +kernel
theorem dX3_init_39 : decode cX3_init 39 = .ok (.newarray .int, 2) := by decide +kernel
theorem dX3_init_41 : decode cX3_init 41 = .ok (.putfield 24, 3) := by decide +kernel
theorem dX3_init_44 : decode cX3_init 44 = .ok (.return_, 1) := by decide +kernel
theorem dX3_separate_0 : decode cX3_separate 0 = .ok (.iload 4, 2) := by decide +kernel
theorem dX3_separate_2 : decode cX3_separate 2 = .ok (.iconst 1, 1) := by decide +kernel
theorem dX3_separate_3 : decode cX3_separate 3 = .ok (.if_icmp .ne 7, 3) := by decide +kernel
theorem dX3_separate_6 : decode cX3_separate 6 = .ok (.iconst 0, 1) := by decide +kernel
theorem dX3_separate_7 : decode cX3_separate 7 = .ok (.goto 7, 3) := by decide +kernel
theorem dX3_separate_10 : decode cX3_separate 10 = .ok (.aload_n 3, 1) := by decide +kernel
theorem dX3_separate_11 : decode cX3_separate 11 = .ok (.invokevirtual 27, 3) := by decide +kernel
theorem dX3_separate_14 : decode cX3_separate 14 = .ok (.istore 5, 2) := by decide +kernel
theorem dX3_separate_16 : decode cX3_separate 16 = .ok (.bipush 8, 2) := by decide +kernel
theorem dX3_separate_18 : decode cX3_separate 18 = .ok (.aload_n 3, 1) := by decide +kernel
theorem dX3_separate_19 : decode cX3_separate 19 = .ok (.invokevirtual 33, 3) := by decide +kernel
theorem dX3_separate_22 : decode cX3_separate 22 = .ok (.imul, 1) := by decide +kernel
theorem dX3_separate_23 : decode cX3_separate 23 = .ok (.istore 6, 2) := by decide +kernel
theorem dX3_separate_25 : decode cX3_separate 25 = .ok (.aload_n 0, 1) := by decide +kernel
theorem dX3_separate_26 : decode cX3_separate 26 = .ok (.aload_n 1, 1) := by decide +kernel
theorem dX3_separate_27 : decode cX3_separate 27 = .ok (.aload_n 2, 1) := by decide +kernel
theorem dX3_separate_28 : decode cX3_separate 28 = .ok (.invokevirtual 36, 3) := by decide +kernel
theorem dX3_separate_31 : decode cX3_separate 31 = .ok (.iconst 0, 1) := by decide +kernel
theorem dX3_separate_32 : decode cX3_separate 32 = .ok (.istore 7, 2) := by decide +kernel
theorem dX3_separate_34 : decode cX3_separate 34 = .ok (.iload 7, 2) := by decide +kernel
theorem dX3_separate_36 : decode cX3_separate 36 = .ok (.bipush 8, 2) := by decide +kernel
theorem dX3_separate_38 : decode cX3_separate 38 = .ok (.if_icmp .ge 56, 3) := by decide +kernel
theorem dX3_separate_41 : decode cX3_separate 41 = .ok (.iconst 0, 1) := by decide +kernel
theorem dX3_separate_42 : decode cX3_separate 42 = .ok (.istore 8, 2) := by decide +kernel
theorem dX3_separate_44 : decode cX3_separate 44 = .ok (.iload 8, 2) := by decide +kernel
theorem dX3_separate_46 : decode cX3_separate 46 = .ok (.bipush 10, 2) := by decide +kernel
theorem dX3_separate_48 : decode cX3_separate 48 = .ok (.if_icmp .ge 40, 3) := by decide +kernel
theorem dX3_separate_51 : decode cX3_separate 51 = .ok (.aload_n 0, 1) := by decide +kernel
theorem dX3_separate_52 : decode cX3_separate 52 = .ok (.iload 7, 2) := by decide +kernel
theorem dX3_separate_54 : decode cX3_separate 54 = .ok (.iload 7, 2) := by decide +kernel
theorem dX3_separate_56 : decode cX3_separate 56 = .ok (.iload 8, 2) := by decide +kernel
theorem dX3_separate_58 : decode cX3_separate 58 = .ok (.invokestatic 40, 3) := by decide +kernel
theorem dX3_separate_61 : decode cX3_separate 61 = .ok (.iload 5, 2) := by decide +kernel
theorem dX3_separate_63 : decode cX3_separate 63 = .ok (.iload 6, 2) := by decide +kernel
theorem dX3_separate_65 : decode cX3_separate 65 = .ok (.invokevirtual 44, 3) := by decide +kernel
theorem dX3_separate_68 : decode cX3_separate 68 = .ok (.istore 9, 2) := by decide +kernel
theorem dX3_separate_70 : decode cX3_separate 70 = .ok (.aload_n 0, 1) := by decide +kernel
theorem dX3_separate_71 : decode cX3_separate 71 = .ok (.aload_n 1, 1) := by decide +kernel
theorem dX3_separate_72 : decode cX3_separate 72 = .ok (.aload_n 2, 1) := by decide +kernel
theorem dX3_separate_73 : decode cX3_separate 73 = .ok (.iload 7, 2) := by decide +kernel
theorem dX3_separate_75 : decode cX3_separate 75 = .ok (.iload 8, 2) := by decide +kernel
theorem dX3_separate_77 : decode cX3_separate 77 = .ok (.iload 9, 2) := by decide +kernel
theorem dX3_separate_79 : decode cX3_separate 79 = .ok (.invokevirtual 48, 3) := by decide +kernel
theorem dX3_separate_82 : decode cX3_separate 82 = .ok (.iinc 8 1, 3) := by decide +kernel
theorem dX3_separate_85 : decode cX3_separate 85 = .ok (.goto (-41), 3) := by decide +kernel
theorem dX3_separate_88 : decode cX3_separate 88 = .ok (.iinc 7 1, 3) := by decide +kernel
theorem dX3_separate_91 : decode cX3_separate 91 = .ok (.goto (-57), 3) := by decide +kernel
theorem dX3_separate_94 : decode cX3_separate 94 = .ok (.return_, 1) := by decide +kernel
theorem dX3_sumUp_0 : decode cX3_sumUp 0 = .ok (.iconst 0, 1) := by decide +kernel
theorem dX3_sumUp_1 : decode cX3_sumUp 1 = .ok (.istore_n 3, 1) := by decide +kernel
theorem dX3_sumUp_2 : decode cX3_sumUp 2 = .ok (.iload_n 3, 1) := by decide +kernel
theorem dX3_sumUp_3 : decode cX3_sumUp 3 = .ok (.bipush 8, 2) := by decide +kernel
theorem dX3_sumUp_5 : decode cX3_sumUp 5 = .ok (.if_icmp .ge 57, 3) := by decide +kernel
theorem dX3_sumUp_8 : decode cX3_sumUp 8 = .ok (.aload_n 2, 1) := by decide +kernel
theorem dX3_sumUp_9 : decode cX3_sumUp 9 = .ok (.iload_n 3, 1) := by decide +kernel
theorem dX3_sumUp_10 : decode cX3_sumUp 10 = .ok (.iaload, 1) := by decide +kernel
theorem dX3_sumUp_11 : decode cX3_sumUp 11 = .ok (.bipush 16, 2) := by decide +kernel
theorem dX3_sumUp_13 : decode cX3_sumUp 13 = .ok (.iadd, 1) := by decide +kernel
theorem dX3_sumUp_14 : decode cX3_sumUp 14 = .ok (.istore 4, 2) := by decide +kernel
theorem dX3_sumUp_16 : decode cX3_sumUp 16 = .ok (.iconst 0, 1) := by decide +kernel
theorem dX3_sumUp_17 : decode cX3_sumUp 17 = .ok (.istore 5, 2) := by decide +kernel
theorem dX3_sumUp_19 : decode cX3_sumUp 19 = .ok (.iload 5, 2) := by decide +kernel
theorem dX3_sumUp_21 : decode cX3_sumUp 21 = .ok (.bipush 10, 2) := by decide +kernel
theorem dX3_sumUp_23 : decode cX3_sumUp 23 = .ok (.if_icmp .ge 33, 3) := by decide +kernel
theorem dX3_sumUp_26 : decode cX3_sumUp 26 = .ok (.aload_n 0, 1) := by decide +kernel
theorem dX3_sumUp_27 : decode cX3_sumUp 27 = .ok (.getfield 9, 3) := by decide +kernel
theorem dX3_sumUp_30 : decode cX3_sumUp 30 = .ok (.iload_n 3, 1) := by decide +kernel
theorem dX3_sumUp_31 : decode cX3_sumUp 31 = .ok (.iload 5, 2) := by decide +kernel
theorem dX3_sumUp_33 : decode cX3_sumUp 33 = .ok (.invokestatic 40, 3) := by decide +kernel
theorem dX3_sumUp_36 : decode cX3_sumUp 36 = .ok (.aload_n 1, 1) := by decide +kernel
theorem dX3_sumUp_37 : decode cX3_sumUp 37 = .ok (.iload_n 3, 1) := by decide +kernel
theorem dX3_sumUp_38 : decode cX3_sumUp 38 = .ok (.iload 4, 2) := by decide +kernel
theorem dX3_sumUp_40 : decode cX3_sumUp 40 = .ok (.bipush 8, 2) := by decide +kernel
theorem dX3_sumUp_42 : decode cX3_sumUp 42 = .ok (.iload 5, 2) := by decide +kernel
theorem dX3_sumUp_44 : decode cX3_sumUp 44 = .ok (.imul, 1) := by decide +kernel
theorem dX3_sumUp_45 : decode cX3_sumUp 45 = .ok (.iadd, 1) := by decide +kernel
theorem dX3_sumUp_46 : decode cX3_sumUp 46 = .ok (.invokevirtual 52, 3) := by decide +kernel
theorem dX3_sumUp_49 : decode cX3_sumUp 49 = .ok (.iastore, 1) := by decide +kernel
theorem dX3_sumUp_50 : decode cX3_sumUp 50 = .ok (.iinc 5 1, 3) := by decide +kernel
theorem dX3_sumUp_53 : decode cX3_sumUp 53 = .ok (.goto (-34), 3) := by decide +kernel
theorem dX3_sumUp_56 : decode cX3_sumUp 56 = .ok (.iinc 3 1, 3) := by decide +kernel
theorem dX3_sumUp_59 : decode cX3_sumUp 59 = .ok (.goto (-57), 3) := by decide +kernel
theorem dX3_sumUp_62 : decode cX3_sumUp 62 = .ok (.return_, 1) := by decide +kernel
theorem dX3_wayFor_0 : decode cX3_wayFor 0 = .ok (.iload_n 1, 1) := by decide +kernel
theorem dX3_wayFor_1 : decode cX3_wayFor 1 = .ok (.ifCond .le 7, 3) := by decide +kernel
theorem dX3_wayFor_4 : decode cX3_wayFor 4 = .ok (.iconst 1, 1) := by decide +kernel
theorem dX3_wayFor_5 : decode cX3_wayFor 5 = .ok (.goto 4, 3) := by decide +kernel
theorem dX3_wayFor_8 : decode cX3_wayFor 8 = .ok (.iconst 0, 1) := by decide +kernel
theorem dX3_wayFor_9 : decode cX3_wayFor 9 = .ok (.istore 5, 2) := by decide +kernel
theorem dX3_wayFor_11 : decode cX3_wayFor 11 = .ok (.iload_n 1, 1) := by decide +kernel
theorem dX3_wayFor_12 : decode cX3_wayFor 12 = .ok (.bipush 7, 2) := by decide +kernel
theorem dX3_wayFor_14 : decode cX3_wayFor 14 = .ok (.if_icmp .ge 7, 3) := by decide +kernel
theorem dX3_wayFor_17 : decode cX3_wayFor 17 = .ok (.iconst 1, 1) := by decide +kernel
theorem dX3_wayFor_18 : decode cX3_wayFor 18 = .ok (.goto 4, 3) := by decide +kernel
theorem dX3_wayFor_21 : decode cX3_wayFor 21 = .ok (.iconst 0, 1) := by decide +kernel
theorem dX3_wayFor_22 : decode cX3_wayFor 22 = .ok (.istore 6, 2) := by decide +kernel
theorem dX3_wayFor_24 : decode cX3_wayFor 24 = .ok (.iload_n 3, 1) := by decide +kernel
theorem dX3_wayFor_25 : decode cX3_wayFor 25 = .ok (.tableswitch 96 1 3 #[27, 38, 41], 27) := by decide +kernel
theorem dX3_wayFor_52 : decode cX3_wayFor 52 = .ok (.iload 5, 2) := by decide +kernel
theorem dX3_wayFor_54 : decode cX3_wayFor 54 = .ok (.ifCond .eq 7, 3) := by decide +kernel
theorem dX3_wayFor_57 : decode cX3_wayFor 57 = .ok (.iconst 1, 1) := by decide +kernel
theorem dX3_wayFor_58 : decode cX3_wayFor 58 = .ok (.goto 4, 3) := by decide +kernel
theorem dX3_wayFor_61 : decode cX3_wayFor 61 = .ok (.iconst 2, 1) := by decide +kernel
theorem dX3_wayFor_62 : decode cX3_wayFor 62 = .ok (.ireturn, 1) := by decide +kernel
theorem dX3_wayFor_63 : decode cX3_wayFor 63 = .ok (.goto 60, 3) := by decide +kernel
theorem dX3_wayFor_66 : decode cX3_wayFor 66 = .ok (.iload 5, 2) := by decide +kernel
theorem dX3_wayFor_68 : decode cX3_wayFor 68 = .ok (.ifCond .eq 21, 3) := by decide +kernel
theorem dX3_wayFor_71 : decode cX3_wayFor 71 = .ok (.aload_n 0, 1) := by decide +kernel
theorem dX3_wayFor_72 : decode cX3_wayFor 72 = .ok (.iload_n 2, 1) := by decide +kernel
theorem dX3_wayFor_73 : decode cX3_wayFor 73 = .ok (.iload_n 2, 1) := by decide +kernel
theorem dX3_wayFor_74 : decode cX3_wayFor 74 = .ok (.bipush 10, 2) := by decide +kernel
theorem dX3_wayFor_76 : decode cX3_wayFor 76 = .ok (.isub, 1) := by decide +kernel
theorem dX3_wayFor_77 : decode cX3_wayFor 77 = .ok (.iload 4, 2) := by decide +kernel
theorem dX3_wayFor_79 : decode cX3_wayFor 79 = .ok (.invokevirtual 57, 3) := by decide +kernel
theorem dX3_wayFor_82 : decode cX3_wayFor 82 = .ok (.ifCond .eq 7, 3) := by decide +kernel
theorem dX3_wayFor_85 : decode cX3_wayFor 85 = .ok (.iconst 1, 1) := by decide +kernel
theorem dX3_wayFor_86 : decode cX3_wayFor 86 = .ok (.goto 4, 3) := by decide +kernel
theorem dX3_wayFor_89 : decode cX3_wayFor 89 = .ok (.iconst 0, 1) := by decide +kernel
theorem dX3_wayFor_90 : decode cX3_wayFor 90 = .ok (.istore 5, 2) := by decide +kernel
theorem dX3_wayFor_92 : decode cX3_wayFor 92 = .ok (.iload 6, 2) := by decide +kernel
theorem dX3_wayFor_94 : decode cX3_wayFor 94 = .ok (.ifCond .eq 21, 3) := by decide +kernel
theorem dX3_wayFor_97 : decode cX3_wayFor 97 = .ok (.aload_n 0, 1) := by decide +kernel
theorem dX3_wayFor_98 : decode cX3_wayFor 98 = .ok (.iload_n 2, 1) := by decide +kernel
theorem dX3_wayFor_99 : decode cX3_wayFor 99 = .ok (.iload_n 2, 1) := by decide +kernel
theorem dX3_wayFor_100 : decode cX3_wayFor 100 = .ok (.bipush 10, 2) := by decide +kernel
theorem dX3_wayFor_102 : decode cX3_wayFor 102 = .ok (.iadd, 1) := by decide +kernel
theorem dX3_wayFor_103 : decode cX3_wayFor 103 = .ok (.iload 4, 2) := by decide +kernel
theorem dX3_wayFor_105 : decode cX3_wayFor 105 = .ok (.invokevirtual 57, 3) := by decide +kernel
theorem dX3_wayFor_108 : decode cX3_wayFor 108 = .ok (.ifCond .eq 7, 3) := by decide +kernel
theorem dX3_wayFor_111 : decode cX3_wayFor 111 = .ok (.iconst 1, 1) := by decide +kernel
theorem dX3_wayFor_112 : decode cX3_wayFor 112 = .ok (.goto 4, 3) := by decide +kernel
theorem dX3_wayFor_115 : decode cX3_wayFor 115 = .ok (.iconst 0, 1) := by decide +kernel
theorem dX3_wayFor_116 : decode cX3_wayFor 116 = .ok (.istore 6, 2) := by decide +kernel
theorem dX3_wayFor_118 : decode cX3_wayFor 118 = .ok (.goto 5, 3) := by decide +kernel
theorem dX3_wayFor_121 : decode cX3_wayFor 121 = .ok (.iconst 0, 1) := by decide +kernel
theorem dX3_wayFor_122 : decode cX3_wayFor 122 = .ok (.ireturn, 1) := by decide +kernel
theorem dX3_wayFor_123 : decode cX3_wayFor 123 = .ok (.iload 5, 2) := by decide +kernel
theorem dX3_wayFor_125 : decode cX3_wayFor 125 = .ok (.ifCond .eq 7, 3) := by decide +kernel
theorem dX3_wayFor_128 : decode cX3_wayFor 128 = .ok (.iconst 1, 1) := by decide +kernel
theorem dX3_wayFor_129 : decode cX3_wayFor 129 = .ok (.goto 4, 3) := by decide +kernel
theorem dX3_wayFor_132 : decode cX3_wayFor 132 = .ok (.iconst 0, 1) := by decide +kernel
theorem dX3_wayFor_133 : decode cX3_wayFor 133 = .ok (.iload 6, 2) := by decide +kernel
theorem dX3_wayFor_135 : decode cX3_wayFor 135 = .ok (.ifCond .eq 7, 3) := by decide +kernel
theorem dX3_wayFor_138 : decode cX3_wayFor 138 = .ok (.iconst 2, 1) := by decide +kernel
theorem dX3_wayFor_139 : decode cX3_wayFor 139 = .ok (.goto 4, 3) := by decide +kernel
theorem dX3_wayFor_142 : decode cX3_wayFor 142 = .ok (.iconst 0, 1) := by decide +kernel
theorem dX3_wayFor_143 : decode cX3_wayFor 143 = .ok (.iadd, 1) := by decide +kernel
theorem dX3_wayFor_144 : decode cX3_wayFor 144 = .ok (.ireturn, 1) := by decide +kernel
theorem dX3_isNear_0 : decode cX3_isNear 0 = .ok (.iload_n 2, 1) := by decide +kernel
theorem dX3_isNear_1 : decode cX3_isNear 1 = .ok (.iconst 0, 1) := by decide +kernel
theorem dX3_isNear_2 : decode cX3_isNear 2 = .ok (.bipush 79, 2) := by decide +kernel
theorem dX3_isNear_4 : decode cX3_isNear 4 = .ok (.invokestatic 61, 3) := by decide +kernel
theorem dX3_isNear_7 : decode cX3_isNear 7 = .ok (.ifCond .eq 27, 3) := by decide +kernel
theorem dX3_isNear_10 : decode cX3_isNear 10 = .ok (.aload_n 0, 1) := by decide +kernel
theorem dX3_isNear_11 : decode cX3_isNear 11 = .ok (.getfield 9, 3) := by decide +kernel
theorem dX3_isNear_14 : decode cX3_isNear 14 = .ok (.iload_n 2, 1) := by decide +kernel
theorem dX3_isNear_15 : decode cX3_isNear 15 = .ok (.iaload, 1) := by decide +kernel
theorem dX3_isNear_16 : decode cX3_isNear 16 = .ok (.aload_n 0, 1) := by decide +kernel
theorem dX3_isNear_17 : decode cX3_isNear 17 = .ok (.getfield 9, 3) := by decide +kernel
theorem dX3_isNear_20 : decode cX3_isNear 20 = .ok (.iload_n 1, 1) := by decide +kernel
theorem dX3_isNear_21 : decode cX3_isNear 21 = .ok (.iaload, 1) := by decide +kernel
theorem dX3_isNear_22 : decode cX3_isNear 22 = .ok (.isub, 1) := by decide +kernel
theorem dX3_isNear_23 : decode cX3_isNear 23 = .ok (.invokestatic 64, 3) := by decide +kernel
theorem dX3_isNear_26 : decode cX3_isNear 26 = .ok (.iload_n 3, 1) := by decide +kernel
theorem dX3_isNear_27 : decode cX3_isNear 27 = .ok (.if_icmp .gt 7, 3) := by decide +kernel
theorem dX3_isNear_30 : decode cX3_isNear 30 = .ok (.iconst 1, 1) := by decide +kernel
theorem dX3_isNear_31 : decode cX3_isNear 31 = .ok (.goto 4, 3) := by decide +kernel
theorem dX3_isNear_34 : decode cX3_isNear 34 = .ok (.iconst 0, 1) := by decide +kernel
theorem dX3_isNear_35 : decode cX3_isNear 35 = .ok (.ireturn, 1) := by decide +kernel
theorem dX3_splitSegment_0 : decode cX3_splitSegment 0 = .ok (.iconst 0, 1) := by decide +kernel
theorem dX3_splitSegment_1 : decode cX3_splitSegment 1 = .ok (.istore 6, 2) := by decide +kernel
theorem dX3_splitSegment_3 : decode cX3_splitSegment 3 = .ok (.iconst 0, 1) := by decide +kernel
theorem dX3_splitSegment_4 : decode cX3_splitSegment 4 = .ok (.istore 7, 2) := by decide +kernel
theorem dX3_splitSegment_6 : decode cX3_splitSegment 6 = .ok (.iconst 0, 1) := by decide +kernel
theorem dX3_splitSegment_7 : decode cX3_splitSegment 7 = .ok (.istore 8, 2) := by decide +kernel
theorem dX3_splitSegment_9 : decode cX3_splitSegment 9 = .ok (.bipush 16, 2) := by decide +kernel
theorem dX3_splitSegment_11 : decode cX3_splitSegment 11 = .ok (.bipush 8, 2) := by decide +kernel
theorem dX3_splitSegment_13 : decode cX3_splitSegment 13 = .ok (.iload 4, 2) := by decide +kernel
theorem dX3_splitSegment_15 : decode cX3_splitSegment 15 = .ok (.imul, 1) := by decide +kernel
theorem dX3_splitSegment_16 : decode cX3_splitSegment 16 = .ok (.iadd, 1) := by decide +kernel
theorem dX3_splitSegment_17 : decode cX3_splitSegment 17 = .ok (.istore 9, 2) := by decide +kernel
theorem dX3_splitSegment_19 : decode cX3_splitSegment 19 = .ok (.iconst 0, 1) := by decide +kernel
theorem dX3_splitSegment_20 : decode cX3_splitSegment 20 = .ok (.istore 10, 2) := by decide +kernel
theorem dX3_splitSegment_22 : decode cX3_splitSegment 22 = .ok (.iload 10, 2) := by decide +kernel
theorem dX3_splitSegment_24 : decode cX3_splitSegment 24 = .ok (.bipush 8, 2) := by decide +kernel
theorem dX3_splitSegment_26 : decode cX3_splitSegment 26 = .ok (.if_icmp .ge 74, 3) := by decide +kernel
theorem dX3_splitSegment_29 : decode cX3_splitSegment 29 = .ok (.aload_n 1, 1) := by decide +kernel
theorem dX3_splitSegment_30 : decode cX3_splitSegment 30 = .ok (.aload_n 2, 1) := by decide +kernel
theorem dX3_splitSegment_31 : decode cX3_splitSegment 31 = .ok (.iload_n 3, 1) := by decide +kernel
theorem dX3_splitSegment_32 : decode cX3_splitSegment 32 = .ok (.iload 9, 2) := by decide +kernel
theorem dX3_splitSegment_34 : decode cX3_splitSegment 34 = .ok (.iload 10, 2) := by decide +kernel
theorem dX3_splitSegment_36 : decode cX3_splitSegment 36 = .ok (.iadd, 1) := by decide +kernel
theorem dX3_splitSegment_37 : decode cX3_splitSegment 37 = .ok (.iload 5, 2) := by decide +kernel
theorem dX3_splitSegment_39 : decode cX3_splitSegment 39 = .ok (.invokestatic 70, 3) := by decide +kernel
theorem dX3_splitSegment_42 : decode cX3_splitSegment 42 = .ok (.istore 11, 2) := by decide +kernel
theorem dX3_splitSegment_44 : decode cX3_splitSegment 44 = .ok (.iload_n 3, 1) := by decide +kernel
theorem dX3_splitSegment_45 : decode cX3_splitSegment 45 = .ok (.aload_n 2, 1) := by decide +kernel
theorem dX3_splitSegment_46 : decode cX3_splitSegment 46 = .ok (.iload_n 3, 1) := by decide +kernel
theorem dX3_splitSegment_47 : decode cX3_splitSegment 47 = .ok (.iaload, 1) := by decide +kernel
theorem dX3_splitSegment_48 : decode cX3_splitSegment 48 = .ok (.iload 9, 2) := by decide +kernel
theorem dX3_splitSegment_50 : decode cX3_splitSegment 50 = .ok (.iadd, 1) := by decide +kernel
theorem dX3_splitSegment_51 : decode cX3_splitSegment 51 = .ok (.iload 10, 2) := by decide +kernel
theorem dX3_splitSegment_53 : decode cX3_splitSegment 53 = .ok (.iadd, 1) := by decide +kernel
theorem dX3_splitSegment_54 : decode cX3_splitSegment 54 = .ok (.invokestatic 74, 3) := by decide +kernel
theorem dX3_splitSegment_57 : decode cX3_splitSegment 57 = .ok (.istore 12, 2) := by decide +kernel
theorem dX3_splitSegment_59 : decode cX3_splitSegment 59 = .ok (.iload 6, 2) := by decide +kernel
theorem dX3_splitSegment_61 : decode cX3_splitSegment 61 = .ok (.iload 11, 2) := by decide +kernel
theorem dX3_splitSegment_63 : decode cX3_splitSegment 63 = .ok (.iadd, 1) := by decide +kernel
theorem dX3_splitSegment_64 : decode cX3_splitSegment 64 = .ok (.istore 6, 2) := by decide +kernel
theorem dX3_splitSegment_66 : decode cX3_splitSegment 66 = .ok (.iload 7, 2) := by decide +kernel
theorem dX3_splitSegment_68 : decode cX3_splitSegment 68 = .ok (.iload 11, 2) := by decide +kernel
theorem dX3_splitSegment_70 : decode cX3_splitSegment 70 = .ok (.getstatic 77, 3) := by decide +kernel
theorem dX3_splitSegment_73 : decode cX3_splitSegment 73 = .ok (.iload 12, 2) := by decide +kernel
theorem dX3_splitSegment_75 : decode cX3_splitSegment 75 = .ok (.iaload, 1) := by decide +kernel
theorem dX3_splitSegment_76 : decode cX3_splitSegment 76 = .ok (.imul, 1) := by decide +kernel
theorem dX3_splitSegment_77 : decode cX3_splitSegment 77 = .ok (.iadd, 1) := by decide +kernel
theorem dX3_splitSegment_78 : decode cX3_splitSegment 78 = .ok (.istore 7, 2) := by decide +kernel
theorem dX3_splitSegment_80 : decode cX3_splitSegment 80 = .ok (.iload 8, 2) := by decide +kernel
theorem dX3_splitSegment_82 : decode cX3_splitSegment 82 = .ok (.iload 11, 2) := by decide +kernel
theorem dX3_splitSegment_84 : decode cX3_splitSegment 84 = .ok (.getstatic 80, 3) := by decide +kernel
theorem dX3_splitSegment_87 : decode cX3_splitSegment 87 = .ok (.iload 12, 2) := by decide +kernel
theorem dX3_splitSegment_89 : decode cX3_splitSegment 89 = .ok (.iaload, 1) := by decide +kernel
theorem dX3_splitSegment_90 : decode cX3_splitSegment 90 = .ok (.imul, 1) := by decide +kernel
theorem dX3_splitSegment_91 : decode cX3_splitSegment 91 = .ok (.iadd, 1) := by decide +kernel
theorem dX3_splitSegment_92 : decode cX3_splitSegment 92 = .ok (.istore 8, 2) := by decide +kernel
theorem dX3_splitSegment_94 : decode cX3_splitSegment 94 = .ok (.iinc 10 1, 3) := by decide +kernel
theorem dX3_splitSegment_97 : decode cX3_splitSegment 97 = .ok (.goto (-75), 3) := by decide +kernel
theorem dX3_splitSegment_100 : decode cX3_splitSegment 100 = .ok (.iload_n 3, 1) := by decide +kernel
theorem dX3_splitSegment_101 : decode cX3_splitSegment 101 = .ok (.iload 4, 2) := by decide +kernel
theorem dX3_splitSegment_103 : decode cX3_splitSegment 103 = .ok (.invokestatic 40, 3) := by decide +kernel
theorem dX3_splitSegment_106 : decode cX3_splitSegment 106 = .ok (.istore 10, 2) := by decide +kernel
theorem dX3_splitSegment_108 : decode cX3_splitSegment 108 = .ok (.aload_n 0, 1) := by decide +kernel
theorem dX3_splitSegment_109 : decode cX3_splitSegment 109 = .ok (.getfield 15, 3) := by decide +kernel
theorem dX3_splitSegment_112 : decode cX3_splitSegment 112 = .ok (.iload 10, 2) := by decide +kernel
theorem dX3_splitSegment_114 : decode cX3_splitSegment 114 = .ok (.iconst 4, 1) := by decide +kernel
theorem dX3_splitSegment_115 : decode cX3_splitSegment 115 = .ok (.aload_n 0, 1) := by decide +kernel
theorem dX3_splitSegment_116 : decode cX3_splitSegment 116 = .ok (.getfield 9, 3) := by decide +kernel
theorem dX3_splitSegment_119 : decode cX3_splitSegment 119 = .ok (.iload 10, 2) := by decide +kernel
theorem dX3_splitSegment_121 : decode cX3_splitSegment 121 = .ok (.iaload, 1) := by decide +kernel
theorem dX3_splitSegment_122 : decode cX3_splitSegment 122 = .ok (.imul, 1) := by decide +kernel
theorem dX3_splitSegment_123 : decode cX3_splitSegment 123 = .ok (.iload 6, 2) := by decide +kernel
theorem dX3_splitSegment_125 : decode cX3_splitSegment 125 = .ok (.isub, 1) := by decide +kernel
theorem dX3_splitSegment_126 : decode cX3_splitSegment 126 = .ok (.bipush 32, 2) := by decide +kernel
theorem dX3_splitSegment_128 : decode cX3_splitSegment 128 = .ok (.invokestatic 83, 3) := by decide +kernel
theorem dX3_splitSegment_131 : decode cX3_splitSegment 131 = .ok (.iastore, 1) := by decide +kernel
theorem dX3_splitSegment_132 : decode cX3_splitSegment 132 = .ok (.aload_n 0, 1) := by decide +kernel
theorem dX3_splitSegment_133 : decode cX3_splitSegment 133 = .ok (.getfield 18, 3) := by decide +kernel
theorem dX3_splitSegment_136 : decode cX3_splitSegment 136 = .ok (.iload 10, 2) := by decide +kernel
theorem dX3_splitSegment_138 : decode cX3_splitSegment 138 = .ok (.iload 5, 2) := by decide +kernel
theorem dX3_splitSegment_140 : decode cX3_splitSegment 140 = .ok (.iastore, 1) := by decide +kernel
theorem dX3_splitSegment_141 : decode cX3_splitSegment 141 = .ok (.aload_n 0, 1) := by decide +kernel
theorem dX3_splitSegment_142 : decode cX3_splitSegment 142 = .ok (.getfield 21, 3) := by decide +kernel
theorem dX3_splitSegment_145 : decode cX3_splitSegment 145 = .ok (.iload 10, 2) := by decide +kernel
theorem dX3_splitSegment_147 : decode cX3_splitSegment 147 = .ok (.iload 7, 2) := by decide +kernel
theorem dX3_splitSegment_149 : decode cX3_splitSegment 149 = .ok (.iastore, 1) := by decide +kernel
theorem dX3_splitSegment_150 : decode cX3_splitSegment 150 = .ok (.aload_n 0, 1) := by decide +kernel
theorem dX3_splitSegment_151 : decode cX3_splitSegment 151 = .ok (.getfield 24, 3) := by decide +kernel
theorem dX3_splitSegment_154 : decode cX3_splitSegment 154 = .ok (.iload 10, 2) := by decide +kernel
theorem dX3_splitSegment_156 : decode cX3_splitSegment 156 = .ok (.iload 8, 2) := by decide +kernel
theorem dX3_splitSegment_158 : decode cX3_splitSegment 158 = .ok (.iastore, 1) := by decide +kernel
theorem dX3_splitSegment_159 : decode cX3_splitSegment 159 = .ok (.return_, 1) := by decide +kernel
theorem dX3_chromaAt_0 : decode cX3_chromaAt 0 = .ok (.iconst 2, 1) := by decide +kernel
theorem dX3_chromaAt_1 : decode cX3_chromaAt 1 = .ok (.aload_n 0, 1) := by decide +kernel
theorem dX3_chromaAt_2 : decode cX3_chromaAt 2 = .ok (.aload_n 1, 1) := by decide +kernel
theorem dX3_chromaAt_3 : decode cX3_chromaAt 3 = .ok (.iload_n 2, 1) := by decide +kernel
theorem dX3_chromaAt_4 : decode cX3_chromaAt 4 = .ok (.iload_n 3, 1) := by decide +kernel
theorem dX3_chromaAt_5 : decode cX3_chromaAt 5 = .ok (.invokestatic 86, 3) := by decide +kernel
theorem dX3_chromaAt_8 : decode cX3_chromaAt 8 = .ok (.imul, 1) := by decide +kernel
theorem dX3_chromaAt_9 : decode cX3_chromaAt 9 = .ok (.istore 5, 2) := by decide +kernel
theorem dX3_chromaAt_11 : decode cX3_chromaAt 11 = .ok (.iload 4, 2) := by decide +kernel
theorem dX3_chromaAt_13 : decode cX3_chromaAt 13 = .ok (.tableswitch 80 1 3 #[27, 42, 57], 27) := by decide +kernel
theorem dX3_chromaAt_40 : decode cX3_chromaAt 40 = .ok (.iload 5, 2) := by decide +kernel
theorem dX3_chromaAt_42 : decode cX3_chromaAt 42 = .ok (.iconst 2, 1) := by decide +kernel
theorem dX3_chromaAt_43 : decode cX3_chromaAt 43 = .ok (.aload_n 0, 1) := by decide +kernel
theorem dX3_chromaAt_44 : decode cX3_chromaAt 44 = .ok (.aload_n 1, 1) := by decide +kernel
theorem dX3_chromaAt_45 : decode cX3_chromaAt 45 = .ok (.iload_n 2, 1) := by decide +kernel
theorem dX3_chromaAt_46 : decode cX3_chromaAt 46 = .ok (.iconst 1, 1) := by decide +kernel
theorem dX3_chromaAt_47 : decode cX3_chromaAt 47 = .ok (.isub, 1) := by decide +kernel
theorem dX3_chromaAt_48 : decode cX3_chromaAt 48 = .ok (.iload_n 3, 1) := by decide +kernel
theorem dX3_chromaAt_49 : decode cX3_chromaAt 49 = .ok (.invokestatic 86, 3) := by decide +kernel
theorem dX3_chromaAt_52 : decode cX3_chromaAt 52 = .ok (.imul, 1) := by decide +kernel
theorem dX3_chromaAt_53 : decode cX3_chromaAt 53 = .ok (.isub, 1) := by decide +kernel
theorem dX3_chromaAt_54 : decode cX3_chromaAt 54 = .ok (.ireturn, 1) := by decide +kernel
theorem dX3_chromaAt_55 : decode cX3_chromaAt 55 = .ok (.iload 5, 2) := by decide +kernel
theorem dX3_chromaAt_57 : decode cX3_chromaAt 57 = .ok (.iconst 2, 1) := by decide +kernel
theorem dX3_chromaAt_58 : decode cX3_chromaAt 58 = .ok (.aload_n 0, 1) := by decide +kernel
theorem dX3_chromaAt_59 : decode cX3_chromaAt 59 = .ok (.aload_n 1, 1) := by decide +kernel
theorem dX3_chromaAt_60 : decode cX3_chromaAt 60 = .ok (.iload_n 2, 1) := by decide +kernel
theorem dX3_chromaAt_61 : decode cX3_chromaAt 61 = .ok (.iconst 1, 1) := by decide +kernel
theorem dX3_chromaAt_62 : decode cX3_chromaAt 62 = .ok (.iadd, 1) := by decide +kernel
theorem dX3_chromaAt_63 : decode cX3_chromaAt 63 = .ok (.iload_n 3, 1) := by decide +kernel
theorem dX3_chromaAt_64 : decode cX3_chromaAt 64 = .ok (.invokestatic 86, 3) := by decide +kernel
theorem dX3_chromaAt_67 : decode cX3_chromaAt 67 = .ok (.imul, 1) := by decide +kernel
theorem dX3_chromaAt_68 : decode cX3_chromaAt 68 = .ok (.isub, 1) := by decide +kernel
theorem dX3_chromaAt_69 : decode cX3_chromaAt 69 = .ok (.ireturn, 1) := by decide +kernel
theorem dX3_chromaAt_70 : decode cX3_chromaAt 70 = .ok (.iload 5, 2) := by decide +kernel
theorem dX3_chromaAt_72 : decode cX3_chromaAt 72 = .ok (.aload_n 0, 1) := by decide +kernel
theorem dX3_chromaAt_73 : decode cX3_chromaAt 73 = .ok (.aload_n 1, 1) := by decide +kernel
theorem dX3_chromaAt_74 : decode cX3_chromaAt 74 = .ok (.iload_n 2, 1) := by decide +kernel
theorem dX3_chromaAt_75 : decode cX3_chromaAt 75 = .ok (.iconst 1, 1) := by decide +kernel
theorem dX3_chromaAt_76 : decode cX3_chromaAt 76 = .ok (.isub, 1) := by decide +kernel
theorem dX3_chromaAt_77 : decode cX3_chromaAt 77 = .ok (.iload_n 3, 1) := by decide +kernel
theorem dX3_chromaAt_78 : decode cX3_chromaAt 78 = .ok (.invokestatic 86, 3) := by decide +kernel
theorem dX3_chromaAt_81 : decode cX3_chromaAt 81 = .ok (.isub, 1) := by decide +kernel
theorem dX3_chromaAt_82 : decode cX3_chromaAt 82 = .ok (.aload_n 0, 1) := by decide +kernel
theorem dX3_chromaAt_83 : decode cX3_chromaAt 83 = .ok (.aload_n 1, 1) := by decide +kernel
theorem dX3_chromaAt_84 : decode cX3_chromaAt 84 = .ok (.iload_n 2, 1) := by decide +kernel
theorem dX3_chromaAt_85 : decode cX3_chromaAt 85 = .ok (.iconst 1, 1) := by decide +kernel
theorem dX3_chromaAt_86 : decode cX3_chromaAt 86 = .ok (.iadd, 1) := by decide +kernel
theorem dX3_chromaAt_87 : decode cX3_chromaAt 87 = .ok (.iload_n 3, 1) := by decide +kernel
theorem dX3_chromaAt_88 : decode cX3_chromaAt 88 = .ok (.invokestatic 86, 3) := by decide +kernel
theorem dX3_chromaAt_91 : decode cX3_chromaAt 91 = .ok (.isub, 1) := by decide +kernel
theorem dX3_chromaAt_92 : decode cX3_chromaAt 92 = .ok (.ireturn, 1) := by decide +kernel
theorem dX3_chromaAt_93 : decode cX3_chromaAt 93 = .ok (.iload 5, 2) := by decide +kernel
theorem dX3_chromaAt_95 : decode cX3_chromaAt 95 = .ok (.aload_n 0, 1) := by decide +kernel
theorem dX3_chromaAt_96 : decode cX3_chromaAt 96 = .ok (.aload_n 1, 1) := by decide +kernel
theorem dX3_chromaAt_97 : decode cX3_chromaAt 97 = .ok (.iload_n 2, 1) := by decide +kernel
theorem dX3_chromaAt_98 : decode cX3_chromaAt 98 = .ok (.iload_n 3, 1) := by decide +kernel
theorem dX3_chromaAt_99 : decode cX3_chromaAt 99 = .ok (.iconst 2, 1) := by decide +kernel
theorem dX3_chromaAt_100 : decode cX3_chromaAt 100 = .ok (.isub, 1) := by decide +kernel
theorem dX3_chromaAt_101 : decode cX3_chromaAt 101 = .ok (.invokestatic 86, 3) := by decide +kernel
theorem dX3_chromaAt_104 : decode cX3_chromaAt 104 = .ok (.isub, 1) := by decide +kernel
theorem dX3_chromaAt_105 : decode cX3_chromaAt 105 = .ok (.aload_n 0, 1) := by decide +kernel
theorem dX3_chromaAt_106 : decode cX3_chromaAt 106 = .ok (.aload_n 1, 1) := by decide +kernel
theorem dX3_chromaAt_107 : decode cX3_chromaAt 107 = .ok (.iload_n 2, 1) := by decide +kernel
theorem dX3_chromaAt_108 : decode cX3_chromaAt 108 = .ok (.iload_n 3, 1) := by decide +kernel
theorem dX3_chromaAt_109 : decode cX3_chromaAt 109 = .ok (.iconst 2, 1) := by decide +kernel
theorem dX3_chromaAt_110 : decode cX3_chromaAt 110 = .ok (.iadd, 1) := by decide +kernel
theorem dX3_chromaAt_111 : decode cX3_chromaAt 111 = .ok (.invokestatic 86, 3) := by decide +kernel
theorem dX3_chromaAt_114 : decode cX3_chromaAt 114 = .ok (.isub, 1) := by decide +kernel
theorem dX3_chromaAt_115 : decode cX3_chromaAt 115 = .ok (.ireturn, 1) := by decide +kernel
theorem dX3_sampleAt_0 : decode cX3_sampleAt 0 = .ok (.iload_n 2, 1) := by decide +kernel
theorem dX3_sampleAt_1 : decode cX3_sampleAt 1 = .ok (.invokestatic 90, 3) := by decide +kernel
theorem dX3_sampleAt_4 : decode cX3_sampleAt 4 = .ok (.ifCond .eq 16, 3) := by decide +kernel
theorem dX3_sampleAt_7 : decode cX3_sampleAt 7 = .ok (.aload_n 0, 1) := by decide +kernel
theorem dX3_sampleAt_8 : decode cX3_sampleAt 8 = .ok (.iload_n 2, 1) := by decide +kernel
theorem dX3_sampleAt_9 : decode cX3_sampleAt 9 = .ok (.aload_n 1, 1) := by decide +kernel
theorem dX3_sampleAt_10 : decode cX3_sampleAt 10 = .ok (.iload_n 2, 1) := by decide +kernel
theorem dX3_sampleAt_11 : decode cX3_sampleAt 11 = .ok (.iaload, 1) := by decide +kernel
theorem dX3_sampleAt_12 : decode cX3_sampleAt 12 = .ok (.iload_n 3, 1) := by decide +kernel
theorem dX3_sampleAt_13 : decode cX3_sampleAt 13 = .ok (.iadd, 1) := by decide +kernel
theorem dX3_sampleAt_14 : decode cX3_sampleAt 14 = .ok (.invokevirtual 94, 3) := by decide +kernel
theorem dX3_sampleAt_17 : decode cX3_sampleAt 17 = .ok (.goto 4, 3) := by decide +kernel
theorem dX3_sampleAt_20 : decode cX3_sampleAt 20 = .ok (.iconst 0, 1) := by decide +kernel
theorem dX3_sampleAt_21 : decode cX3_sampleAt 21 = .ok (.ireturn, 1) := by decide +kernel
theorem dX4_init_0 : decode cX4_init 0 = .ok (.aload_n 0, 1) := by decide +kernel
theorem dX4_init_1 : decode cX4_init 1 = .ok (.invokespecial 3, 3) := by decide +kernel
theorem dX4_init_4 : decode cX4_init 4 = .ok (.aload_n 0, 1) := by decide +kernel
theorem dX4_init_5 : decode cX4_init 5 = .ok (.bipush 8, 2) := by decide +kernel
theorem dX4_init_7 : decode cX4_init 7 = .ok (.newarray .int, 2) := by decide +kernel
theorem dX4_init_9 : decode cX4_init 9 = .ok (.putfield 9, 3) := by decide +kernel
theorem dX4_init_12 : decode cX4_init 12 = .ok (.aload_n 0, 1) := by decide +kernel
theorem dX4_init_13 : decode cX4_init 13 = .ok (.bipush 8, 2) := by decide +kernel
theorem dX4_init_15 : decode cX4_init 15 = .ok (.newarray .int, 2) := by decide +kernel
theorem dX4_init_17 : decode cX4_init 17 = .ok (.putfield 15, 3) := by decide +kernel
theorem dX4_init_20 : decode cX4_init 20 = .ok (.aload_n 0, 1) := by decide +kernel
theorem dX4_init_21 : decode cX4_init 21 = .ok (.bipush 8, 2) := by decide +kernel
theorem dX4_init_23 : decode cX4_init 23 = .ok (.newarray .int, 2) := by decide +kernel
theorem dX4_init_25 : decode cX4_init 25 = .ok (.putfield 18, 3) := by decide +kernel
theorem dX4_init_28 : decode cX4_init 28 = .ok (.aload_n 0, 1) := by decide +kernel
theorem dX4_init_29 : decode cX4_init 29 = .ok (.bipush 8, 2) := by decide +kernel
theorem dX4_init_31 : decode cX4_init 31 = .ok (.newarray .boolean, 2) := by decide +kernel
theorem dX4_init_33 : decode cX4_init 33 = .ok (.putfield 21, 3) := by decide +kernel
theorem dX4_init_36 : decode cX4_init 36 = .ok (.return_, 1) := by decide +kernel
theorem dX4_find_0 : decode cX4_find 0 = .ok (.aload_n 0, 1) := by decide +kernel
theorem dX4_find_1 : decode cX4_find 1 = .ok (.bipush 32, 2) := by decide +kernel
theorem dX4_find_3 : decode cX4_find 3 = .ok (.putfield 25, 3) := by decide +kernel
theorem dX4_find_6 : decode cX4_find 6 = .ok (.aload_n 0, 1) := by decide +kernel
theorem dX4_find_7 : decode cX4_find 7 = .ok (.iconst 0, 1) := by decide +kernel
theorem dX4_find_8 : decode cX4_find 8 = .ok (.putfield 29, 3) := by decide +kernel
theorem dX4_find_11 : decode cX4_find 11 = .ok (.aload_n 0, 1) := by decide +kernel
theorem dX4_find_12 : decode cX4_find 12 = .ok (.iconst 0, 1) := by decide +kernel
theorem dX4_find_13 : decode cX4_find 13 = .ok (.putfield 32, 3) := by decide +kernel
theorem dX4_find_16 : decode cX4_find 16 = .ok (.aload_n 0, 1) := by decide +kernel
theorem dX4_find_17 : decode cX4_find 17 = .ok (.iconst 0, 1) := by decide +kernel
theorem dX4_find_18 : decode cX4_find 18 = .ok (.putfield 35, 3) := by decide +kernel
theorem dX4_find_21 : decode cX4_find 21 = .ok (.iconst 0, 1) := by decide +kernel
theorem dX4_find_22 : decode cX4_find 22 = .ok (.istore_n 2, 1) := by decide +kernel
theorem dX4_find_23 : decode cX4_find 23 = .ok (.iload_n 2, 1) := by decide +kernel
theorem dX4_find_24 : decode cX4_find 24 = .ok (.bipush 8, 2) := by decide +kernel
theorem dX4_find_26 : decode cX4_find 26 = .ok (.if_icmp .ge 79, 3) := by decide +kernel
theorem dX4_find_29 : decode cX4_find 29 = .ok (.aload_n 1, 1) := by decide +kernel
theorem dX4_find_30 : decode cX4_find 30 = .ok (.iload_n 2, 1) := by decide +kernel
theorem dX4_find_31 : decode cX4_find 31 = .ok (.invokevirtual 39, 3) := by decide +kernel
theorem dX4_find_34 : decode cX4_find 34 = .ok (.istore_n 3, 1) := by decide +kernel
theorem dX4_find_35 : decode cX4_find 35 = .ok (.aload_n 0, 1) := by decide +kernel
theorem dX4_find_36 : decode cX4_find 36 = .ok (.iload_n 3, 1) := by decide +kernel
theorem dX4_find_37 : decode cX4_find 37 = .ok (.invokevirtual 45, 3) := by decide +kernel
theorem dX4_find_40 : decode cX4_find 40 = .ok (.aload_n 0, 1) := by decide +kernel
theorem dX4_find_41 : decode cX4_find 41 = .ok (.getfield 9, 3) := by decide +kernel
theorem dX4_find_44 : decode cX4_find 44 = .ok (.iload_n 2, 1) := by decide +kernel
theorem dX4_find_45 : decode cX4_find 45 = .ok (.iload_n 3, 1) := by decide +kernel
theorem dX4_find_46 : decode cX4_find 46 = .ok (.iastore, 1) := by decide +kernel
theorem dX4_find_47 : decode cX4_find 47 = .ok (.aload_n 0, 1) := by decide +kernel
theorem dX4_find_48 : decode cX4_find 48 = .ok (.getfield 18, 3) := by decide +kernel
theorem dX4_find_51 : decode cX4_find 51 = .ok (.iload_n 2, 1) := by decide +kernel
theorem dX4_find_52 : decode cX4_find 52 = .ok (.aload_n 0, 1) := by decide +kernel
theorem dX4_find_53 : decode cX4_find 53 = .ok (.getfield 25, 3) := by decide +kernel
theorem dX4_find_56 : decode cX4_find 56 = .ok (.iastore, 1) := by decide +kernel
theorem dX4_find_57 : decode cX4_find 57 = .ok (.aload_n 0, 1) := by decide +kernel
theorem dX4_find_58 : decode cX4_find 58 = .ok (.getfield 21, 3) := by decide +kernel
theorem dX4_find_61 : decode cX4_find 61 = .ok (.iload_n 2, 1) := by decide +kernel
theorem dX4_find_62 : decode cX4_find 62 = .ok (.aload_n 0, 1) := by decide +kernel
theorem dX4_find_63 : decode cX4_find 63 = .ok (.getfield 35, 3) := by decide +kernel
theorem dX4_find_66 : decode cX4_find 66 = .ok (.bastore, 1) := by decide +kernel
theorem dX4_find_67 : decode cX4_find 67 = .ok (.aload_n 0, 1) := by decide +kernel
theorem dX4_find_68 : decode cX4_find 68 = .ok (.getfield 15, 3) := by decide +kernel
theorem dX4_find_71 : decode cX4_find 71 = .ok (.iload_n 2, 1) := by decide +kernel
theorem dX4_find_72 : decode cX4_find 72 = .ok (.aload_n 0, 1) := by decide +kernel
theorem dX4_find_73 : decode cX4_find 73 = .ok (.getfield 35, 3) := by decide +kernel
theorem dX4_find_76 : decode cX4_find 76 = .ok (.ifCond .ne 8, 3) := by decide +kernel
theorem dX4_find_79 : decode cX4_find 79 = .ok (.iload_n 3, 1) := by decide +kernel
theorem dX4_find_80 : decode cX4_find 80 = .ok (.iconst (-1), 1) := by decide +kernel
theorem dX4_find_81 : decode cX4_find 81 = .ok (.if_icmp .ne 16, 3) := by decide +kernel
theorem dX4_find_84 : decode cX4_find 84 = .ok (.aload_n 0, 1) := by decide +kernel
theorem dX4_find_85 : decode cX4_find 85 = .ok (.getfield 25, 3) := by decide +kernel
theorem dX4_find_88 : decode cX4_find 88 = .ok (.iconst 2, 1) := by decide +kernel
theorem dX4_find_89 : decode cX4_find 89 = .ok (.iadd, 1) := by decide +kernel
theorem dX4_find_90 : decode cX4_find 90 = .ok (.iconst 4, 1) := by decide +kernel
theorem dX4_find_91 : decode cX4_find 91 = .ok (.invokestatic 49, 3) := by decide +kernel
theorem dX4_find_94 : decode cX4_find 94 = .ok (.goto 4, 3) := by decide +kernel
theorem dX4_find_97 : decode cX4_find 97 = .ok (.iload_n 3, 1) := by decide +kernel
theorem dX4_find_98 : decode cX4_find 98 = .ok (.iastore, 1) := by decide +kernel
theorem dX4_find_99 : decode cX4_find 99 = .ok (.iinc 2 1, 3) := by decide +kernel
theorem dX4_find_102 : decode cX4_find 102 = .ok (.goto (-79), 3) := by decide +kernel
theorem dX4_find_105 : decode cX4_find 105 = .ok (.return_, 1) := by decide +kernel
theorem dX4_steer_0 : decode cX4_steer 0 = .ok (.iconst 4, 1) := by decide +kernel
theorem dX4_steer_1 : decode cX4_steer 1 = .ok (.iload_n 1, 1) := by decide +kernel
theorem dX4_steer_2 : decode cX4_steer 2 = .ok (.imul, 1) := by decide +kernel
theorem dX4_steer_3 : decode cX4_steer 3 = .ok (.aload_n 0, 1) := by decide +kernel
theorem dX4_steer_4 : decode cX4_steer 4 = .ok (.getfield 25, 3) := by decide +kernel
theorem dX4_steer_7 : decode cX4_steer 7 = .ok (.isub, 1) := by decide +kernel
theorem dX4_steer_8 : decode cX4_steer 8 = .ok (.istore_n 2, 1) := by decide +kernel
theorem dX4_steer_9 : decode cX4_steer 9 = .ok (.iload_n 1, 1) := by decide +kernel
theorem dX4_steer_10 : decode cX4_steer 10 = .ok (.iconst (-1), 1) := by decide +kernel
theorem dX4_steer_11 : decode cX4_steer 11 = .ok (.if_icmp .eq 44, 3) := by decide +kernel
theorem dX4_steer_14 : decode cX4_steer 14 = .ok (.iload_n 2, 1) := by decide +kernel
theorem dX4_steer_15 : decode cX4_steer 15 = .ok (.bipush (-12), 2) := by decide +kernel
theorem dX4_steer_17 : decode cX4_steer 17 = .ok (.bipush 12, 2) := by decide +kernel
theorem dX4_steer_19 : decode cX4_steer 19 = .ok (.invokestatic 55, 3) := by decide +kernel
theorem dX4_steer_22 : decode cX4_steer 22 = .ok (.ifCond .eq 33, 3) := by decide +kernel
theorem dX4_steer_25 : decode cX4_steer 25 = .ok (.aload_n 0, 1) := by decide +kernel
theorem dX4_steer_26 : decode cX4_steer 26 = .ok (.dup, 1) := by decide +kernel
theorem dX4_steer_27 : decode cX4_steer 27 = .ok (.getfield 25, 3) := by decide +kernel
theorem dX4_steer_30 : decode cX4_steer 30 = .ok (.iload_n 2, 1) := by decide +kernel
theorem dX4_steer_31 : decode cX4_steer 31 = .ok (.iconst 2, 1) := by decide +kernel
theorem dX4_steer_32 : decode cX4_steer 32 = .ok (.idiv, 1) := by decide +kernel
theorem dX4_steer_33 : decode cX4_steer 33 = .ok (.iadd, 1) := by decide +kernel
theorem dX4_steer_34 : decode cX4_steer 34 = .ok (.putfield 25, 3) := by decide +kernel
theorem dX4_steer_37 : decode cX4_steer 37 = .ok (.aload_n 0, 1) := by decide +kernel
theorem dX4_steer_38 : decode cX4_steer 38 = .ok (.dup, 1) := by decide +kernel
theorem dX4_steer_39 : decode cX4_steer 39 = .ok (.getfield 29, 3) := by decide +kernel
theorem dX4_steer_42 : decode cX4_steer 42 = .ok (.iconst 1, 1) := by decide +kernel
theorem dX4_steer_43 : decode cX4_steer 43 = .ok (.iadd, 1) := by decide +kernel
theorem dX4_steer_44 : decode cX4_steer 44 = .ok (.putfield 29, 3) := by decide +kernel
theorem dX4_steer_47 : decode cX4_steer 47 = .ok (.aload_n 0, 1) := by decide +kernel
theorem dX4_steer_48 : decode cX4_steer 48 = .ok (.iconst 0, 1) := by decide +kernel
theorem dX4_steer_49 : decode cX4_steer 49 = .ok (.putfield 32, 3) := by decide +kernel
theorem dX4_steer_52 : decode cX4_steer 52 = .ok (.goto 37, 3) := by decide +kernel
theorem dX4_steer_55 : decode cX4_steer 55 = .ok (.aload_n 0, 1) := by decide +kernel
theorem dX4_steer_56 : decode cX4_steer 56 = .ok (.dup, 1) := by decide +kernel
theorem dX4_steer_57 : decode cX4_steer 57 = .ok (.getfield 32, 3) := by decide +kernel
theorem dX4_steer_60 : decode cX4_steer 60 = .ok (.iconst 1, 1) := by decide +kernel
theorem dX4_steer_61 : decode cX4_steer 61 = .ok (.iadd, 1) := by decide +kernel
theorem dX4_steer_62 : decode cX4_steer 62 = .ok (.putfield 32, 3) := by decide +kernel
theorem dX4_steer_65 : decode cX4_steer 65 = .ok (.aload_n 0, 1) := by decide +kernel
theorem dX4_steer_66 : decode cX4_steer 66 = .ok (.iconst 0, 1) := by decide +kernel
theorem dX4_steer_67 : decode cX4_steer 67 = .ok (.putfield 29, 3) := by decide +kernel
theorem dX4_steer_70 : decode cX4_steer 70 = .ok (.iload_n 1, 1) := by decide +kernel
theorem dX4_steer_71 : decode cX4_steer 71 = .ok (.iconst (-1), 1) := by decide +kernel
theorem dX4_steer_72 : decode cX4_steer 72 = .ok (.if_icmp .eq 17, 3) := by decide +kernel
theorem dX4_steer_75 : decode cX4_steer 75 = .ok (.aload_n 0, 1) := by decide +kernel
theorem dX4_steer_76 : decode cX4_steer 76 = .ok (.getfield 35, 3) := by decide +kernel
theorem dX4_steer_79 : decode cX4_steer 79 = .ok (.ifCond .ne 10, 3) := by decide +kernel
theorem dX4_steer_82 : decode cX4_steer 82 = .ok (.aload_n 0, 1) := by decide +kernel
theorem dX4_steer_83 : decode cX4_steer 83 = .ok (.iconst 4, 1) := by decide +kernel
theorem dX4_steer_84 : decode cX4_steer 84 = .ok (.iload_n 1, 1) := by decide +kernel
theorem dX4_steer_85 : decode cX4_steer 85 = .ok (.imul, 1) := by decide +kernel
theorem dX4_steer_86 : decode cX4_steer 86 = .ok (.putfield 25, 3) := by decide +kernel
theorem dX4_steer_89 : decode cX4_steer 89 = .ok (.aload_n 0, 1) := by decide +kernel
theorem dX4_steer_90 : decode cX4_steer 90 = .ok (.getfield 29, 3) := by decide +kernel
theorem dX4_steer_93 : decode cX4_steer 93 = .ok (.iconst 2, 1) := by decide +kernel
theorem dX4_steer_94 : decode cX4_steer 94 = .ok (.if_icmp .lt 8, 3) := by decide +kernel
theorem dX4_steer_97 : decode cX4_steer 97 = .ok (.aload_n 0, 1) := by decide +kernel
theorem dX4_steer_98 : decode cX4_steer 98 = .ok (.iconst 1, 1) := by decide +kernel
theorem dX4_steer_99 : decode cX4_steer 99 = .ok (.putfield 35, 3) := by decide +kernel
theorem dX4_steer_102 : decode cX4_steer 102 = .ok (.aload_n 0, 1) := by decide +kernel
theorem dX4_steer_103 : decode cX4_steer 103 = .ok (.getfield 32, 3) := by decide +kernel
theorem dX4_steer_106 : decode cX4_steer 106 = .ok (.iconst 4, 1) := by decide +kernel
theorem dX4_steer_107 : decode cX4_steer 107 = .ok (.if_icmp .lt 8, 3) := by decide +kernel
theorem dX4_steer_110 : decode cX4_steer 110 = .ok (.aload_n 0, 1) := by decide +kernel
theorem dX4_steer_111 : decode cX4_steer 111 = .ok (.iconst 0, 1) := by decide +kernel
theorem dX4_steer_112 : decode cX4_steer 112 = .ok (.putfield 35, 3) := by decide +kernel
theorem dX4_steer_115 : decode cX4_steer 115 = .ok (.return_, 1) := by decide +kernel
theorem dX5_init_0 : decode cX5_init 0 = .ok (.aload_n 0, 1) := by decide +kernel
theorem dX5_init_1 : decode cX5_init 1 = .ok (.invokespecial 3, 3) := by decide +kernel
theorem dX5_init_4 : decode cX5_init 4 = .ok (.aload_n 0, 1) := by decide +kernel
theorem dX5_init_5 : decode cX5_init 5 = .ok (.bipush 80, 2) := by decide +kernel
theorem dX5_init_7 : decode cX5_init 7 = .ok (.newarray .int, 2) := by decide +kernel
theorem dX5_init_9 : decode cX5_init 9 = .ok (.putfield 9, 3) := by decide +kernel
theorem dX5_init_12 : decode cX5_init 12 = .ok (.aload_n 0, 1) := by decide +kernel
theorem dX5_init_13 : decode cX5_init 13 = .ok (.bipush 80, 2) := by decide +kernel
theorem dX5_init_15 : decode cX5_init 15 = .ok (.newarray .boolean, 2) := by decide +kernel
theorem dX5_init_17 : decode cX5_init 17 = .ok (.putfield 15, 3) := by decide +kernel
theorem dX5_init_20 : decode cX5_init 20 = .ok (.aload_n 0, 1) := by decide +kernel
theorem dX5_init_21 : decode cX5_init 21 = .ok (.bipush 80, 2) := by decide +kernel
theorem dX5_init_23 : decode cX5_init 23 = .ok (.newarray .int, 2) := by decide +kernel
theorem dX5_init_25 : decode cX5_init 25 = .ok (.putfield 19, 3) := by decide +kernel
theorem dX5_init_28 : decode cX5_init 28 = .ok (.return_, 1) := by decide +kernel
theorem dX5_watch_0 : decode cX5_watch 0 = .ok (.iload_n 3, 1) := by decide +kernel
theorem dX5_watch_1 : decode cX5_watch 1 = .ok (.ifCond .eq 102, 3) := by decide +kernel
theorem dX5_watch_4 : decode cX5_watch 4 = .ok (.iconst 0, 1) := by decide +kernel
theorem dX5_watch_5 : decode cX5_watch 5 = .ok (.istore 4, 2) := by decide +kernel
theorem dX5_watch_7 : decode cX5_watch 7 = .ok (.iload 4, 2) := by decide +kernel
theorem dX5_watch_9 : decode cX5_watch 9 = .ok (.bipush 80, 2) := by decide +kernel
theorem dX5_watch_11 : decode cX5_watch 11 = .ok (.if_icmp .ge 40, 3) := by decide +kernel
theorem dX5_watch_14 : decode cX5_watch 14 = .ok (.aload_n 0, 1) := by decide +kernel
theorem dX5_watch_15 : decode cX5_watch 15 = .ok (.getfield 15, 3) := by decide +kernel
theorem dX5_watch_18 : decode cX5_watch 18 = .ok (.iload 4, 2) := by decide +kernel
theorem dX5_watch_20 : decode cX5_watch 20 = .ok (.aload_n 1, 1) := by decide +kernel
theorem dX5_watch_21 : decode cX5_watch 21 = .ok (.iload 4, 2) := by decide +kernel
theorem dX5_watch_23 : decode cX5_watch 23 = .ok (.iaload, 1) := by decide +kernel
theorem dX5_watch_24 : decode cX5_watch 24 = .ok (.aload_n 0, 1) := by decide +kernel
theorem dX5_watch_25 : decode cX5_watch 25 = .ok (.getfield 9, 3) := by decide +kernel
theorem dX5_watch_28 : decode cX5_watch 28 = .ok (.iload 4, 2) := by decide +kernel
theorem dX5_watch_30 : decode cX5_watch 30 = .ok (.iaload, 1) := by decide +kernel
theorem dX5_watch_31 : decode cX5_watch 31 = .ok (.isub, 1) := by decide +kernel
theorem dX5_watch_32 : decode cX5_watch 32 = .ok (.invokestatic 22, 3) := by decide +kernel
theorem dX5_watch_35 : decode cX5_watch 35 = .ok (.iload_n 2, 1) := by decide +kernel
theorem dX5_watch_36 : decode cX5_watch 36 = .ok (.if_icmp .le 7, 3) := by decide +kernel
theorem dX5_watch_39 : decode cX5_watch 39 = .ok (.iconst 1, 1) := by decide +kernel
theorem dX5_watch_40 : decode cX5_watch 40 = .ok (.goto 4, 3) := by decide +kernel
theorem dX5_watch_43 : decode cX5_watch 43 = .ok (.iconst 0, 1) := by decide +kernel
theorem dX5_watch_44 : decode cX5_watch 44 = .ok (.bastore, 1) := by decide +kernel
theorem dX5_watch_45 : decode cX5_watch 45 = .ok (.iinc 4 1, 3) := by decide +kernel
theorem dX5_watch_48 : decode cX5_watch 48 = .ok (.goto (-41), 3) := by decide +kernel
theorem dX5_watch_51 : decode cX5_watch 51 = .ok (.iconst 0, 1) := by decide +kernel
theorem dX5_watch_52 : decode cX5_watch 52 = .ok (.istore 4, 2) := by decide +kernel
theorem dX5_watch_54 : decode cX5_watch 54 = .ok (.iload 4, 2) := by decide +kernel
theorem dX5_watch_56 : decode cX5_watch 56 = .ok (.bipush 8, 2) := by decide +kernel
theorem dX5_watch_58 : decode cX5_watch 58 = .ok (.if_icmp .ge 45, 3) := by decide +kernel
theorem dX5_watch_61 : decode cX5_watch 61 = .ok (.iconst 0, 1) := by decide +kernel
theorem dX5_watch_62 : decode cX5_watch 62 = .ok (.istore 5, 2) := by decide +kernel
theorem dX5_watch_64 : decode cX5_watch 64 = .ok (.iload 5, 2) := by decide +kernel
theorem dX5_watch_66 : decode cX5_watch 66 = .ok (.bipush 10, 2) := by decide +kernel
theorem dX5_watch_68 : decode cX5_watch 68 = .ok (.if_icmp .ge 29, 3) := by decide +kernel
theorem dX5_watch_71 : decode cX5_watch 71 = .ok (.aload_n 0, 1) := by decide +kernel
theorem dX5_watch_72 : decode cX5_watch 72 = .ok (.getfield 19, 3) := by decide +kernel
theorem dX5_watch_75 : decode cX5_watch 75 = .ok (.iload 4, 2) := by decide +kernel
theorem dX5_watch_77 : decode cX5_watch 77 = .ok (.iload 5, 2) := by decide +kernel
theorem dX5_watch_79 : decode cX5_watch 79 = .ok (.invokestatic 28, 3) := by decide +kernel
theorem dX5_watch_82 : decode cX5_watch 82 = .ok (.aload_n 0, 1) := by decide +kernel
theorem dX5_watch_83 : decode cX5_watch 83 = .ok (.iload 4, 2) := by decide +kernel
theorem dX5_watch_85 : decode cX5_watch 85 = .ok (.iload 5, 2) := by decide +kernel
theorem dX5_watch_87 : decode cX5_watch 87 = .ok (.invokevirtual 32, 3) := by decide +kernel
theorem dX5_watch_90 : decode cX5_watch 90 = .ok (.iastore, 1) := by decide +kernel
theorem dX5_watch_91 : decode cX5_watch 91 = .ok (.iinc 5 1, 3) := by decide +kernel
theorem dX5_watch_94 : decode cX5_watch 94 = .ok (.goto (-30), 3) := by decide +kernel
theorem dX5_watch_97 : decode cX5_watch 97 = .ok (.iinc 4 1, 3) := by decide +kernel
theorem dX5_watch_100 : decode cX5_watch 100 = .ok (.goto (-46), 3) := by decide +kernel
theorem dX5_watch_103 : decode cX5_watch 103 = .ok (.aload_n 1, 1) := by decide +kernel
theorem dX5_watch_104 : decode cX5_watch 104 = .ok (.iconst 0, 1) := by decide +kernel
theorem dX5_watch_105 : decode cX5_watch 105 = .ok (.aload_n 0, 1) := by decide +kernel
theorem dX5_watch_106 : decode cX5_watch 106 = .ok (.getfield 9, 3) := by decide +kernel
theorem dX5_watch_109 : decode cX5_watch 109 = .ok (.iconst 0, 1) := by decide +kernel
theorem dX5_watch_110 : decode cX5_watch 110 = .ok (.bipush 80, 2) := by decide +kernel
theorem dX5_watch_112 : decode cX5_watch 112 = .ok (.invokestatic 35, 3) := by decide +kernel
theorem dX5_watch_115 : decode cX5_watch 115 = .ok (.return_, 1) := by decide +kernel
theorem dX5_kindOf_0 : decode cX5_kindOf 0 = .ok (.aload_n 0, 1) := by decide +kernel
theorem dX5_kindOf_1 : decode cX5_kindOf 1 = .ok (.iload_n 1, 1) := by decide +kernel
theorem dX5_kindOf_2 : decode cX5_kindOf 2 = .ok (.iload_n 2, 1) := by decide +kernel
theorem dX5_kindOf_3 : decode cX5_kindOf 3 = .ok (.invokevirtual 41, 3) := by decide +kernel
theorem dX5_kindOf_6 : decode cX5_kindOf 6 = .ok (.ifCond .ne 5, 3) := by decide +kernel
theorem dX5_kindOf_9 : decode cX5_kindOf 9 = .ok (.iconst 0, 1) := by decide +kernel
theorem dX5_kindOf_10 : decode cX5_kindOf 10 = .ok (.ireturn, 1) := by decide +kernel
theorem dX5_kindOf_11 : decode cX5_kindOf 11 = .ok (.aload_n 0, 1) := by decide +kernel
theorem dX5_kindOf_12 : decode cX5_kindOf 12 = .ok (.iload_n 1, 1) := by decide +kernel
theorem dX5_kindOf_13 : decode cX5_kindOf 13 = .ok (.iload_n 2, 1) := by decide +kernel
theorem dX5_kindOf_14 : decode cX5_kindOf 14 = .ok (.iconst 1, 1) := by decide +kernel
theorem dX5_kindOf_15 : decode cX5_kindOf 15 = .ok (.isub, 1) := by decide +kernel
theorem dX5_kindOf_16 : decode cX5_kindOf 16 = .ok (.invokevirtual 41, 3) := by decide +kernel
theorem dX5_kindOf_19 : decode cX5_kindOf 19 = .ok (.ifCond .ne 14, 3) := by decide +kernel
theorem dX5_kindOf_22 : decode cX5_kindOf 22 = .ok (.aload_n 0, 1) := by decide +kernel
theorem dX5_kindOf_23 : decode cX5_kindOf 23 = .ok (.iload_n 1, 1) := by decide +kernel
theorem dX5_kindOf_24 : decode cX5_kindOf 24 = .ok (.iload_n 2, 1) := by decide +kernel
theorem dX5_kindOf_25 : decode cX5_kindOf 25 = .ok (.iconst 1, 1) := by decide +kernel
theorem dX5_kindOf_26 : decode cX5_kindOf 26 = .ok (.iadd, 1) := by decide +kernel
theorem dX5_kindOf_27 : decode cX5_kindOf 27 = .ok (.invokevirtual 41, 3) := by decide +kernel
theorem dX5_kindOf_30 : decode cX5_kindOf 30 = .ok (.ifCond .eq 7, 3) := by decide +kernel
theorem dX5_kindOf_33 : decode cX5_kindOf 33 = .ok (.iconst 1, 1) := by decide +kernel
theorem dX5_kindOf_34 : decode cX5_kindOf 34 = .ok (.goto 4, 3) := by decide +kernel
theorem dX5_kindOf_37 : decode cX5_kindOf 37 = .ok (.iconst 0, 1) := by decide +kernel
theorem dX5_kindOf_38 : decode cX5_kindOf 38 = .ok (.istore_n 3, 1) := by decide +kernel
theorem dX5_kindOf_39 : decode cX5_kindOf 39 = .ok (.aload_n 0, 1) := by decide +kernel
theorem dX5_kindOf_40 : decode cX5_kindOf 40 = .ok (.iload_n 1, 1) := by decide +kernel
theorem dX5_kindOf_41 : decode cX5_kindOf 41 = .ok (.iconst 1, 1) := by decide +kernel
theorem dX5_kindOf_42 : decode cX5_kindOf 42 = .ok (.isub, 1) := by decide +kernel
theorem dX5_kindOf_43 : decode cX5_kindOf 43 = .ok (.iload_n 2, 1) := by decide +kernel
theorem dX5_kindOf_44 : decode cX5_kindOf 44 = .ok (.invokevirtual 41, 3) := by decide +kernel
theorem dX5_kindOf_47 : decode cX5_kindOf 47 = .ok (.ifCond .ne 14, 3) := by decide +kernel
theorem dX5_kindOf_50 : decode cX5_kindOf 50 = .ok (.aload_n 0, 1) := by decide +kernel
theorem dX5_kindOf_51 : decode cX5_kindOf 51 = .ok (.iload_n 1, 1) := by decide +kernel
theorem dX5_kindOf_52 : decode cX5_kindOf 52 = .ok (.iconst 1, 1) := by decide +kernel
theorem dX5_kindOf_53 : decode cX5_kindOf 53 = .ok (.iadd, 1) := by decide +kernel
theorem dX5_kindOf_54 : decode cX5_kindOf 54 = .ok (.iload_n 2, 1) := by decide +kernel
theorem dX5_kindOf_55 : decode cX5_kindOf 55 = .ok (.invokevirtual 41, 3) := by decide +kernel
theorem dX5_kindOf_58 : decode cX5_kindOf 58 = .ok (.ifCond .eq 7, 3) := by decide +kernel
theorem dX5_kindOf_61 : decode cX5_kindOf 61 = .ok (.iconst 1, 1) := by decide +kernel
theorem dX5_kindOf_62 : decode cX5_kindOf 62 = .ok (.goto 4, 3) := by decide +kernel
theorem dX5_kindOf_65 : decode cX5_kindOf 65 = .ok (.iconst 0, 1) := by decide +kernel
theorem dX5_kindOf_66 : decode cX5_kindOf 66 = .ok (.istore 4, 2) := by decide +kernel
theorem dX5_kindOf_68 : decode cX5_kindOf 68 = .ok (.iload_n 3, 1) := by decide +kernel
theorem dX5_kindOf_69 : decode cX5_kindOf 69 = .ok (.ifCond .ne 8, 3) := by decide +kernel
theorem dX5_kindOf_72 : decode cX5_kindOf 72 = .ok (.iload 4, 2) := by decide +kernel
theorem dX5_kindOf_74 : decode cX5_kindOf 74 = .ok (.ifCond .eq 7, 3) := by decide +kernel
theorem dX5_kindOf_77 : decode cX5_kindOf 77 = .ok (.iconst 2, 1) := by decide +kernel
theorem dX5_kindOf_78 : decode cX5_kindOf 78 = .ok (.goto 4, 3) := by decide +kernel
theorem dX5_kindOf_81 : decode cX5_kindOf 81 = .ok (.iconst 1, 1) := by decide +kernel
theorem dX5_kindOf_82 : decode cX5_kindOf 82 = .ok (.ireturn, 1) := by decide +kernel
theorem dX5_hasChanged_0 : decode cX5_hasChanged 0 = .ok (.iload_n 1, 1) := by decide +kernel
theorem dX5_hasChanged_1 : decode cX5_hasChanged 1 = .ok (.iload_n 2, 1) := by decide +kernel
theorem dX5_hasChanged_2 : decode cX5_hasChanged 2 = .ok (.invokestatic 45, 3) := by decide +kernel
theorem dX5_hasChanged_5 : decode cX5_hasChanged 5 = .ok (.ifCond .eq 20, 3) := by decide +kernel
theorem dX5_hasChanged_8 : decode cX5_hasChanged 8 = .ok (.aload_n 0, 1) := by decide +kernel
theorem dX5_hasChanged_9 : decode cX5_hasChanged 9 = .ok (.getfield 15, 3) := by decide +kernel
theorem dX5_hasChanged_12 : decode cX5_hasChanged 12 = .ok (.iload_n 1, 1) := by decide +kernel
theorem dX5_hasChanged_13 : decode cX5_hasChanged 13 = .ok (.iload_n 2, 1) := by decide +kernel
theorem dX5_hasChanged_14 : decode cX5_hasChanged 14 = .ok (.invokestatic 28, 3) := by decide +kernel
theorem dX5_hasChanged_17 : decode cX5_hasChanged 17 = .ok (.baload, 1) := by decide +kernel
theorem dX5_hasChanged_18 : decode cX5_hasChanged 18 = .ok (.ifCond .eq 7, 3) := by decide +kernel
theorem dX5_hasChanged_21 : decode cX5_hasChanged 21 = .ok (.iconst 1, 1) := by decide +kernel
theorem dX5_hasChanged_22 : decode cX5_hasChanged 22 = .ok (.goto 4, 3) := by decide +kernel
theorem dX5_hasChanged_25 : decode cX5_hasChanged 25 = .ok (.iconst 0, 1) := by decide +kernel
theorem dX5_hasChanged_26 : decode cX5_hasChanged 26 = .ok (.ireturn, 1) := by decide +kernel
theorem dX6_init_0 : decode cX6_init 0 = .ok (.aload_n 0, 1) := by decide +kernel
theorem dX6_init_1 : decode cX6_init 1 = .ok (.invokespecial 3, 3) := by decide +kernel
theorem dX6_init_4 : decode cX6_init 4 = .ok (.aload_n 0, 1) := by decide +kernel
theorem dX6_init_5 : decode cX6_init 5 = .ok (.bipush 8, 2) := by decide +kernel
theorem dX6_init_7 : decode cX6_init 7 = .ok (.newarray .float, 2) := by decide +kernel
theorem dX6_init_9 : decode cX6_init 9 = .ok (.putfield 9, 3) := by decide +kernel
theorem dX6_init_12 : decode cX6_init 12 = .ok (.aload_n 0, 1) := by decide +kernel
theorem dX6_init_13 : decode cX6_init 13 = .ok (.bipush 8, 2) := by decide +kernel
theorem dX6_init_15 : decode cX6_init 15 = .ok (.newarray .float, 2) := by decide +kernel
theorem dX6_init_17 : decode cX6_init 17 = .ok (.putfield 15, 3) := by decide +kernel
theorem dX6_init_20 : decode cX6_init 20 = .ok (.return_, 1) := by decide +kernel
theorem dX6_follow_0 : decode cX6_follow 0 = .ok (.fconst 0, 1) := by decide +kernel
theorem dX6_follow_1 : decode cX6_follow 1 = .ok (.fstore_n 3, 1) := by decide +kernel
theorem dX6_follow_2 : decode cX6_follow 2 = .ok (.fconst 0, 1) := by decide +kernel
theorem dX6_follow_3 : decode cX6_follow 3 = .ok (.fstore 4, 2) := by decide +kernel
theorem dX6_follow_5 : decode cX6_follow 5 = .ok (.iconst 1, 1) := by decide +kernel
theorem dX6_follow_6 : decode cX6_follow 6 = .ok (.istore 5, 2) := by decide +kernel
theorem dX6_follow_8 : decode cX6_follow 8 = .ok (.iconst 0, 1) := by decide +kernel
theorem dX6_follow_9 : decode cX6_follow 9 = .ok (.istore 6, 2) := by decide +kernel
theorem dX6_follow_11 : decode cX6_follow 11 = .ok (.iload 6, 2) := by decide +kernel
theorem dX6_follow_13 : decode cX6_follow 13 = .ok (.bipush 8, 2) := by decide +kernel
theorem dX6_follow_15 : decode cX6_follow 15 = .ok (.if_icmp .ge 106, 3) := by decide +kernel
theorem dX6_follow_18 : decode cX6_follow 18 = .ok (.aload_n 1, 1) := by decide +kernel
theorem dX6_follow_19 : decode cX6_follow 19 = .ok (.getfield 18, 3) := by decide +kernel
theorem dX6_follow_22 : decode cX6_follow 22 = .ok (.iload 6, 2) := by decide +kernel
theorem dX6_follow_24 : decode cX6_follow 24 = .ok (.baload, 1) := by decide +kernel
theorem dX6_follow_25 : decode cX6_follow 25 = .ok (.ifCond .eq 73, 3) := by decide +kernel
theorem dX6_follow_28 : decode cX6_follow 28 = .ok (.aload_n 1, 1) := by decide +kernel
theorem dX6_follow_29 : decode cX6_follow 29 = .ok (.getfield 24, 3) := by decide +kernel
theorem dX6_follow_32 : decode cX6_follow 32 = .ok (.iload 6, 2) := by decide +kernel
theorem dX6_follow_34 : decode cX6_follow 34 = .ok (.iload_n 2, 1) := by decide +kernel
theorem dX6_follow_35 : decode cX6_follow 35 = .ok (.invokestatic 27, 3) := by decide +kernel
theorem dX6_follow_38 : decode cX6_follow 38 = .ok (.fstore 7, 2) := by decide +kernel
theorem dX6_follow_40 : decode cX6_follow 40 = .ok (.aload_n 1, 1) := by decide +kernel
theorem dX6_follow_41 : decode cX6_follow 41 = .ok (.getfield 31, 3) := by decide +kernel
theorem dX6_follow_44 : decode cX6_follow 44 = .ok (.iload 6, 2) := by decide +kernel
theorem dX6_follow_46 : decode cX6_follow 46 = .ok (.iload_n 2, 1) := by decide +kernel
theorem dX6_follow_47 : decode cX6_follow 47 = .ok (.invokestatic 27, 3) := by decide +kernel
theorem dX6_follow_50 : decode cX6_follow 50 = .ok (.fstore 8, 2) := by decide +kernel
theorem dX6_follow_52 : decode cX6_follow 52 = .ok (.iload 5, 2) := by decide +kernel
theorem dX6_follow_54 : decode cX6_follow 54 = .ok (.ifCond .eq 8, 3) := by decide +kernel
theorem dX6_follow_57 : decode cX6_follow 57 = .ok (.fload 7, 2) := by decide +kernel
theorem dX6_follow_59 : decode cX6_follow 59 = .ok (.goto 12, 3) := by decide +kernel
theorem dX6_follow_62 : decode cX6_follow 62 = .ok (.fload_n 3, 1) := by decide +kernel
theorem dX6_follow_63 : decode cX6_follow 63 = .ok (.fload 7, 2) := by decide +kernel
theorem dX6_follow_65 : decode cX6_follow 65 = .ok (.fload_n 3, 1) := by decide +kernel
theorem dX6_follow_66 : decode cX6_follow 66 = .ok (.fsub, 1) := by decide +kernel
theorem dX6_follow_67 : decode cX6_follow 67 = .ok (.ldc 33, 2) := by decide +kernel
theorem dX6_follow_69 : decode cX6_follow 69 = .ok (.fmul, 1) := by decide +kernel
theorem dX6_follow_70 : decode cX6_follow 70 = .ok (.fadd, 1) := by decide +kernel
theorem dX6_follow_71 : decode cX6_follow 71 = .ok (.fstore_n 3, 1) := by decide +kernel
theorem dX6_follow_72 : decode cX6_follow 72 = .ok (.iload 5, 2) := by decide +kernel
theorem dX6_follow_74 : decode cX6_follow 74 = .ok (.ifCond .eq 8, 3) := by decide +kernel
theorem dX6_follow_77 : decode cX6_follow 77 = .ok (.fload 8, 2) := by decide +kernel
theorem dX6_follow_79 : decode cX6_follow 79 = .ok (.goto 14, 3) := by decide +kernel
theorem dX6_follow_82 : decode cX6_follow 82 = .ok (.fload 4, 2) := by decide +kernel
theorem dX6_follow_84 : decode cX6_follow 84 = .ok (.fload 8, 2) := by decide +kernel
theorem dX6_follow_86 : decode cX6_follow 86 = .ok (.fload 4, 2) := by decide +kernel
theorem dX6_follow_88 : decode cX6_follow 88 = .ok (.fsub, 1) := by decide +kernel
theorem dX6_follow_89 : decode cX6_follow 89 = .ok (.ldc 33, 2) := by decide +kernel
theorem dX6_follow_91 : decode cX6_follow 91 = .ok (.fmul, 1) := by decide +kernel
theorem dX6_follow_92 : decode cX6_follow 92 = .ok (.fadd, 1) := by decide +kernel
theorem dX6_follow_93 : decode cX6_follow 93 = .ok (.fstore 4, 2) := by decide +kernel
theorem dX6_follow_95 : decode cX6_follow 95 = .ok (.iconst 0, 1) := by decide +kernel
theorem dX6_follow_96 : decode cX6_follow 96 = .ok (.istore 5, 2) := by decide +kernel
theorem dX6_follow_98 : decode cX6_follow 98 = .ok (.aload_n 0, 1) := by decide +kernel
theorem dX6_follow_99 : decode cX6_follow 99 = .ok (.getfield 9, 3) := by decide +kernel
theorem dX6_follow_102 : decode cX6_follow 102 = .ok (.iload 6, 2) := by decide +kernel
theorem dX6_follow_104 : decode cX6_follow 104 = .ok (.fload_n 3, 1) := by decide +kernel
theorem dX6_follow_105 : decode cX6_follow 105 = .ok (.fastore, 1) := by decide +kernel
theorem dX6_follow_106 : decode cX6_follow 106 = .ok (.aload_n 0, 1) := by decide +kernel
theorem dX6_follow_107 : decode cX6_follow 107 = .ok (.getfield 15, 3) := by decide +kernel
theorem dX6_follow_110 : decode cX6_follow 110 = .ok (.iload 6, 2) := by decide +kernel
theorem dX6_follow_112 : decode cX6_follow 112 = .ok (.fload 4, 2) := by decide +kernel
theorem dX6_follow_114 : decode cX6_follow 114 = .ok (.fastore, 1) := by decide +kernel
theorem dX6_follow_115 : decode cX6_follow 115 = .ok (.iinc 6 1, 3) := by decide +kernel
theorem dX6_follow_118 : decode cX6_follow 118 = .ok (.goto (-107), 3) := by decide +kernel
theorem dX6_follow_121 : decode cX6_follow 121 = .ok (.return_, 1) := by decide +kernel
theorem dX6_aimOf_0 : decode cX6_aimOf 0 = .ok (.iload_n 2, 1) := by decide +kernel
theorem dX6_aimOf_1 : decode cX6_aimOf 1 = .ok (.iconst 1, 1) := by decide +kernel
theorem dX6_aimOf_2 : decode cX6_aimOf 2 = .ok (.if_icmp .ne 8, 3) := by decide +kernel
theorem dX6_aimOf_5 : decode cX6_aimOf 5 = .ok (.iload_n 1, 1) := by decide +kernel
theorem dX6_aimOf_6 : decode cX6_aimOf 6 = .ok (.iconst 1, 1) := by decide +kernel
theorem dX6_aimOf_7 : decode cX6_aimOf 7 = .ok (.if_icmp .ge 9, 3) := by decide +kernel
theorem dX6_aimOf_10 : decode cX6_aimOf 10 = .ok (.aload_n 0, 1) := by decide +kernel
theorem dX6_aimOf_11 : decode cX6_aimOf 11 = .ok (.iload_n 1, 1) := by decide +kernel
theorem dX6_aimOf_12 : decode cX6_aimOf 12 = .ok (.iaload, 1) := by decide +kernel
theorem dX6_aimOf_13 : decode cX6_aimOf 13 = .ok (.ineg, 1) := by decide +kernel
theorem dX6_aimOf_14 : decode cX6_aimOf 14 = .ok (.i2f, 1) := by decide +kernel
theorem dX6_aimOf_15 : decode cX6_aimOf 15 = .ok (.freturn, 1) := by decide +kernel
theorem dX6_aimOf_16 : decode cX6_aimOf 16 = .ok (.aload_n 0, 1) := by decide +kernel
theorem dX6_aimOf_17 : decode cX6_aimOf 17 = .ok (.iload_n 1, 1) := by decide +kernel
theorem dX6_aimOf_18 : decode cX6_aimOf 18 = .ok (.iaload, 1) := by decide +kernel
theorem dX6_aimOf_19 : decode cX6_aimOf 19 = .ok (.aload_n 0, 1) := by decide +kernel
theorem dX6_aimOf_20 : decode cX6_aimOf 20 = .ok (.iload_n 1, 1) := by decide +kernel
theorem dX6_aimOf_21 : decode cX6_aimOf 21 = .ok (.iconst 1, 1) := by decide +kernel
theorem dX6_aimOf_22 : decode cX6_aimOf 22 = .ok (.isub, 1) := by decide +kernel
theorem dX6_aimOf_23 : decode cX6_aimOf 23 = .ok (.iaload, 1) := by decide +kernel
theorem dX6_aimOf_24 : decode cX6_aimOf 24 = .ok (.iadd, 1) := by decide +kernel
theorem dX6_aimOf_25 : decode cX6_aimOf 25 = .ok (.ineg, 1) := by decide +kernel
theorem dX6_aimOf_26 : decode cX6_aimOf 26 = .ok (.i2f, 1) := by decide +kernel
theorem dX6_aimOf_27 : decode cX6_aimOf 27 = .ok (.fconst 2, 1) := by decide +kernel
theorem dX6_aimOf_28 : decode cX6_aimOf 28 = .ok (.fdiv, 1) := by decide +kernel
theorem dX6_aimOf_29 : decode cX6_aimOf 29 = .ok (.freturn, 1) := by decide +kernel
theorem dX7_init_0 : decode cX7_init 0 = .ok (.aload_n 0, 1) := by decide +kernel
theorem dX7_init_1 : decode cX7_init 1 = .ok (.invokespecial 3, 3) := by decide +kernel
theorem dX7_init_4 : decode cX7_init 4 = .ok (.aload_n 0, 1) := by decide +kernel
theorem dX7_init_5 : decode cX7_init 5 = .ok (.bipush 80, 2) := by decide +kernel
theorem dX7_init_7 : decode cX7_init 7 = .ok (.newarray .int, 2) := by decide +kernel
theorem dX7_init_9 : decode cX7_init 9 = .ok (.putfield 9, 3) := by decide +kernel
theorem dX7_init_12 : decode cX7_init 12 = .ok (.aload_n 0, 1) := by decide +kernel
theorem dX7_init_13 : decode cX7_init 13 = .ok (.bipush 80, 2) := by decide +kernel
theorem dX7_init_15 : decode cX7_init 15 = .ok (.newarray .int, 2) := by decide +kernel
theorem dX7_init_17 : decode cX7_init 17 = .ok (.putfield 15, 3) := by decide +kernel
theorem dX7_init_20 : decode cX7_init 20 = .ok (.aload_n 0, 1) := by decide +kernel
theorem dX7_init_21 : decode cX7_init 21 = .ok (.bipush 80, 2) := by decide +kernel
theorem dX7_init_23 : decode cX7_init 23 = .ok (.newarray .int, 2) := by decide +kernel
theorem dX7_init_25 : decode cX7_init 25 = .ok (.putfield 18, 3) := by decide +kernel
theorem dX7_init_28 : decode cX7_init 28 = .ok (.aload_n 0, 1) := by decide +kernel
theorem dX7_init_29 : decode cX7_init 29 = .ok (.bipush 8, 2) := by decide +kernel
theorem dX7_init_31 : decode cX7_init 31 = .ok (.newarray .int, 2) := by decide +kernel
theorem dX7_init_33 : decode cX7_init 33 = .ok (.putfield 21, 3) := by decide +kernel
theorem dX7_init_36 : decode cX7_init 36 = .ok (.aload_n 0, 1) := by decide +kernel
theorem dX7_init_37 : decode cX7_init 37 = .ok (.bipush 8, 2) := by decide +kernel
theorem dX7_init_39 : decode cX7_init 39 = .ok (.newarray .int, 2) := by decide +kernel
theorem dX7_init_41 : decode cX7_init 41 = .ok (.putfield 24, 3) := by decide +kernel
theorem dX7_init_44 : decode cX7_init 44 = .ok (.aload_n 0, 1) := by decide +kernel
theorem dX7_init_45 : decode cX7_init 45 = .ok (.bipush 8, 2) := by decide +kernel
theorem dX7_init_47 : decode cX7_init 47 = .ok (.newarray .int, 2) := by decide +kernel
theorem dX7_init_49 : decode cX7_init 49 = .ok (.putfield 27, 3) := by decide +kernel
theorem dX7_init_52 : decode cX7_init 52 = .ok (.aload_n 0, 1) := by decide +kernel
theorem dX7_init_53 : decode cX7_init 53 = .ok (.bipush 8, 2) := by decide +kernel
theorem dX7_init_55 : decode cX7_init 55 = .ok (.newarray .int, 2) := by decide +kernel
theorem dX7_init_57 : decode cX7_init 57 = .ok (.putfield 30, 3) := by decide +kernel
theorem dX7_init_60 : decode cX7_init 60 = .ok (.aload_n 0, 1) := by decide +kernel
theorem dX7_init_61 : decode cX7_init 61 = .ok (.bipush 8, 2) := by decide +kernel
theorem dX7_init_63 : decode cX7_init 63 = .ok (.newarray .boolean, 2) := by decide +kernel
theorem dX7_init_65 : decode cX7_init 65 = .ok (.putfield 33, 3) := by decide +kernel
theorem dX7_init_68 : decode cX7_init 68 = .ok (.iconst 0, 1) := by decide +kernel
theorem dX7_init_69 : decode cX7_init 69 = .ok (.istore_n 1, 1) := by decide +kernel
theorem dX7_init_70 : decode cX7_init 70 = .ok (.iload_n 1, 1) := by decide +kernel
theorem dX7_init_71 : decode cX7_init 71 = .ok (.bipush 8, 2) := by decide +kernel
theorem dX7_init_73 : decode cX7_init 73 = .ok (.if_icmp .ge 17, 3) := by decide +kernel
theorem dX7_init_76 : decode cX7_init 76 = .ok (.aload_n 0, 1) := by decide +kernel
theorem dX7_init_77 : decode cX7_init 77 = .ok (.getfield 24, 3) := by decide +kernel
theorem dX7_init_80 : decode cX7_init 80 = .ok (.iload_n 1, 1) := by decide +kernel
theorem dX7_init_81 : decode cX7_init 81 = .ok (.bipush 20, 2) := by decide +kernel
theorem dX7_init_83 : decode cX7_init 83 = .ok (.iastore, 1) := by decide +kernel
theorem dX7_init_84 : decode cX7_init 84 = .ok (.iinc 1 1, 3) := by decide +kernel
theorem dX7_init_87 : decode cX7_init 87 = .ok (.goto (-17), 3) := by decide +kernel
theorem dX7_init_90 : decode cX7_init 90 = .ok (.return_, 1) := by decide +kernel
theorem dX7_paint_0 : decode cX7_paint 0 = .ok (.aload_n 0, 1) := by decide +kernel
theorem dX7_paint_1 : decode cX7_paint 1 = .ok (.getfield 9, 3) := by decide +kernel
theorem dX7_paint_4 : decode cX7_paint 4 = .ok (.iload_n 1, 1) := by decide +kernel
theorem dX7_paint_5 : decode cX7_paint 5 = .ok (.iaload, 1) := by decide +kernel
theorem dX7_paint_6 : decode cX7_paint 6 = .ok (.iload_n 2, 1) := by decide +kernel
theorem dX7_paint_7 : decode cX7_paint 7 = .ok (.if_icmp .ne 24, 3) := by decide +kernel
theorem dX7_paint_10 : decode cX7_paint 10 = .ok (.aload_n 0, 1) := by decide +kernel
theorem dX7_paint_11 : decode cX7_paint 11 = .ok (.getfield 15, 3) := by decide +kernel
theorem dX7_paint_14 : decode cX7_paint 14 = .ok (.iload_n 1, 1) := by decide +kernel
theorem dX7_paint_15 : decode cX7_paint 15 = .ok (.iaload, 1) := by decide +kernel
theorem dX7_paint_16 : decode cX7_paint 16 = .ok (.iload_n 3, 1) := by decide +kernel
theorem dX7_paint_17 : decode cX7_paint 17 = .ok (.if_icmp .ne 14, 3) := by decide +kernel
theorem dX7_paint_20 : decode cX7_paint 20 = .ok (.aload_n 0, 1) := by decide +kernel
theorem dX7_paint_21 : decode cX7_paint 21 = .ok (.getfield 18, 3) := by decide +kernel
theorem dX7_paint_24 : decode cX7_paint 24 = .ok (.iload_n 1, 1) := by decide +kernel
theorem dX7_paint_25 : decode cX7_paint 25 = .ok (.iaload, 1) := by decide +kernel
theorem dX7_paint_26 : decode cX7_paint 26 = .ok (.iload 4, 2) := by decide +kernel
theorem dX7_paint_28 : decode cX7_paint 28 = .ok (.if_icmp .eq 7, 3) := by decide +kernel
theorem dX7_paint_31 : decode cX7_paint 31 = .ok (.iconst 1, 1) := by decide +kernel
theorem dX7_paint_32 : decode cX7_paint 32 = .ok (.goto 4, 3) := by decide +kernel
theorem dX7_paint_35 : decode cX7_paint 35 = .ok (.iconst 0, 1) := by decide +kernel
theorem dX7_paint_36 : decode cX7_paint 36 = .ok (.istore 5, 2) := by decide +kernel
theorem dX7_paint_38 : decode cX7_paint 38 = .ok (.aload_n 0, 1) := by decide +kernel
theorem dX7_paint_39 : decode cX7_paint 39 = .ok (.getfield 9, 3) := by decide +kernel
theorem dX7_paint_42 : decode cX7_paint 42 = .ok (.iload_n 1, 1) := by decide +kernel
theorem dX7_paint_43 : decode cX7_paint 43 = .ok (.iload_n 2, 1) := by decide +kernel
theorem dX7_paint_44 : decode cX7_paint 44 = .ok (.iastore, 1) := by decide +kernel
theorem dX7_paint_45 : decode cX7_paint 45 = .ok (.aload_n 0, 1) := by decide +kernel
theorem dX7_paint_46 : decode cX7_paint 46 = .ok (.getfield 15, 3) := by decide +kernel
theorem dX7_paint_49 : decode cX7_paint 49 = .ok (.iload_n 1, 1) := by decide +kernel
theorem dX7_paint_50 : decode cX7_paint 50 = .ok (.iload_n 3, 1) := by decide +kernel
theorem dX7_paint_51 : decode cX7_paint 51 = .ok (.iastore, 1) := by decide +kernel
theorem dX7_paint_52 : decode cX7_paint 52 = .ok (.aload_n 0, 1) := by decide +kernel
theorem dX7_paint_53 : decode cX7_paint 53 = .ok (.getfield 18, 3) := by decide +kernel
theorem dX7_paint_56 : decode cX7_paint 56 = .ok (.iload_n 1, 1) := by decide +kernel
theorem dX7_paint_57 : decode cX7_paint 57 = .ok (.iload 4, 2) := by decide +kernel
theorem dX7_paint_59 : decode cX7_paint 59 = .ok (.iastore, 1) := by decide +kernel
theorem dX7_paint_60 : decode cX7_paint 60 = .ok (.iload 5, 2) := by decide +kernel
theorem dX7_paint_62 : decode cX7_paint 62 = .ok (.ireturn, 1) := by decide +kernel
theorem dX7_sampleAt_0 : decode cX7_sampleAt 0 = .ok (.iload_n 2, 1) := by decide +kernel
theorem dX7_sampleAt_1 : decode cX7_sampleAt 1 = .ok (.bipush 8, 2) := by decide +kernel
theorem dX7_sampleAt_3 : decode cX7_sampleAt 3 = .ok (.isub, 1) := by decide +kernel
theorem dX7_sampleAt_4 : decode cX7_sampleAt 4 = .ok (.aload_n 0, 1) := by decide +kernel
theorem dX7_sampleAt_5 : decode cX7_sampleAt 5 = .ok (.getfield 21, 3) := by decide +kernel
theorem dX7_sampleAt_8 : decode cX7_sampleAt 8 = .ok (.iload_n 1, 1) := by decide +kernel
theorem dX7_sampleAt_9 : decode cX7_sampleAt 9 = .ok (.iaload, 1) := by decide +kernel
theorem dX7_sampleAt_10 : decode cX7_sampleAt 10 = .ok (.isub, 1) := by decide +kernel
theorem dX7_sampleAt_11 : decode cX7_sampleAt 11 = .ok (.istore_n 3, 1) := by decide +kernel
theorem dX7_sampleAt_12 : decode cX7_sampleAt 12 = .ok (.iload_n 1, 1) := by decide +kernel
theorem dX7_sampleAt_13 : decode cX7_sampleAt 13 = .ok (.iload_n 2, 1) := by decide +kernel
theorem dX7_sampleAt_14 : decode cX7_sampleAt 14 = .ok (.aload_n 0, 1) := by decide +kernel
theorem dX7_sampleAt_15 : decode cX7_sampleAt 15 = .ok (.getfield 27, 3) := by decide +kernel
theorem dX7_sampleAt_18 : decode cX7_sampleAt 18 = .ok (.iload_n 1, 1) := by decide +kernel
theorem dX7_sampleAt_19 : decode cX7_sampleAt 19 = .ok (.iaload, 1) := by decide +kernel
theorem dX7_sampleAt_20 : decode cX7_sampleAt 20 = .ok (.iadd, 1) := by decide +kernel
theorem dX7_sampleAt_21 : decode cX7_sampleAt 21 = .ok (.invokestatic 37, 3) := by decide +kernel
theorem dX7_sampleAt_24 : decode cX7_sampleAt 24 = .ok (.istore 4, 2) := by decide +kernel
theorem dX7_sampleAt_26 : decode cX7_sampleAt 26 = .ok (.aload_n 0, 1) := by decide +kernel
theorem dX7_sampleAt_27 : decode cX7_sampleAt 27 = .ok (.iload_n 1, 1) := by decide +kernel
theorem dX7_sampleAt_28 : decode cX7_sampleAt 28 = .ok (.iload_n 2, 1) := by decide +kernel
theorem dX7_sampleAt_29 : decode cX7_sampleAt 29 = .ok (.invokevirtual 41, 3) := by decide +kernel
theorem dX7_sampleAt_32 : decode cX7_sampleAt 32 = .ok (.aload_n 0, 1) := by decide +kernel
theorem dX7_sampleAt_33 : decode cX7_sampleAt 33 = .ok (.iload_n 1, 1) := by decide +kernel
theorem dX7_sampleAt_34 : decode cX7_sampleAt 34 = .ok (.iload_n 3, 1) := by decide +kernel
theorem dX7_sampleAt_35 : decode cX7_sampleAt 35 = .ok (.iload 4, 2) := by decide +kernel
theorem dX7_sampleAt_37 : decode cX7_sampleAt 37 = .ok (.invokevirtual 44, 3) := by decide +kernel
theorem dX7_sampleAt_40 : decode cX7_sampleAt 40 = .ok (.iadd, 1) := by decide +kernel
theorem dX7_sampleAt_41 : decode cX7_sampleAt 41 = .ok (.ireturn, 1) := by decide +kernel
theorem dX7_noiseAt_0 : decode cX7_noiseAt 0 = .ok (.aload_n 0, 1) := by decide +kernel
theorem dX7_noiseAt_1 : decode cX7_noiseAt 1 = .ok (.getfield 30, 3) := by decide +kernel
theorem dX7_noiseAt_4 : decode cX7_noiseAt 4 = .ok (.iload_n 1, 1) := by decide +kernel
theorem dX7_noiseAt_5 : decode cX7_noiseAt 5 = .ok (.iaload, 1) := by decide +kernel
theorem dX7_noiseAt_6 : decode cX7_noiseAt 6 = .ok (.bipush 7, 2) := by decide +kernel
theorem dX7_noiseAt_8 : decode cX7_noiseAt 8 = .ok (.iload_n 2, 1) := by decide +kernel
theorem dX7_noiseAt_9 : decode cX7_noiseAt 9 = .ok (.imul, 1) := by decide +kernel
theorem dX7_noiseAt_10 : decode cX7_noiseAt 10 = .ok (.bipush 13, 2) := by decide +kernel
theorem dX7_noiseAt_12 : decode cX7_noiseAt 12 = .ok (.iload_n 1, 1) := by decide +kernel
end
section
/-! decode rows, part 2 -/
theorem dX7_noiseAt_13 : decode cX7_noiseAt 13 = .ok (.imul, 1) := by decide +kernel
theorem dX7_noiseAt_14 : decode cX7_noiseAt 14 = .ok (.iadd, 1) := by decide +kernel
theorem dX7_noiseAt_15 : decode cX7_noiseAt 15 = .ok (.iconst 5, 1) := by decide +kernel
theorem dX7_noiseAt_16 : decode cX7_noiseAt 16 = .ok (.invokestatic 48, 3) := by decide +kernel
theorem dX7_noiseAt_19 : decode cX7_noiseAt 19 = .ok (.iconst 2, 1) := by decide +kernel
theorem dX7_noiseAt_20 : decode cX7_noiseAt 20 = .ok (.isub, 1) := by decide +kernel
theorem dX7_noiseAt_21 : decode cX7_noiseAt 21 = .ok (.imul, 1) := by decide +kernel
theorem dX7_noiseAt_22 : decode cX7_noiseAt 22 = .ok (.ireturn, 1) := by decide +kernel
theorem dX7_levelAt_0 : decode cX7_levelAt 0 = .ok (.iload_n 2, 1) := by decide +kernel
theorem dX7_levelAt_1 : decode cX7_levelAt 1 = .ok (.ifCond .ge 5, 3) := by decide +kernel
theorem dX7_levelAt_4 : decode cX7_levelAt 4 = .ok (.iconst 0, 1) := by decide +kernel
theorem dX7_levelAt_5 : decode cX7_levelAt 5 = .ok (.ireturn, 1) := by decide +kernel
theorem dX7_levelAt_6 : decode cX7_levelAt 6 = .ok (.iload_n 2, 1) := by decide +kernel
theorem dX7_levelAt_7 : decode cX7_levelAt 7 = .ok (.bipush 8, 2) := by decide +kernel
theorem dX7_levelAt_9 : decode cX7_levelAt 9 = .ok (.if_icmp .ge 19, 3) := by decide +kernel
theorem dX7_levelAt_12 : decode cX7_levelAt 12 = .ok (.aload_n 0, 1) := by decide +kernel
theorem dX7_levelAt_13 : decode cX7_levelAt 13 = .ok (.getfield 33, 3) := by decide +kernel
theorem dX7_levelAt_16 : decode cX7_levelAt 16 = .ok (.iload_n 1, 1) := by decide +kernel
theorem dX7_levelAt_17 : decode cX7_levelAt 17 = .ok (.baload, 1) := by decide +kernel
theorem dX7_levelAt_18 : decode cX7_levelAt 18 = .ok (.ifCond .eq 7, 3) := by decide +kernel
theorem dX7_levelAt_21 : decode cX7_levelAt 21 = .ok (.iconst 0, 1) := by decide +kernel
theorem dX7_levelAt_22 : decode cX7_levelAt 22 = .ok (.goto 5, 3) := by decide +kernel
theorem dX7_levelAt_25 : decode cX7_levelAt 25 = .ok (.bipush (-40), 2) := by decide +kernel
theorem dX7_levelAt_27 : decode cX7_levelAt 27 = .ok (.ireturn, 1) := by decide +kernel
theorem dX7_levelAt_28 : decode cX7_levelAt 28 = .ok (.iload_n 2, 1) := by decide +kernel
theorem dX7_levelAt_29 : decode cX7_levelAt 29 = .ok (.bipush 16, 2) := by decide +kernel
theorem dX7_levelAt_31 : decode cX7_levelAt 31 = .ok (.if_icmp .ge 10, 3) := by decide +kernel
theorem dX7_levelAt_34 : decode cX7_levelAt 34 = .ok (.aload_n 0, 1) := by decide +kernel
theorem dX7_levelAt_35 : decode cX7_levelAt 35 = .ok (.iload_n 1, 1) := by decide +kernel
theorem dX7_levelAt_36 : decode cX7_levelAt 36 = .ok (.iload_n 3, 1) := by decide +kernel
theorem dX7_levelAt_37 : decode cX7_levelAt 37 = .ok (.invokevirtual 53, 3) := by decide +kernel
theorem dX7_levelAt_40 : decode cX7_levelAt 40 = .ok (.ireturn, 1) := by decide +kernel
theorem dX7_levelAt_41 : decode cX7_levelAt 41 = .ok (.iload_n 2, 1) := by decide +kernel
theorem dX7_levelAt_42 : decode cX7_levelAt 42 = .ok (.bipush 16, 2) := by decide +kernel
theorem dX7_levelAt_44 : decode cX7_levelAt 44 = .ok (.isub, 1) := by decide +kernel
theorem dX7_levelAt_45 : decode cX7_levelAt 45 = .ok (.bipush 8, 2) := by decide +kernel
theorem dX7_levelAt_47 : decode cX7_levelAt 47 = .ok (.idiv, 1) := by decide +kernel
theorem dX7_levelAt_48 : decode cX7_levelAt 48 = .ok (.istore 4, 2) := by decide +kernel
theorem dX7_levelAt_50 : decode cX7_levelAt 50 = .ok (.iload 4, 2) := by decide +kernel
theorem dX7_levelAt_52 : decode cX7_levelAt 52 = .ok (.bipush 10, 2) := by decide +kernel
theorem dX7_levelAt_54 : decode cX7_levelAt 54 = .ok (.if_icmp .lt 5, 3) := by decide +kernel
theorem dX7_levelAt_57 : decode cX7_levelAt 57 = .ok (.iconst 0, 1) := by decide +kernel
theorem dX7_levelAt_58 : decode cX7_levelAt 58 = .ok (.ireturn, 1) := by decide +kernel
theorem dX7_levelAt_59 : decode cX7_levelAt 59 = .ok (.iload_n 1, 1) := by decide +kernel
theorem dX7_levelAt_60 : decode cX7_levelAt 60 = .ok (.iload 4, 2) := by decide +kernel
theorem dX7_levelAt_62 : decode cX7_levelAt 62 = .ok (.invokestatic 56, 3) := by decide +kernel
theorem dX7_levelAt_65 : decode cX7_levelAt 65 = .ok (.istore 5, 2) := by decide +kernel
theorem dX7_levelAt_67 : decode cX7_levelAt 67 = .ok (.aload_n 0, 1) := by decide +kernel
theorem dX7_levelAt_68 : decode cX7_levelAt 68 = .ok (.getfield 9, 3) := by decide +kernel
theorem dX7_levelAt_71 : decode cX7_levelAt 71 = .ok (.iload 5, 2) := by decide +kernel
theorem dX7_levelAt_73 : decode cX7_levelAt 73 = .ok (.iaload, 1) := by decide +kernel
theorem dX7_levelAt_74 : decode cX7_levelAt 74 = .ok (.aload_n 0, 1) := by decide +kernel
theorem dX7_levelAt_75 : decode cX7_levelAt 75 = .ok (.getfield 15, 3) := by decide +kernel
theorem dX7_levelAt_78 : decode cX7_levelAt 78 = .ok (.iload 5, 2) := by decide +kernel
theorem dX7_levelAt_80 : decode cX7_levelAt 80 = .ok (.iaload, 1) := by decide +kernel
theorem dX7_levelAt_81 : decode cX7_levelAt 81 = .ok (.getstatic 59, 3) := by decide +kernel
theorem dX7_levelAt_84 : decode cX7_levelAt 84 = .ok (.iload_n 3, 1) := by decide +kernel
theorem dX7_levelAt_85 : decode cX7_levelAt 85 = .ok (.iaload, 1) := by decide +kernel
theorem dX7_levelAt_86 : decode cX7_levelAt 86 = .ok (.imul, 1) := by decide +kernel
theorem dX7_levelAt_87 : decode cX7_levelAt 87 = .ok (.iadd, 1) := by decide +kernel
theorem dX7_levelAt_88 : decode cX7_levelAt 88 = .ok (.aload_n 0, 1) := by decide +kernel
theorem dX7_levelAt_89 : decode cX7_levelAt 89 = .ok (.iload_n 1, 1) := by decide +kernel
theorem dX7_levelAt_90 : decode cX7_levelAt 90 = .ok (.invokevirtual 62, 3) := by decide +kernel
theorem dX7_levelAt_93 : decode cX7_levelAt 93 = .ok (.aload_n 0, 1) := by decide +kernel
theorem dX7_levelAt_94 : decode cX7_levelAt 94 = .ok (.getfield 18, 3) := by decide +kernel
theorem dX7_levelAt_97 : decode cX7_levelAt 97 = .ok (.iload 5, 2) := by decide +kernel
theorem dX7_levelAt_99 : decode cX7_levelAt 99 = .ok (.iaload, 1) := by decide +kernel
theorem dX7_levelAt_100 : decode cX7_levelAt 100 = .ok (.imul, 1) := by decide +kernel
theorem dX7_levelAt_101 : decode cX7_levelAt 101 = .ok (.getstatic 66, 3) := by decide +kernel
theorem dX7_levelAt_104 : decode cX7_levelAt 104 = .ok (.iload_n 3, 1) := by decide +kernel
theorem dX7_levelAt_105 : decode cX7_levelAt 105 = .ok (.iaload, 1) := by decide +kernel
theorem dX7_levelAt_106 : decode cX7_levelAt 106 = .ok (.imul, 1) := by decide +kernel
theorem dX7_levelAt_107 : decode cX7_levelAt 107 = .ok (.iadd, 1) := by decide +kernel
theorem dX7_levelAt_108 : decode cX7_levelAt 108 = .ok (.ireturn, 1) := by decide +kernel
theorem dX7_burstAt_0 : decode cX7_burstAt 0 = .ok (.aload_n 0, 1) := by decide +kernel
theorem dX7_burstAt_1 : decode cX7_burstAt 1 = .ok (.getfield 24, 3) := by decide +kernel
theorem dX7_burstAt_4 : decode cX7_burstAt 4 = .ok (.iload_n 1, 1) := by decide +kernel
theorem dX7_burstAt_5 : decode cX7_burstAt 5 = .ok (.iaload, 1) := by decide +kernel
theorem dX7_burstAt_6 : decode cX7_burstAt 6 = .ok (.ineg, 1) := by decide +kernel
theorem dX7_burstAt_7 : decode cX7_burstAt 7 = .ok (.getstatic 59, 3) := by decide +kernel
theorem dX7_burstAt_10 : decode cX7_burstAt 10 = .ok (.iload_n 2, 1) := by decide +kernel
theorem dX7_burstAt_11 : decode cX7_burstAt 11 = .ok (.iaload, 1) := by decide +kernel
theorem dX7_burstAt_12 : decode cX7_burstAt 12 = .ok (.imul, 1) := by decide +kernel
theorem dX7_burstAt_13 : decode cX7_burstAt 13 = .ok (.istore_n 3, 1) := by decide +kernel
theorem dX7_burstAt_14 : decode cX7_burstAt 14 = .ok (.aload_n 0, 1) := by decide +kernel
theorem dX7_burstAt_15 : decode cX7_burstAt 15 = .ok (.getfield 69, 3) := by decide +kernel
theorem dX7_burstAt_18 : decode cX7_burstAt 18 = .ok (.iconst 1, 1) := by decide +kernel
theorem dX7_burstAt_19 : decode cX7_burstAt 19 = .ok (.if_icmp .ne 24, 3) := by decide +kernel
theorem dX7_burstAt_22 : decode cX7_burstAt 22 = .ok (.iload_n 3, 1) := by decide +kernel
theorem dX7_burstAt_23 : decode cX7_burstAt 23 = .ok (.aload_n 0, 1) := by decide +kernel
theorem dX7_burstAt_24 : decode cX7_burstAt 24 = .ok (.iload_n 1, 1) := by decide +kernel
theorem dX7_burstAt_25 : decode cX7_burstAt 25 = .ok (.invokevirtual 62, 3) := by decide +kernel
theorem dX7_burstAt_28 : decode cX7_burstAt 28 = .ok (.aload_n 0, 1) := by decide +kernel
theorem dX7_burstAt_29 : decode cX7_burstAt 29 = .ok (.getfield 24, 3) := by decide +kernel
theorem dX7_burstAt_32 : decode cX7_burstAt 32 = .ok (.iload_n 1, 1) := by decide +kernel
theorem dX7_burstAt_33 : decode cX7_burstAt 33 = .ok (.iaload, 1) := by decide +kernel
theorem dX7_burstAt_34 : decode cX7_burstAt 34 = .ok (.imul, 1) := by decide +kernel
theorem dX7_burstAt_35 : decode cX7_burstAt 35 = .ok (.getstatic 66, 3) := by decide +kernel
theorem dX7_burstAt_38 : decode cX7_burstAt 38 = .ok (.iload_n 2, 1) := by decide +kernel
theorem dX7_burstAt_39 : decode cX7_burstAt 39 = .ok (.iaload, 1) := by decide +kernel
theorem dX7_burstAt_40 : decode cX7_burstAt 40 = .ok (.imul, 1) := by decide +kernel
theorem dX7_burstAt_41 : decode cX7_burstAt 41 = .ok (.iadd, 1) := by decide +kernel
theorem dX7_burstAt_42 : decode cX7_burstAt 42 = .ok (.istore_n 3, 1) := by decide +kernel
theorem dX7_burstAt_43 : decode cX7_burstAt 43 = .ok (.iload_n 3, 1) := by decide +kernel
theorem dX7_burstAt_44 : decode cX7_burstAt 44 = .ok (.ireturn, 1) := by decide +kernel
theorem dX7_signOf_0 : decode cX7_signOf 0 = .ok (.aload_n 0, 1) := by decide +kernel
theorem dX7_signOf_1 : decode cX7_signOf 1 = .ok (.getfield 69, 3) := by decide +kernel
theorem dX7_signOf_4 : decode cX7_signOf 4 = .ok (.iconst 1, 1) := by decide +kernel
theorem dX7_signOf_5 : decode cX7_signOf 5 = .ok (.if_icmp .ne 14, 3) := by decide +kernel
theorem dX7_signOf_8 : decode cX7_signOf 8 = .ok (.iload_n 1, 1) := by decide +kernel
theorem dX7_signOf_9 : decode cX7_signOf 9 = .ok (.iconst 1, 1) := by decide +kernel
theorem dX7_signOf_10 : decode cX7_signOf 10 = .ok (.iand, 1) := by decide +kernel
theorem dX7_signOf_11 : decode cX7_signOf 11 = .ok (.iconst 1, 1) := by decide +kernel
theorem dX7_signOf_12 : decode cX7_signOf 12 = .ok (.if_icmp .ne 7, 3) := by decide +kernel
theorem dX7_signOf_15 : decode cX7_signOf 15 = .ok (.iconst (-1), 1) := by decide +kernel
theorem dX7_signOf_16 : decode cX7_signOf 16 = .ok (.goto 4, 3) := by decide +kernel
theorem dX7_signOf_19 : decode cX7_signOf 19 = .ok (.iconst 1, 1) := by decide +kernel
theorem dX7_signOf_20 : decode cX7_signOf 20 = .ok (.ireturn, 1) := by decide +kernel
theorem dX8_init_0 : decode cX8_init 0 = .ok (.aload_n 0, 1) := by decide +kernel
theorem dX8_init_1 : decode cX8_init 1 = .ok (.invokespecial 1, 3) := by decide +kernel
theorem dX8_init_4 : decode cX8_init 4 = .ok (.aload_n 0, 1) := by decide +kernel
theorem dX8_init_5 : decode cX8_init 5 = .ok (.iconst 4, 1) := by decide +kernel
theorem dX8_init_6 : decode cX8_init 6 = .ok (.newarray .int, 2) := by decide +kernel
theorem dX8_init_8 : decode cX8_init 8 = .ok (.dup, 1) := by decide +kernel
theorem dX8_init_9 : decode cX8_init 9 = .ok (.iconst 0, 1) := by decide +kernel
theorem dX8_init_10 : decode cX8_init 10 = .ok (.bipush 8, 2) := by decide +kernel
theorem dX8_init_12 : decode cX8_init 12 = .ok (.iastore, 1) := by decide +kernel
theorem dX8_init_13 : decode cX8_init 13 = .ok (.dup, 1) := by decide +kernel
theorem dX8_init_14 : decode cX8_init 14 = .ok (.iconst 1, 1) := by decide +kernel
theorem dX8_init_15 : decode cX8_init 15 = .ok (.bipush 10, 2) := by decide +kernel
theorem dX8_init_17 : decode cX8_init 17 = .ok (.iastore, 1) := by decide +kernel
theorem dX8_init_18 : decode cX8_init 18 = .ok (.dup, 1) := by decide +kernel
theorem dX8_init_19 : decode cX8_init 19 = .ok (.iconst 2, 1) := by decide +kernel
theorem dX8_init_20 : decode cX8_init 20 = .ok (.iconst 3, 1) := by decide +kernel
theorem dX8_init_21 : decode cX8_init 21 = .ok (.iastore, 1) := by decide +kernel
theorem dX8_init_22 : decode cX8_init 22 = .ok (.dup, 1) := by decide +kernel
theorem dX8_init_23 : decode cX8_init 23 = .ok (.iconst 3, 1) := by decide +kernel
theorem dX8_init_24 : decode cX8_init 24 = .ok (.iconst 2, 1) := by decide +kernel
theorem dX8_init_25 : decode cX8_init 25 = .ok (.iastore, 1) := by decide +kernel
theorem dX8_init_26 : decode cX8_init 26 = .ok (.putfield 9, 3) := by decide +kernel
theorem dX8_init_29 : decode cX8_init 29 = .ok (.return_, 1) := by decide +kernel
theorem dX8_allows_0 : decode cX8_allows 0 = .ok (.iload_n 2, 1) := by decide +kernel
theorem dX8_allows_1 : decode cX8_allows 1 = .ok (.getstatic 13, 3) := by decide +kernel
theorem dX8_allows_4 : decode cX8_allows 4 = .ok (.iload_n 1, 1) := by decide +kernel
theorem dX8_allows_5 : decode cX8_allows 5 = .ok (.iaload, 1) := by decide +kernel
theorem dX8_allows_6 : decode cX8_allows 6 = .ok (.getstatic 16, 3) := by decide +kernel
theorem dX8_allows_9 : decode cX8_allows 9 = .ok (.iload_n 1, 1) := by decide +kernel
theorem dX8_allows_10 : decode cX8_allows 10 = .ok (.iaload, 1) := by decide +kernel
theorem dX8_allows_11 : decode cX8_allows 11 = .ok (.invokestatic 19, 3) := by decide +kernel
theorem dX8_allows_14 : decode cX8_allows 14 = .ok (.ireturn, 1) := by decide +kernel
theorem dX8_threshold_0 : decode cX8_threshold 0 = .ok (.aload_n 0, 1) := by decide +kernel
theorem dX8_threshold_1 : decode cX8_threshold 1 = .ok (.getfield 9, 3) := by decide +kernel
theorem dX8_threshold_4 : decode cX8_threshold 4 = .ok (.iconst 0, 1) := by decide +kernel
theorem dX8_threshold_5 : decode cX8_threshold 5 = .ok (.iaload, 1) := by decide +kernel
theorem dX8_threshold_6 : decode cX8_threshold 6 = .ok (.ireturn, 1) := by decide +kernel
theorem dX8_limit_0 : decode cX8_limit 0 = .ok (.aload_n 0, 1) := by decide +kernel
theorem dX8_limit_1 : decode cX8_limit 1 = .ok (.getfield 9, 3) := by decide +kernel
theorem dX8_limit_4 : decode cX8_limit 4 = .ok (.iconst 1, 1) := by decide +kernel
theorem dX8_limit_5 : decode cX8_limit 5 = .ok (.iaload, 1) := by decide +kernel
theorem dX8_limit_6 : decode cX8_limit 6 = .ok (.ireturn, 1) := by decide +kernel
theorem dX8_comb_0 : decode cX8_comb 0 = .ok (.aload_n 0, 1) := by decide +kernel
theorem dX8_comb_1 : decode cX8_comb 1 = .ok (.getfield 9, 3) := by decide +kernel
theorem dX8_comb_4 : decode cX8_comb 4 = .ok (.iconst 2, 1) := by decide +kernel
theorem dX8_comb_5 : decode cX8_comb 5 = .ok (.iaload, 1) := by decide +kernel
theorem dX8_comb_6 : decode cX8_comb 6 = .ok (.ireturn, 1) := by decide +kernel
theorem dX8_standardTaken_0 : decode cX8_standardTaken 0 = .ok (.aload_n 0, 1) := by decide +kernel
theorem dX8_standardTaken_1 : decode cX8_standardTaken 1 = .ok (.getfield 9, 3) := by decide +kernel
theorem dX8_standardTaken_4 : decode cX8_standardTaken 4 = .ok (.iconst 3, 1) := by decide +kernel
theorem dX8_standardTaken_5 : decode cX8_standardTaken 5 = .ok (.iaload, 1) := by decide +kernel
theorem dX8_standardTaken_6 : decode cX8_standardTaken 6 = .ok (.iconst 2, 1) := by decide +kernel
theorem dX8_standardTaken_7 : decode cX8_standardTaken 7 = .ok (.if_icmp .ne 7, 3) := by decide +kernel
theorem dX8_standardTaken_10 : decode cX8_standardTaken 10 = .ok (.iload_n 1, 1) := by decide +kernel
theorem dX8_standardTaken_11 : decode cX8_standardTaken 11 = .ok (.goto 9, 3) := by decide +kernel
theorem dX8_standardTaken_14 : decode cX8_standardTaken 14 = .ok (.aload_n 0, 1) := by decide +kernel
theorem dX8_standardTaken_15 : decode cX8_standardTaken 15 = .ok (.getfield 9, 3) := by decide +kernel
theorem dX8_standardTaken_18 : decode cX8_standardTaken 18 = .ok (.iconst 3, 1) := by decide +kernel
theorem dX8_standardTaken_19 : decode cX8_standardTaken 19 = .ok (.iaload, 1) := by decide +kernel
theorem dX8_standardTaken_20 : decode cX8_standardTaken 20 = .ok (.ireturn, 1) := by decide +kernel
theorem dX9_init_0 : decode cX9_init 0 = .ok (.aload_n 0, 1) := by decide +kernel
theorem dX9_init_1 : decode cX9_init 1 = .ok (.invokespecial 3, 3) := by decide +kernel
theorem dX9_init_4 : decode cX9_init 4 = .ok (.aload_n 0, 1) := by decide +kernel
theorem dX9_init_5 : decode cX9_init 5 = .ok (.bipush 8, 2) := by decide +kernel
theorem dX9_init_7 : decode cX9_init 7 = .ok (.bipush 112, 2) := by decide +kernel
theorem dX9_init_9 : decode cX9_init 9 = .ok (.multianewarray 9 2, 4) := by decide +kernel
theorem dX9_init_13 : decode cX9_init 13 = .ok (.putfield 11, 3) := by decide +kernel
theorem dX9_init_16 : decode cX9_init 16 = .ok (.return_, 1) := by decide +kernel
theorem dX9_sendFrom_0 : decode cX9_sendFrom 0 = .ok (.iconst 0, 1) := by decide +kernel
theorem dX9_sendFrom_1 : decode cX9_sendFrom 1 = .ok (.istore_n 2, 1) := by decide +kernel
theorem dX9_sendFrom_2 : decode cX9_sendFrom 2 = .ok (.iload_n 2, 1) := by decide +kernel
theorem dX9_sendFrom_3 : decode cX9_sendFrom 3 = .ok (.bipush 8, 2) := by decide +kernel
theorem dX9_sendFrom_5 : decode cX9_sendFrom 5 = .ok (.if_icmp .ge 43, 3) := by decide +kernel
theorem dX9_sendFrom_8 : decode cX9_sendFrom 8 = .ok (.aload_n 0, 1) := by decide +kernel
theorem dX9_sendFrom_9 : decode cX9_sendFrom 9 = .ok (.getfield 11, 3) := by decide +kernel
theorem dX9_sendFrom_12 : decode cX9_sendFrom 12 = .ok (.iload_n 2, 1) := by decide +kernel
theorem dX9_sendFrom_13 : decode cX9_sendFrom 13 = .ok (.aaload, 1) := by decide +kernel
theorem dX9_sendFrom_14 : decode cX9_sendFrom 14 = .ok (.astore_n 3, 1) := by decide +kernel
theorem dX9_sendFrom_15 : decode cX9_sendFrom 15 = .ok (.iconst 0, 1) := by decide +kernel
theorem dX9_sendFrom_16 : decode cX9_sendFrom 16 = .ok (.istore 4, 2) := by decide +kernel
theorem dX9_sendFrom_18 : decode cX9_sendFrom 18 = .ok (.iload 4, 2) := by decide +kernel
theorem dX9_sendFrom_20 : decode cX9_sendFrom 20 = .ok (.bipush 112, 2) := by decide +kernel
theorem dX9_sendFrom_22 : decode cX9_sendFrom 22 = .ok (.if_icmp .ge 20, 3) := by decide +kernel
theorem dX9_sendFrom_25 : decode cX9_sendFrom 25 = .ok (.aload_n 3, 1) := by decide +kernel
theorem dX9_sendFrom_26 : decode cX9_sendFrom 26 = .ok (.iload 4, 2) := by decide +kernel
theorem dX9_sendFrom_28 : decode cX9_sendFrom 28 = .ok (.aload_n 1, 1) := by decide +kernel
theorem dX9_sendFrom_29 : decode cX9_sendFrom 29 = .ok (.iload_n 2, 1) := by decide +kernel
theorem dX9_sendFrom_30 : decode cX9_sendFrom 30 = .ok (.iload 4, 2) := by decide +kernel
theorem dX9_sendFrom_32 : decode cX9_sendFrom 32 = .ok (.invokevirtual 16, 3) := by decide +kernel
theorem dX9_sendFrom_35 : decode cX9_sendFrom 35 = .ok (.iastore, 1) := by decide +kernel
theorem dX9_sendFrom_36 : decode cX9_sendFrom 36 = .ok (.iinc 4 1, 3) := by decide +kernel
theorem dX9_sendFrom_39 : decode cX9_sendFrom 39 = .ok (.goto (-21), 3) := by decide +kernel
theorem dX9_sendFrom_42 : decode cX9_sendFrom 42 = .ok (.iinc 2 1, 3) := by decide +kernel
theorem dX9_sendFrom_45 : decode cX9_sendFrom 45 = .ok (.goto (-43), 3) := by decide +kernel
theorem dX9_sendFrom_48 : decode cX9_sendFrom 48 = .ok (.return_, 1) := by decide +kernel
theorem dX9_at_0 : decode cX9_at 0 = .ok (.iload_n 1, 1) := by decide +kernel
theorem dX9_at_1 : decode cX9_at 1 = .ok (.ifCond .lt 19, 3) := by decide +kernel
theorem dX9_at_4 : decode cX9_at 4 = .ok (.iload_n 1, 1) := by decide +kernel
theorem dX9_at_5 : decode cX9_at 5 = .ok (.bipush 8, 2) := by decide +kernel
theorem dX9_at_7 : decode cX9_at 7 = .ok (.if_icmp .ge 13, 3) := by decide +kernel
theorem dX9_at_10 : decode cX9_at 10 = .ok (.iload_n 2, 1) := by decide +kernel
theorem dX9_at_11 : decode cX9_at 11 = .ok (.ifCond .lt 9, 3) := by decide +kernel
theorem dX9_at_14 : decode cX9_at 14 = .ok (.iload_n 2, 1) := by decide +kernel
theorem dX9_at_15 : decode cX9_at 15 = .ok (.bipush 112, 2) := by decide +kernel
theorem dX9_at_17 : decode cX9_at 17 = .ok (.if_icmp .lt 7, 3) := by decide +kernel
theorem dX9_at_20 : decode cX9_at 20 = .ok (.iconst 0, 1) := by decide +kernel
theorem dX9_at_21 : decode cX9_at 21 = .ok (.goto 11, 3) := by decide +kernel
theorem dX9_at_24 : decode cX9_at 24 = .ok (.aload_n 0, 1) := by decide +kernel
theorem dX9_at_25 : decode cX9_at 25 = .ok (.getfield 11, 3) := by decide +kernel
theorem dX9_at_28 : decode cX9_at 28 = .ok (.iload_n 1, 1) := by decide +kernel
theorem dX9_at_29 : decode cX9_at 29 = .ok (.aaload, 1) := by decide +kernel
theorem dX9_at_30 : decode cX9_at 30 = .ok (.iload_n 2, 1) := by decide +kernel
theorem dX9_at_31 : decode cX9_at 31 = .ok (.iaload, 1) := by decide +kernel
theorem dX9_at_32 : decode cX9_at 32 = .ok (.ireturn, 1) := by decide +kernel
theorem dX9_sumFrom_0 : decode cX9_sumFrom 0 = .ok (.iconst 0, 1) := by decide +kernel
theorem dX9_sumFrom_1 : decode cX9_sumFrom 1 = .ok (.istore_n 3, 1) := by decide +kernel
theorem dX9_sumFrom_2 : decode cX9_sumFrom 2 = .ok (.iconst 0, 1) := by decide +kernel
theorem dX9_sumFrom_3 : decode cX9_sumFrom 3 = .ok (.istore 4, 2) := by decide +kernel
theorem dX9_sumFrom_5 : decode cX9_sumFrom 5 = .ok (.iload 4, 2) := by decide +kernel
theorem dX9_sumFrom_7 : decode cX9_sumFrom 7 = .ok (.bipush 8, 2) := by decide +kernel
theorem dX9_sumFrom_9 : decode cX9_sumFrom 9 = .ok (.if_icmp .ge 21, 3) := by decide +kernel
theorem dX9_sumFrom_12 : decode cX9_sumFrom 12 = .ok (.iload_n 3, 1) := by decide +kernel
theorem dX9_sumFrom_13 : decode cX9_sumFrom 13 = .ok (.aload_n 0, 1) := by decide +kernel
theorem dX9_sumFrom_14 : decode cX9_sumFrom 14 = .ok (.iload_n 1, 1) := by decide +kernel
theorem dX9_sumFrom_15 : decode cX9_sumFrom 15 = .ok (.iload_n 2, 1) := by decide +kernel
theorem dX9_sumFrom_16 : decode cX9_sumFrom 16 = .ok (.iload 4, 2) := by decide +kernel
theorem dX9_sumFrom_18 : decode cX9_sumFrom 18 = .ok (.iadd, 1) := by decide +kernel
theorem dX9_sumFrom_19 : decode cX9_sumFrom 19 = .ok (.invokevirtual 22, 3) := by decide +kernel
theorem dX9_sumFrom_22 : decode cX9_sumFrom 22 = .ok (.iadd, 1) := by decide +kernel
theorem dX9_sumFrom_23 : decode cX9_sumFrom 23 = .ok (.istore_n 3, 1) := by decide +kernel
theorem dX9_sumFrom_24 : decode cX9_sumFrom 24 = .ok (.iinc 4 1, 3) := by decide +kernel
theorem dX9_sumFrom_27 : decode cX9_sumFrom 27 = .ok (.goto (-22), 3) := by decide +kernel
theorem dX9_sumFrom_30 : decode cX9_sumFrom 30 = .ok (.iload_n 3, 1) := by decide +kernel
theorem dX9_sumFrom_31 : decode cX9_sumFrom 31 = .ok (.ireturn, 1) := by decide +kernel
theorem dX9_pulseOf_0 : decode cX9_pulseOf 0 = .ok (.iconst 0, 1) := by decide +kernel
theorem dX9_pulseOf_1 : decode cX9_pulseOf 1 = .ok (.istore_n 2, 1) := by decide +kernel
theorem dX9_pulseOf_2 : decode cX9_pulseOf 2 = .ok (.iconst 0, 1) := by decide +kernel
theorem dX9_pulseOf_3 : decode cX9_pulseOf 3 = .ok (.istore_n 3, 1) := by decide +kernel
theorem dX9_pulseOf_4 : decode cX9_pulseOf 4 = .ok (.iload_n 3, 1) := by decide +kernel
theorem dX9_pulseOf_5 : decode cX9_pulseOf 5 = .ok (.bipush 24, 2) := by decide +kernel
theorem dX9_pulseOf_7 : decode cX9_pulseOf 7 = .ok (.if_icmp .ge 39, 3) := by decide +kernel
theorem dX9_pulseOf_10 : decode cX9_pulseOf 10 = .ok (.aload_n 0, 1) := by decide +kernel
theorem dX9_pulseOf_11 : decode cX9_pulseOf 11 = .ok (.iload_n 1, 1) := by decide +kernel
theorem dX9_pulseOf_12 : decode cX9_pulseOf 12 = .ok (.iload_n 3, 1) := by decide +kernel
theorem dX9_pulseOf_13 : decode cX9_pulseOf 13 = .ok (.invokevirtual 22, 3) := by decide +kernel
theorem dX9_pulseOf_16 : decode cX9_pulseOf 16 = .ok (.bipush (-20), 2) := by decide +kernel
theorem dX9_pulseOf_18 : decode cX9_pulseOf 18 = .ok (.if_icmp .gt 9, 3) := by decide +kernel
theorem dX9_pulseOf_21 : decode cX9_pulseOf 21 = .ok (.iload_n 2, 1) := by decide +kernel
theorem dX9_pulseOf_22 : decode cX9_pulseOf 22 = .ok (.iconst 1, 1) := by decide +kernel
theorem dX9_pulseOf_23 : decode cX9_pulseOf 23 = .ok (.iadd, 1) := by decide +kernel
theorem dX9_pulseOf_24 : decode cX9_pulseOf 24 = .ok (.goto 4, 3) := by decide +kernel
theorem dX9_pulseOf_27 : decode cX9_pulseOf 27 = .ok (.iconst 0, 1) := by decide +kernel
theorem dX9_pulseOf_28 : decode cX9_pulseOf 28 = .ok (.istore_n 2, 1) := by decide +kernel
theorem dX9_pulseOf_29 : decode cX9_pulseOf 29 = .ok (.iload_n 2, 1) := by decide +kernel
theorem dX9_pulseOf_30 : decode cX9_pulseOf 30 = .ok (.iconst 4, 1) := by decide +kernel
theorem dX9_pulseOf_31 : decode cX9_pulseOf 31 = .ok (.if_icmp .ne 9, 3) := by decide +kernel
theorem dX9_pulseOf_34 : decode cX9_pulseOf 34 = .ok (.iload_n 3, 1) := by decide +kernel
theorem dX9_pulseOf_35 : decode cX9_pulseOf 35 = .ok (.iconst 4, 1) := by decide +kernel
theorem dX9_pulseOf_36 : decode cX9_pulseOf 36 = .ok (.isub, 1) := by decide +kernel
theorem dX9_pulseOf_37 : decode cX9_pulseOf 37 = .ok (.iconst 1, 1) := by decide +kernel
theorem dX9_pulseOf_38 : decode cX9_pulseOf 38 = .ok (.iadd, 1) := by decide +kernel
theorem dX9_pulseOf_39 : decode cX9_pulseOf 39 = .ok (.ireturn, 1) := by decide +kernel
theorem dX9_pulseOf_40 : decode cX9_pulseOf 40 = .ok (.iinc 3 1, 3) := by decide +kernel
theorem dX9_pulseOf_43 : decode cX9_pulseOf 43 = .ok (.goto (-39), 3) := by decide +kernel
theorem dX9_pulseOf_46 : decode cX9_pulseOf 46 = .ok (.iconst (-1), 1) := by decide +kernel
theorem dX9_pulseOf_47 : decode cX9_pulseOf 47 = .ok (.ireturn, 1) := by decide +kernel
theorem dX10_init_0 : decode cX10_init 0 = .ok (.aload_n 0, 1) := by decide +kernel
theorem dX10_init_1 : decode cX10_init 1 = .ok (.invokespecial 1, 3) := by decide +kernel
theorem dX10_init_4 : decode cX10_init 4 = .ok (.aload_n 0, 1) := by decide +kernel
theorem dX10_init_5 : decode cX10_init 5 = .ok (.new 7, 3) := by decide +kernel
theorem dX10_init_8 : decode cX10_init 8 = .ok (.dup, 1) := by decide +kernel
theorem dX10_init_9 : decode cX10_init 9 = .ok (.invokespecial 9, 3) := by decide +kernel
theorem dX10_init_12 : decode cX10_init 12 = .ok (.putfield 10, 3) := by decide +kernel
theorem dX10_init_15 : decode cX10_init 15 = .ok (.aload_n 0, 1) := by decide +kernel
theorem dX10_init_16 : decode cX10_init 16 = .ok (.new 16, 3) := by decide +kernel
theorem dX10_init_19 : decode cX10_init 19 = .ok (.dup, 1) := by decide +kernel
theorem dX10_init_20 : decode cX10_init 20 = .ok (.invokespecial 18, 3) := by decide +kernel
theorem dX10_init_23 : decode cX10_init 23 = .ok (.putfield 19, 3) := by decide +kernel
theorem dX10_init_26 : decode cX10_init 26 = .ok (.aload_n 0, 1) := by decide +kernel
theorem dX10_init_27 : decode cX10_init 27 = .ok (.new 23, 3) := by decide +kernel
theorem dX10_init_30 : decode cX10_init 30 = .ok (.dup, 1) := by decide +kernel
theorem dX10_init_31 : decode cX10_init 31 = .ok (.invokespecial 25, 3) := by decide +kernel
theorem dX10_init_34 : decode cX10_init 34 = .ok (.putfield 26, 3) := by decide +kernel
theorem dX10_init_37 : decode cX10_init 37 = .ok (.aload_n 0, 1) := by decide +kernel
theorem dX10_init_38 : decode cX10_init 38 = .ok (.new 30, 3) := by decide +kernel
theorem dX10_init_41 : decode cX10_init 41 = .ok (.dup, 1) := by decide +kernel
theorem dX10_init_42 : decode cX10_init 42 = .ok (.invokespecial 32, 3) := by decide +kernel
theorem dX10_init_45 : decode cX10_init 45 = .ok (.putfield 33, 3) := by decide +kernel
theorem dX10_init_48 : decode cX10_init 48 = .ok (.aload_n 0, 1) := by decide +kernel
theorem dX10_init_49 : decode cX10_init 49 = .ok (.new 37, 3) := by decide +kernel
theorem dX10_init_52 : decode cX10_init 52 = .ok (.dup, 1) := by decide +kernel
theorem dX10_init_53 : decode cX10_init 53 = .ok (.invokespecial 39, 3) := by decide +kernel
theorem dX10_init_56 : decode cX10_init 56 = .ok (.putfield 40, 3) := by decide +kernel
theorem dX10_init_59 : decode cX10_init 59 = .ok (.aload_n 0, 1) := by decide +kernel
theorem dX10_init_60 : decode cX10_init 60 = .ok (.new 44, 3) := by decide +kernel
theorem dX10_init_63 : decode cX10_init 63 = .ok (.dup, 1) := by decide +kernel
theorem dX10_init_64 : decode cX10_init 64 = .ok (.invokespecial 46, 3) := by decide +kernel
theorem dX10_init_67 : decode cX10_init 67 = .ok (.putfield 47, 3) := by decide +kernel
theorem dX10_init_70 : decode cX10_init 70 = .ok (.aload_n 0, 1) := by decide +kernel
theorem dX10_init_71 : decode cX10_init 71 = .ok (.new 51, 3) := by decide +kernel
theorem dX10_init_74 : decode cX10_init 74 = .ok (.dup, 1) := by decide +kernel
theorem dX10_init_75 : decode cX10_init 75 = .ok (.invokespecial 53, 3) := by decide +kernel
theorem dX10_init_78 : decode cX10_init 78 = .ok (.putfield 54, 3) := by decide +kernel
theorem dX10_init_81 : decode cX10_init 81 = .ok (.aload_n 0, 1) := by decide +kernel
theorem dX10_init_82 : decode cX10_init 82 = .ok (.new 58, 3) := by decide +kernel
theorem dX10_init_85 : decode cX10_init 85 = .ok (.dup, 1) := by decide +kernel
theorem dX10_init_86 : decode cX10_init 86 = .ok (.invokespecial 60, 3) := by decide +kernel
theorem dX10_init_89 : decode cX10_init 89 = .ok (.putfield 61, 3) := by decide +kernel
theorem dX10_init_92 : decode cX10_init 92 = .ok (.aload_n 0, 1) := by decide +kernel
theorem dX10_init_93 : decode cX10_init 93 = .ok (.new 65, 3) := by decide +kernel
theorem dX10_init_96 : decode cX10_init 96 = .ok (.dup, 1) := by decide +kernel
theorem dX10_init_97 : decode cX10_init 97 = .ok (.invokespecial 67, 3) := by decide +kernel
theorem dX10_init_100 : decode cX10_init 100 = .ok (.putfield 68, 3) := by decide +kernel
theorem dX10_init_103 : decode cX10_init 103 = .ok (.aload_n 0, 1) := by decide +kernel
theorem dX10_init_104 : decode cX10_init 104 = .ok (.new 72, 3) := by decide +kernel
theorem dX10_init_107 : decode cX10_init 107 = .ok (.dup, 1) := by decide +kernel
theorem dX10_init_108 : decode cX10_init 108 = .ok (.invokespecial 74, 3) := by decide +kernel
theorem dX10_init_111 : decode cX10_init 111 = .ok (.putfield 75, 3) := by decide +kernel
theorem dX10_init_114 : decode cX10_init 114 = .ok (.return_, 1) := by decide +kernel
theorem dX10_setSegment_0 : decode cX10_setSegment 0 = .ok (.iload_n 1, 1) := by decide +kernel
theorem dX10_setSegment_1 : decode cX10_setSegment 1 = .ok (.iload_n 2, 1) := by decide +kernel
theorem dX10_setSegment_2 : decode cX10_setSegment 2 = .ok (.invokestatic 79, 3) := by decide +kernel
theorem dX10_setSegment_5 : decode cX10_setSegment 5 = .ok (.ifCond .ne 6, 3) := by decide +kernel
theorem dX10_setSegment_8 : decode cX10_setSegment 8 = .ok (.ldc 83, 2) := by decide +kernel
theorem dX10_setSegment_10 : decode cX10_setSegment 10 = .ok (.ireturn, 1) := by decide +kernel
theorem dX10_setSegment_11 : decode cX10_setSegment 11 = .ok (.iload_n 3, 1) := by decide +kernel
theorem dX10_setSegment_12 : decode cX10_setSegment 12 = .ok (.iload 4, 2) := by decide +kernel
theorem dX10_setSegment_14 : decode cX10_setSegment 14 = .ok (.iload 5, 2) := by decide +kernel
theorem dX10_setSegment_16 : decode cX10_setSegment 16 = .ok (.invokestatic 84, 3) := by decide +kernel
theorem dX10_setSegment_19 : decode cX10_setSegment 19 = .ok (.ifCond .ne 6, 3) := by decide +kernel
theorem dX10_setSegment_22 : decode cX10_setSegment 22 = .ok (.ldc 88, 2) := by decide +kernel
theorem dX10_setSegment_24 : decode cX10_setSegment 24 = .ok (.ireturn, 1) := by decide +kernel
theorem dX10_setSegment_25 : decode cX10_setSegment 25 = .ok (.iload_n 1, 1) := by decide +kernel
theorem dX10_setSegment_26 : decode cX10_setSegment 26 = .ok (.iload_n 2, 1) := by decide +kernel
theorem dX10_setSegment_27 : decode cX10_setSegment 27 = .ok (.invokestatic 89, 3) := by decide +kernel
theorem dX10_setSegment_30 : decode cX10_setSegment 30 = .ok (.istore 6, 2) := by decide +kernel
theorem dX10_setSegment_32 : decode cX10_setSegment 32 = .ok (.aload_n 0, 1) := by decide +kernel
theorem dX10_setSegment_33 : decode cX10_setSegment 33 = .ok (.getfield 10, 3) := by decide +kernel
theorem dX10_setSegment_36 : decode cX10_setSegment 36 = .ok (.getfield 93, 3) := by decide +kernel
theorem dX10_setSegment_39 : decode cX10_setSegment 39 = .ok (.iload 6, 2) := by decide +kernel
theorem dX10_setSegment_41 : decode cX10_setSegment 41 = .ok (.iaload, 1) := by decide +kernel
theorem dX10_setSegment_42 : decode cX10_setSegment 42 = .ok (.istore 7, 2) := by decide +kernel
theorem dX10_setSegment_44 : decode cX10_setSegment 44 = .ok (.aload_n 0, 1) := by decide +kernel
theorem dX10_setSegment_45 : decode cX10_setSegment 45 = .ok (.getfield 10, 3) := by decide +kernel
theorem dX10_setSegment_48 : decode cX10_setSegment 48 = .ok (.iload 6, 2) := by decide +kernel
theorem dX10_setSegment_50 : decode cX10_setSegment 50 = .ok (.iload_n 3, 1) := by decide +kernel
theorem dX10_setSegment_51 : decode cX10_setSegment 51 = .ok (.iload 4, 2) := by decide +kernel
theorem dX10_setSegment_53 : decode cX10_setSegment 53 = .ok (.iload 5, 2) := by decide +kernel
theorem dX10_setSegment_55 : decode cX10_setSegment 55 = .ok (.invokevirtual 97, 3) := by decide +kernel
theorem dX10_setSegment_58 : decode cX10_setSegment 58 = .ok (.pop, 1) := by decide +kernel
theorem dX10_setSegment_59 : decode cX10_setSegment 59 = .ok (.iload 7, 2) := by decide +kernel
theorem dX10_setSegment_61 : decode cX10_setSegment 61 = .ok (.ireturn, 1) := by decide +kernel
theorem dX10_fill_0 : decode cX10_fill 0 = .ok (.iload_n 1, 1) := by decide +kernel
theorem dX10_fill_1 : decode cX10_fill 1 = .ok (.invokestatic 101, 3) := by decide +kernel
theorem dX10_fill_4 : decode cX10_fill 4 = .ok (.ifCond .ne 6, 3) := by decide +kernel
theorem dX10_fill_7 : decode cX10_fill 7 = .ok (.ldc 83, 2) := by decide +kernel
theorem dX10_fill_9 : decode cX10_fill 9 = .ok (.ireturn, 1) := by decide +kernel
theorem dX10_fill_10 : decode cX10_fill 10 = .ok (.iload_n 2, 1) := by decide +kernel
theorem dX10_fill_11 : decode cX10_fill 11 = .ok (.iload_n 3, 1) := by decide +kernel
theorem dX10_fill_12 : decode cX10_fill 12 = .ok (.iload 4, 2) := by decide +kernel
theorem dX10_fill_14 : decode cX10_fill 14 = .ok (.invokestatic 84, 3) := by decide +kernel
theorem dX10_fill_17 : decode cX10_fill 17 = .ok (.ifCond .ne 6, 3) := by decide +kernel
theorem dX10_fill_20 : decode cX10_fill 20 = .ok (.ldc 88, 2) := by decide +kernel
theorem dX10_fill_22 : decode cX10_fill 22 = .ok (.ireturn, 1) := by decide +kernel
theorem dX10_fill_23 : decode cX10_fill 23 = .ok (.iconst 0, 1) := by decide +kernel
theorem dX10_fill_24 : decode cX10_fill 24 = .ok (.istore 5, 2) := by decide +kernel
theorem dX10_fill_26 : decode cX10_fill 26 = .ok (.iconst 0, 1) := by decide +kernel
theorem dX10_fill_27 : decode cX10_fill 27 = .ok (.istore 6, 2) := by decide +kernel
theorem dX10_fill_29 : decode cX10_fill 29 = .ok (.iload 6, 2) := by decide +kernel
theorem dX10_fill_31 : decode cX10_fill 31 = .ok (.bipush 10, 2) := by decide +kernel
theorem dX10_fill_33 : decode cX10_fill 33 = .ok (.if_icmp .ge 32, 3) := by decide +kernel
theorem dX10_fill_36 : decode cX10_fill 36 = .ok (.aload_n 0, 1) := by decide +kernel
theorem dX10_fill_37 : decode cX10_fill 37 = .ok (.getfield 10, 3) := by decide +kernel
theorem dX10_fill_40 : decode cX10_fill 40 = .ok (.iload_n 1, 1) := by decide +kernel
theorem dX10_fill_41 : decode cX10_fill 41 = .ok (.iload 6, 2) := by decide +kernel
theorem dX10_fill_43 : decode cX10_fill 43 = .ok (.invokestatic 89, 3) := by decide +kernel
theorem dX10_fill_46 : decode cX10_fill 46 = .ok (.iload_n 2, 1) := by decide +kernel
theorem dX10_fill_47 : decode cX10_fill 47 = .ok (.iload_n 3, 1) := by decide +kernel
theorem dX10_fill_48 : decode cX10_fill 48 = .ok (.iload 4, 2) := by decide +kernel
theorem dX10_fill_50 : decode cX10_fill 50 = .ok (.invokevirtual 97, 3) := by decide +kernel
theorem dX10_fill_53 : decode cX10_fill 53 = .ok (.ifCond .eq 6, 3) := by decide +kernel
theorem dX10_fill_56 : decode cX10_fill 56 = .ok (.iinc 5 1, 3) := by decide +kernel
theorem dX10_fill_59 : decode cX10_fill 59 = .ok (.iinc 6 1, 3) := by decide +kernel
theorem dX10_fill_62 : decode cX10_fill 62 = .ok (.goto (-33), 3) := by decide +kernel
theorem dX10_fill_65 : decode cX10_fill 65 = .ok (.iload 5, 2) := by decide +kernel
theorem dX10_fill_67 : decode cX10_fill 67 = .ok (.ireturn, 1) := by decide +kernel
theorem dX10_setLine_0 : decode cX10_setLine 0 = .ok (.iload_n 1, 1) := by decide +kernel
theorem dX10_setLine_1 : decode cX10_setLine 1 = .ok (.invokestatic 101, 3) := by decide +kernel
theorem dX10_setLine_4 : decode cX10_setLine 4 = .ok (.ifCond .ne 6, 3) := by decide +kernel
theorem dX10_setLine_7 : decode cX10_setLine 7 = .ok (.ldc 83, 2) := by decide +kernel
theorem dX10_setLine_9 : decode cX10_setLine 9 = .ok (.ireturn, 1) := by decide +kernel
theorem dX10_setLine_10 : decode cX10_setLine 10 = .ok (.iload_n 2, 1) := by decide +kernel
theorem dX10_setLine_11 : decode cX10_setLine 11 = .ok (.bipush (-4), 2) := by decide +kernel
theorem dX10_setLine_13 : decode cX10_setLine 13 = .ok (.iconst 4, 1) := by decide +kernel
theorem dX10_setLine_14 : decode cX10_setLine 14 = .ok (.invokestatic 105, 3) := by decide +kernel
theorem dX10_setLine_17 : decode cX10_setLine 17 = .ok (.ifCond .eq 34, 3) := by decide +kernel
theorem dX10_setLine_20 : decode cX10_setLine 20 = .ok (.iload_n 3, 1) := by decide +kernel
theorem dX10_setLine_21 : decode cX10_setLine 21 = .ok (.iconst 0, 1) := by decide +kernel
theorem dX10_setLine_22 : decode cX10_setLine 22 = .ok (.bipush 40, 2) := by decide +kernel
theorem dX10_setLine_24 : decode cX10_setLine 24 = .ok (.invokestatic 105, 3) := by decide +kernel
theorem dX10_setLine_27 : decode cX10_setLine 27 = .ok (.ifCond .eq 24, 3) := by decide +kernel
theorem dX10_setLine_30 : decode cX10_setLine 30 = .ok (.iload 4, 2) := by decide +kernel
theorem dX10_setLine_32 : decode cX10_setLine 32 = .ok (.iconst 0, 1) := by decide +kernel
theorem dX10_setLine_33 : decode cX10_setLine 33 = .ok (.iconst 3, 1) := by decide +kernel
theorem dX10_setLine_34 : decode cX10_setLine 34 = .ok (.invokestatic 105, 3) := by decide +kernel
theorem dX10_setLine_37 : decode cX10_setLine 37 = .ok (.ifCond .eq 14, 3) := by decide +kernel
theorem dX10_setLine_40 : decode cX10_setLine 40 = .ok (.iload 5, 2) := by decide +kernel
theorem dX10_setLine_42 : decode cX10_setLine 42 = .ok (.iconst 0, 1) := by decide +kernel
theorem dX10_setLine_43 : decode cX10_setLine 43 = .ok (.bipush 9, 2) := by decide +kernel
theorem dX10_setLine_45 : decode cX10_setLine 45 = .ok (.invokestatic 105, 3) := by decide +kernel
theorem dX10_setLine_48 : decode cX10_setLine 48 = .ok (.ifCond .ne 6, 3) := by decide +kernel
theorem dX10_setLine_51 : decode cX10_setLine 51 = .ok (.ldc 88, 2) := by decide +kernel
theorem dX10_setLine_53 : decode cX10_setLine 53 = .ok (.ireturn, 1) := by decide +kernel
theorem dX10_setLine_54 : decode cX10_setLine 54 = .ok (.aload_n 0, 1) := by decide +kernel
theorem dX10_setLine_55 : decode cX10_setLine 55 = .ok (.getfield 10, 3) := by decide +kernel
theorem dX10_setLine_58 : decode cX10_setLine 58 = .ok (.getfield 108, 3) := by decide +kernel
theorem dX10_setLine_61 : decode cX10_setLine 61 = .ok (.iload_n 1, 1) := by decide +kernel
theorem dX10_setLine_62 : decode cX10_setLine 62 = .ok (.iaload, 1) := by decide +kernel
theorem dX10_setLine_63 : decode cX10_setLine 63 = .ok (.istore 6, 2) := by decide +kernel
theorem dX10_setLine_65 : decode cX10_setLine 65 = .ok (.aload_n 0, 1) := by decide +kernel
theorem dX10_setLine_66 : decode cX10_setLine 66 = .ok (.getfield 10, 3) := by decide +kernel
theorem dX10_setLine_69 : decode cX10_setLine 69 = .ok (.getfield 108, 3) := by decide +kernel
theorem dX10_setLine_72 : decode cX10_setLine 72 = .ok (.iload_n 1, 1) := by decide +kernel
theorem dX10_setLine_73 : decode cX10_setLine 73 = .ok (.iload_n 2, 1) := by decide +kernel
theorem dX10_setLine_74 : decode cX10_setLine 74 = .ok (.iastore, 1) := by decide +kernel
theorem dX10_setLine_75 : decode cX10_setLine 75 = .ok (.aload_n 0, 1) := by decide +kernel
theorem dX10_setLine_76 : decode cX10_setLine 76 = .ok (.getfield 10, 3) := by decide +kernel
theorem dX10_setLine_79 : decode cX10_setLine 79 = .ok (.getfield 111, 3) := by decide +kernel
theorem dX10_setLine_82 : decode cX10_setLine 82 = .ok (.iload_n 1, 1) := by decide +kernel
theorem dX10_setLine_83 : decode cX10_setLine 83 = .ok (.iload_n 3, 1) := by decide +kernel
theorem dX10_setLine_84 : decode cX10_setLine 84 = .ok (.iastore, 1) := by decide +kernel
theorem dX10_setLine_85 : decode cX10_setLine 85 = .ok (.aload_n 0, 1) := by decide +kernel
theorem dX10_setLine_86 : decode cX10_setLine 86 = .ok (.getfield 10, 3) := by decide +kernel
theorem dX10_setLine_89 : decode cX10_setLine 89 = .ok (.getfield 114, 3) := by decide +kernel
theorem dX10_setLine_92 : decode cX10_setLine 92 = .ok (.iload_n 1, 1) := by decide +kernel
theorem dX10_setLine_93 : decode cX10_setLine 93 = .ok (.iload 4, 2) := by decide +kernel
theorem dX10_setLine_95 : decode cX10_setLine 95 = .ok (.iastore, 1) := by decide +kernel
theorem dX10_setLine_96 : decode cX10_setLine 96 = .ok (.aload_n 0, 1) := by decide +kernel
theorem dX10_setLine_97 : decode cX10_setLine 97 = .ok (.getfield 10, 3) := by decide +kernel
theorem dX10_setLine_100 : decode cX10_setLine 100 = .ok (.getfield 116, 3) := by decide +kernel
theorem dX10_setLine_103 : decode cX10_setLine 103 = .ok (.iload_n 1, 1) := by decide +kernel
theorem dX10_setLine_104 : decode cX10_setLine 104 = .ok (.iload 5, 2) := by decide +kernel
theorem dX10_setLine_106 : decode cX10_setLine 106 = .ok (.iastore, 1) := by decide +kernel
theorem dX10_setLine_107 : decode cX10_setLine 107 = .ok (.aload_n 0, 1) := by decide +kernel
theorem dX10_setLine_108 : decode cX10_setLine 108 = .ok (.getfield 10, 3) := by decide +kernel
theorem dX10_setLine_111 : decode cX10_setLine 111 = .ok (.getfield 119, 3) := by decide +kernel
theorem dX10_setLine_114 : decode cX10_setLine 114 = .ok (.iload_n 1, 1) := by decide +kernel
theorem dX10_setLine_115 : decode cX10_setLine 115 = .ok (.iconst 0, 1) := by decide +kernel
theorem dX10_setLine_116 : decode cX10_setLine 116 = .ok (.bastore, 1) := by decide +kernel
theorem dX10_setLine_117 : decode cX10_setLine 117 = .ok (.iload 6, 2) := by decide +kernel
theorem dX10_setLine_119 : decode cX10_setLine 119 = .ok (.ireturn, 1) := by decide +kernel
theorem dX10_miss_0 : decode cX10_miss 0 = .ok (.iload_n 1, 1) := by decide +kernel
theorem dX10_miss_1 : decode cX10_miss 1 = .ok (.invokestatic 101, 3) := by decide +kernel
theorem dX10_miss_4 : decode cX10_miss 4 = .ok (.ifCond .ne 6, 3) := by decide +kernel
theorem dX10_miss_7 : decode cX10_miss 7 = .ok (.ldc 83, 2) := by decide +kernel
theorem dX10_miss_9 : decode cX10_miss 9 = .ok (.ireturn, 1) := by decide +kernel
theorem dX10_miss_10 : decode cX10_miss 10 = .ok (.aload_n 0, 1) := by decide +kernel
theorem dX10_miss_11 : decode cX10_miss 11 = .ok (.getfield 10, 3) := by decide +kernel
theorem dX10_miss_14 : decode cX10_miss 14 = .ok (.getfield 119, 3) := by decide +kernel
theorem dX10_miss_17 : decode cX10_miss 17 = .ok (.iload_n 1, 1) := by decide +kernel
theorem dX10_miss_18 : decode cX10_miss 18 = .ok (.baload, 1) := by decide +kernel
theorem dX10_miss_19 : decode cX10_miss 19 = .ok (.invokestatic 123, 3) := by decide +kernel
theorem dX10_miss_22 : decode cX10_miss 22 = .ok (.istore_n 3, 1) := by decide +kernel
theorem dX10_miss_23 : decode cX10_miss 23 = .ok (.aload_n 0, 1) := by decide +kernel
theorem dX10_miss_24 : decode cX10_miss 24 = .ok (.getfield 10, 3) := by decide +kernel
theorem dX10_miss_27 : decode cX10_miss 27 = .ok (.getfield 119, 3) := by decide +kernel
theorem dX10_miss_30 : decode cX10_miss 30 = .ok (.iload_n 1, 1) := by decide +kernel
theorem dX10_miss_31 : decode cX10_miss 31 = .ok (.iload_n 2, 1) := by decide +kernel
theorem dX10_miss_32 : decode cX10_miss 32 = .ok (.bastore, 1) := by decide +kernel
theorem dX10_miss_33 : decode cX10_miss 33 = .ok (.iload_n 3, 1) := by decide +kernel
theorem dX10_miss_34 : decode cX10_miss 34 = .ok (.ireturn, 1) := by decide +kernel
theorem dX10_setStandard_0 : decode cX10_setStandard 0 = .ok (.iload_n 1, 1) := by decide +kernel
theorem dX10_setStandard_1 : decode cX10_setStandard 1 = .ok (.iconst 0, 1) := by decide +kernel
theorem dX10_setStandard_2 : decode cX10_setStandard 2 = .ok (.iconst 1, 1) := by decide +kernel
theorem dX10_setStandard_3 : decode cX10_setStandard 3 = .ok (.invokestatic 105, 3) := by decide +kernel
theorem dX10_setStandard_6 : decode cX10_setStandard 6 = .ok (.ifCond .ne 6, 3) := by decide +kernel
theorem dX10_setStandard_9 : decode cX10_setStandard 9 = .ok (.ldc 88, 2) := by decide +kernel
theorem dX10_setStandard_11 : decode cX10_setStandard 11 = .ok (.ireturn, 1) := by decide +kernel
theorem dX10_setStandard_12 : decode cX10_setStandard 12 = .ok (.aload_n 0, 1) := by decide +kernel
theorem dX10_setStandard_13 : decode cX10_setStandard 13 = .ok (.getfield 10, 3) := by decide +kernel
theorem dX10_setStandard_16 : decode cX10_setStandard 16 = .ok (.getfield 127, 3) := by decide +kernel
theorem dX10_setStandard_19 : decode cX10_setStandard 19 = .ok (.istore_n 2, 1) := by decide +kernel
theorem dX10_setStandard_20 : decode cX10_setStandard 20 = .ok (.aload_n 0, 1) := by decide +kernel
theorem dX10_setStandard_21 : decode cX10_setStandard 21 = .ok (.getfield 10, 3) := by decide +kernel
theorem dX10_setStandard_24 : decode cX10_setStandard 24 = .ok (.iload_n 1, 1) := by decide +kernel
theorem dX10_setStandard_25 : decode cX10_setStandard 25 = .ok (.putfield 127, 3) := by decide +kernel
theorem dX10_setStandard_28 : decode cX10_setStandard 28 = .ok (.iload_n 2, 1) := by decide +kernel
theorem dX10_setStandard_29 : decode cX10_setStandard 29 = .ok (.ireturn, 1) := by decide +kernel
theorem dX10_type_0 : decode cX10_type 0 = .ok (.aload_n 0, 1) := by decide +kernel
theorem dX10_type_1 : decode cX10_type 1 = .ok (.getfield 19, 3) := by decide +kernel
theorem dX10_type_4 : decode cX10_type 4 = .ok (.iload_n 1, 1) := by decide +kernel
theorem dX10_type_5 : decode cX10_type 5 = .ok (.invokevirtual 131, 3) := by decide +kernel
theorem dX10_type_8 : decode cX10_type 8 = .ok (.ifCond .eq 13, 3) := by decide +kernel
theorem dX10_type_11 : decode cX10_type 11 = .ok (.aload_n 0, 1) := by decide +kernel
theorem dX10_type_12 : decode cX10_type 12 = .ok (.getfield 19, 3) := by decide +kernel
theorem dX10_type_15 : decode cX10_type 15 = .ok (.getfield 135, 3) := by decide +kernel
theorem dX10_type_18 : decode cX10_type 18 = .ok (.goto 5, 3) := by decide +kernel
theorem dX10_type_21 : decode cX10_type 21 = .ok (.ldc 138, 2) := by decide +kernel
theorem dX10_type_23 : decode cX10_type 23 = .ok (.ireturn, 1) := by decide +kernel
theorem dX10_clearText_0 : decode cX10_clearText 0 = .ok (.aload_n 0, 1) := by decide +kernel
theorem dX10_clearText_1 : decode cX10_clearText 1 = .ok (.getfield 19, 3) := by decide +kernel
theorem dX10_clearText_4 : decode cX10_clearText 4 = .ok (.getfield 135, 3) := by decide +kernel
theorem dX10_clearText_7 : decode cX10_clearText 7 = .ok (.istore_n 1, 1) := by decide +kernel
theorem dX10_clearText_8 : decode cX10_clearText 8 = .ok (.aload_n 0, 1) := by decide +kernel
theorem dX10_clearText_9 : decode cX10_clearText 9 = .ok (.getfield 19, 3) := by decide +kernel
theorem dX10_clearText_12 : decode cX10_clearText 12 = .ok (.iconst 0, 1) := by decide +kernel
theorem dX10_clearText_13 : decode cX10_clearText 13 = .ok (.putfield 135, 3) := by decide +kernel
theorem dX10_clearText_16 : decode cX10_clearText 16 = .ok (.iload_n 1, 1) := by decide +kernel
theorem dX10_clearText_17 : decode cX10_clearText 17 = .ok (.ireturn, 1) := by decide +kernel
theorem dX10_readBars_0 : decode cX10_readBars 0 = .ok (.iload_n 1, 1) := by decide +kernel
theorem dX10_readBars_1 : decode cX10_readBars 1 = .ok (.invokestatic 101, 3) := by decide +kernel
theorem dX10_readBars_4 : decode cX10_readBars 4 = .ok (.ifCond .ne 6, 3) := by decide +kernel
theorem dX10_readBars_7 : decode cX10_readBars 7 = .ok (.ldc 83, 2) := by decide +kernel
theorem dX10_readBars_9 : decode cX10_readBars 9 = .ok (.ireturn, 1) := by decide +kernel
theorem dX10_readBars_10 : decode cX10_readBars 10 = .ok (.aload_n 0, 1) := by decide +kernel
theorem dX10_readBars_11 : decode cX10_readBars 11 = .ok (.getfield 19, 3) := by decide +kernel
theorem dX10_readBars_14 : decode cX10_readBars 14 = .ok (.invokevirtual 139, 3) := by decide +kernel
theorem dX10_readBars_17 : decode cX10_readBars 17 = .ok (.istore_n 2, 1) := by decide +kernel
theorem dX10_readBars_18 : decode cX10_readBars 18 = .ok (.iload_n 2, 1) := by decide +kernel
theorem dX10_readBars_19 : decode cX10_readBars 19 = .ok (.iconst (-1), 1) := by decide +kernel
theorem dX10_readBars_20 : decode cX10_readBars 20 = .ok (.if_icmp .eq 8, 3) := by decide +kernel
theorem dX10_readBars_23 : decode cX10_readBars 23 = .ok (.bipush (-100), 2) := by decide +kernel
theorem dX10_readBars_25 : decode cX10_readBars 25 = .ok (.iload_n 2, 1) := by decide +kernel
theorem dX10_readBars_26 : decode cX10_readBars 26 = .ok (.isub, 1) := by decide +kernel
theorem dX10_readBars_27 : decode cX10_readBars 27 = .ok (.ireturn, 1) := by decide +kernel
theorem dX10_readBars_28 : decode cX10_readBars 28 = .ok (.iconst 0, 1) := by decide +kernel
theorem dX10_readBars_29 : decode cX10_readBars 29 = .ok (.istore_n 3, 1) := by decide +kernel
theorem dX10_readBars_30 : decode cX10_readBars 30 = .ok (.iload_n 3, 1) := by decide +kernel
theorem dX10_readBars_31 : decode cX10_readBars 31 = .ok (.bipush 10, 2) := by decide +kernel
theorem dX10_readBars_33 : decode cX10_readBars 33 = .ok (.if_icmp .ge 26, 3) := by decide +kernel
theorem dX10_readBars_36 : decode cX10_readBars 36 = .ok (.aload_n 0, 1) := by decide +kernel
theorem dX10_readBars_37 : decode cX10_readBars 37 = .ok (.getfield 19, 3) := by decide +kernel
theorem dX10_readBars_40 : decode cX10_readBars 40 = .ok (.aload_n 0, 1) := by decide +kernel
theorem dX10_readBars_41 : decode cX10_readBars 41 = .ok (.getfield 10, 3) := by decide +kernel
theorem dX10_readBars_44 : decode cX10_readBars 44 = .ok (.iload_n 1, 1) := by decide +kernel
theorem dX10_readBars_45 : decode cX10_readBars 45 = .ok (.iload_n 3, 1) := by decide +kernel
theorem dX10_readBars_46 : decode cX10_readBars 46 = .ok (.invokestatic 89, 3) := by decide +kernel
theorem dX10_readBars_49 : decode cX10_readBars 49 = .ok (.iload_n 3, 1) := by decide +kernel
theorem dX10_readBars_50 : decode cX10_readBars 50 = .ok (.invokevirtual 143, 3) := by decide +kernel
theorem dX10_readBars_53 : decode cX10_readBars 53 = .ok (.iinc 3 1, 3) := by decide +kernel
theorem dX10_readBars_56 : decode cX10_readBars 56 = .ok (.goto (-26), 3) := by decide +kernel
theorem dX10_readBars_59 : decode cX10_readBars 59 = .ok (.aload_n 0, 1) := by decide +kernel
theorem dX10_readBars_60 : decode cX10_readBars 60 = .ok (.getfield 19, 3) := by decide +kernel
theorem dX10_readBars_63 : decode cX10_readBars 63 = .ok (.getfield 147, 3) := by decide +kernel
theorem dX10_readBars_66 : decode cX10_readBars 66 = .ok (.ireturn, 1) := by decide +kernel
theorem dX10_sample_0 : decode cX10_sample 0 = .ok (.iload_n 1, 1) := by decide +kernel
theorem dX10_sample_1 : decode cX10_sample 1 = .ok (.invokestatic 101, 3) := by decide +kernel
theorem dX10_sample_4 : decode cX10_sample 4 = .ok (.ifCond .ne 6, 3) := by decide +kernel
theorem dX10_sample_7 : decode cX10_sample 7 = .ok (.ldc 83, 2) := by decide +kernel
theorem dX10_sample_9 : decode cX10_sample 9 = .ok (.ireturn, 1) := by decide +kernel
theorem dX10_sample_10 : decode cX10_sample 10 = .ok (.iload_n 2, 1) := by decide +kernel
theorem dX10_sample_11 : decode cX10_sample 11 = .ok (.iconst 0, 1) := by decide +kernel
theorem dX10_sample_12 : decode cX10_sample 12 = .ok (.bipush 111, 2) := by decide +kernel
theorem dX10_sample_14 : decode cX10_sample 14 = .ok (.invokestatic 105, 3) := by decide +kernel
theorem dX10_sample_17 : decode cX10_sample 17 = .ok (.ifCond .ne 6, 3) := by decide +kernel
theorem dX10_sample_20 : decode cX10_sample 20 = .ok (.ldc 88, 2) := by decide +kernel
theorem dX10_sample_22 : decode cX10_sample 22 = .ok (.ireturn, 1) := by decide +kernel
theorem dX10_sample_23 : decode cX10_sample 23 = .ok (.aload_n 0, 1) := by decide +kernel
theorem dX10_sample_24 : decode cX10_sample 24 = .ok (.getfield 10, 3) := by decide +kernel
theorem dX10_sample_27 : decode cX10_sample 27 = .ok (.iload_n 1, 1) := by decide +kernel
theorem dX10_sample_28 : decode cX10_sample 28 = .ok (.iload_n 2, 1) := by decide +kernel
theorem dX10_sample_29 : decode cX10_sample 29 = .ok (.invokevirtual 150, 3) := by decide +kernel
theorem dX10_sample_32 : decode cX10_sample 32 = .ok (.ireturn, 1) := by decide +kernel
theorem dX10_set_0 : decode cX10_set 0 = .ok (.iload_n 1, 1) := by decide +kernel
theorem dX10_set_1 : decode cX10_set 1 = .ok (.iconst 0, 1) := by decide +kernel
theorem dX10_set_2 : decode cX10_set 2 = .ok (.iconst 3, 1) := by decide +kernel
theorem dX10_set_3 : decode cX10_set 3 = .ok (.invokestatic 105, 3) := by decide +kernel
theorem dX10_set_6 : decode cX10_set 6 = .ok (.ifCond .ne 6, 3) := by decide +kernel
theorem dX10_set_9 : decode cX10_set 9 = .ok (.ldc 83, 2) := by decide +kernel
theorem dX10_set_11 : decode cX10_set 11 = .ok (.ireturn, 1) := by decide +kernel
theorem dX10_set_12 : decode cX10_set 12 = .ok (.aload_n 0, 1) := by decide +kernel
theorem dX10_set_13 : decode cX10_set 13 = .ok (.getfield 26, 3) := by decide +kernel
theorem dX10_set_16 : decode cX10_set 16 = .ok (.iload_n 1, 1) := by decide +kernel
theorem dX10_set_17 : decode cX10_set 17 = .ok (.iload_n 2, 1) := by decide +kernel
theorem dX10_set_18 : decode cX10_set 18 = .ok (.invokevirtual 153, 3) := by decide +kernel
theorem dX10_set_21 : decode cX10_set 21 = .ok (.ifCond .ne 6, 3) := by decide +kernel
theorem dX10_set_24 : decode cX10_set 24 = .ok (.ldc 88, 2) := by decide +kernel
theorem dX10_set_26 : decode cX10_set 26 = .ok (.ireturn, 1) := by decide +kernel
theorem dX10_set_27 : decode cX10_set 27 = .ok (.aload_n 0, 1) := by decide +kernel
theorem dX10_set_28 : decode cX10_set 28 = .ok (.getfield 26, 3) := by decide +kernel
theorem dX10_set_31 : decode cX10_set 31 = .ok (.getfield 156, 3) := by decide +kernel
theorem dX10_set_34 : decode cX10_set 34 = .ok (.iload_n 1, 1) := by decide +kernel
theorem dX10_set_35 : decode cX10_set 35 = .ok (.iaload, 1) := by decide +kernel
theorem dX10_set_36 : decode cX10_set 36 = .ok (.istore_n 3, 1) := by decide +kernel
theorem dX10_set_37 : decode cX10_set 37 = .ok (.aload_n 0, 1) := by decide +kernel
theorem dX10_set_38 : decode cX10_set 38 = .ok (.getfield 26, 3) := by decide +kernel
theorem dX10_set_41 : decode cX10_set 41 = .ok (.getfield 156, 3) := by decide +kernel
theorem dX10_set_44 : decode cX10_set 44 = .ok (.iload_n 1, 1) := by decide +kernel
theorem dX10_set_45 : decode cX10_set 45 = .ok (.iload_n 2, 1) := by decide +kernel
theorem dX10_set_46 : decode cX10_set 46 = .ok (.iastore, 1) := by decide +kernel
theorem dX10_set_47 : decode cX10_set 47 = .ok (.iload_n 3, 1) := by decide +kernel
theorem dX10_set_48 : decode cX10_set 48 = .ok (.ireturn, 1) := by decide +kernel
theorem dX10_decode_0 : decode cX10_decode 0 = .ok (.aload_n 0, 1) := by decide +kernel
theorem dX10_decode_1 : decode cX10_decode 1 = .ok (.getfield 33, 3) := by decide +kernel
theorem dX10_decode_4 : decode cX10_decode 4 = .ok (.aload_n 0, 1) := by decide +kernel
theorem dX10_decode_5 : decode cX10_decode 5 = .ok (.getfield 10, 3) := by decide +kernel
theorem dX10_decode_8 : decode cX10_decode 8 = .ok (.invokevirtual 159, 3) := by decide +kernel
theorem dX10_decode_11 : decode cX10_decode 11 = .ok (.aload_n 0, 1) := by decide +kernel
theorem dX10_decode_12 : decode cX10_decode 12 = .ok (.getfield 40, 3) := by decide +kernel
theorem dX10_decode_15 : decode cX10_decode 15 = .ok (.aload_n 0, 1) := by decide +kernel
theorem dX10_decode_16 : decode cX10_decode 16 = .ok (.getfield 33, 3) := by decide +kernel
theorem dX10_decode_19 : decode cX10_decode 19 = .ok (.invokevirtual 163, 3) := by decide +kernel
theorem dX10_decode_22 : decode cX10_decode 22 = .ok (.aload_n 0, 1) := by decide +kernel
theorem dX10_decode_23 : decode cX10_decode 23 = .ok (.getfield 47, 3) := by decide +kernel
theorem dX10_decode_26 : decode cX10_decode 26 = .ok (.aload_n 0, 1) := by decide +kernel
theorem dX10_decode_27 : decode cX10_decode 27 = .ok (.getfield 33, 3) := by decide +kernel
theorem dX10_decode_30 : decode cX10_decode 30 = .ok (.aload_n 0, 1) := by decide +kernel
theorem dX10_decode_31 : decode cX10_decode 31 = .ok (.getfield 40, 3) := by decide +kernel
theorem dX10_decode_34 : decode cX10_decode 34 = .ok (.getfield 167, 3) := by decide +kernel
theorem dX10_decode_37 : decode cX10_decode 37 = .ok (.aload_n 0, 1) := by decide +kernel
theorem dX10_decode_38 : decode cX10_decode 38 = .ok (.getfield 26, 3) := by decide +kernel
theorem dX10_decode_41 : decode cX10_decode 41 = .ok (.invokevirtual 170, 3) := by decide +kernel
theorem dX10_decode_44 : decode cX10_decode 44 = .ok (.invokevirtual 173, 3) := by decide +kernel
theorem dX10_decode_47 : decode cX10_decode 47 = .ok (.aload_n 0, 1) := by decide +kernel
theorem dX10_decode_48 : decode cX10_decode 48 = .ok (.getfield 26, 3) := by decide +kernel
theorem dX10_decode_51 : decode cX10_decode 51 = .ok (.aload_n 0, 1) := by decide +kernel
theorem dX10_decode_52 : decode cX10_decode 52 = .ok (.getfield 47, 3) := by decide +kernel
theorem dX10_decode_55 : decode cX10_decode 55 = .ok (.invokevirtual 177, 3) := by decide +kernel
theorem dX10_decode_58 : decode cX10_decode 58 = .ok (.invokevirtual 180, 3) := by decide +kernel
theorem dX10_decode_61 : decode cX10_decode 61 = .ok (.istore_n 1, 1) := by decide +kernel
theorem dX10_decode_62 : decode cX10_decode 62 = .ok (.aload_n 0, 1) := by decide +kernel
theorem dX10_decode_63 : decode cX10_decode 63 = .ok (.getfield 54, 3) := by decide +kernel
theorem dX10_decode_66 : decode cX10_decode 66 = .ok (.aload_n 0, 1) := by decide +kernel
theorem dX10_decode_67 : decode cX10_decode 67 = .ok (.getfield 47, 3) := by decide +kernel
theorem dX10_decode_70 : decode cX10_decode 70 = .ok (.iload_n 1, 1) := by decide +kernel
theorem dX10_decode_71 : decode cX10_decode 71 = .ok (.invokevirtual 184, 3) := by decide +kernel
theorem dX10_decode_74 : decode cX10_decode 74 = .ok (.aload_n 0, 1) := by decide +kernel
theorem dX10_decode_75 : decode cX10_decode 75 = .ok (.getfield 61, 3) := by decide +kernel
theorem dX10_decode_78 : decode cX10_decode 78 = .ok (.aload_n 0, 1) := by decide +kernel
theorem dX10_decode_79 : decode cX10_decode 79 = .ok (.getfield 33, 3) := by decide +kernel
theorem dX10_decode_82 : decode cX10_decode 82 = .ok (.aload_n 0, 1) := by decide +kernel
theorem dX10_decode_83 : decode cX10_decode 83 = .ok (.getfield 40, 3) := by decide +kernel
theorem dX10_decode_86 : decode cX10_decode 86 = .ok (.getfield 167, 3) := by decide +kernel
theorem dX10_decode_89 : decode cX10_decode 89 = .ok (.aload_n 0, 1) := by decide +kernel
theorem dX10_decode_90 : decode cX10_decode 90 = .ok (.getfield 26, 3) := by decide +kernel
theorem dX10_decode_93 : decode cX10_decode 93 = .ok (.iload_n 1, 1) := by decide +kernel
theorem dX10_decode_94 : decode cX10_decode 94 = .ok (.invokevirtual 188, 3) := by decide +kernel
theorem dX10_decode_97 : decode cX10_decode 97 = .ok (.aload_n 0, 1) := by decide +kernel
theorem dX10_decode_98 : decode cX10_decode 98 = .ok (.getfield 68, 3) := by decide +kernel
theorem dX10_decode_101 : decode cX10_decode 101 = .ok (.aload_n 0, 1) := by decide +kernel
theorem dX10_decode_102 : decode cX10_decode 102 = .ok (.getfield 61, 3) := by decide +kernel
theorem dX10_decode_105 : decode cX10_decode 105 = .ok (.aload_n 0, 1) := by decide +kernel
theorem dX10_decode_106 : decode cX10_decode 106 = .ok (.getfield 47, 3) := by decide +kernel
theorem dX10_decode_109 : decode cX10_decode 109 = .ok (.aload_n 0, 1) := by decide +kernel
theorem dX10_decode_110 : decode cX10_decode 110 = .ok (.getfield 54, 3) := by decide +kernel
theorem dX10_decode_113 : decode cX10_decode 113 = .ok (.iload_n 1, 1) := by decide +kernel
theorem dX10_decode_114 : decode cX10_decode 114 = .ok (.invokevirtual 192, 3) := by decide +kernel
theorem dX10_decode_117 : decode cX10_decode 117 = .ok (.aload_n 0, 1) := by decide +kernel
theorem dX10_decode_118 : decode cX10_decode 118 = .ok (.getfield 75, 3) := by decide +kernel
theorem dX10_decode_121 : decode cX10_decode 121 = .ok (.aload_n 0, 1) := by decide +kernel
theorem dX10_decode_122 : decode cX10_decode 122 = .ok (.getfield 61, 3) := by decide +kernel
theorem dX10_decode_125 : decode cX10_decode 125 = .ok (.getfield 196, 3) := by decide +kernel
theorem dX10_decode_128 : decode cX10_decode 128 = .ok (.aload_n 0, 1) := by decide +kernel
theorem dX10_decode_129 : decode cX10_decode 129 = .ok (.getfield 26, 3) := by decide +kernel
theorem dX10_decode_132 : decode cX10_decode 132 = .ok (.invokevirtual 197, 3) := by decide +kernel
theorem dX10_decode_135 : decode cX10_decode 135 = .ok (.aload_n 0, 1) := by decide +kernel
theorem dX10_decode_136 : decode cX10_decode 136 = .ok (.getfield 200, 3) := by decide +kernel
theorem dX10_decode_139 : decode cX10_decode 139 = .ok (.ifCond .le 7, 3) := by decide +kernel
theorem dX10_decode_142 : decode cX10_decode 142 = .ok (.iconst 1, 1) := by decide +kernel
theorem dX10_decode_143 : decode cX10_decode 143 = .ok (.goto 4, 3) := by decide +kernel
theorem dX10_decode_146 : decode cX10_decode 146 = .ok (.iconst 0, 1) := by decide +kernel
theorem dX10_decode_147 : decode cX10_decode 147 = .ok (.invokevirtual 203, 3) := by decide +kernel
theorem dX10_decode_150 : decode cX10_decode 150 = .ok (.aload_n 0, 1) := by decide +kernel
theorem dX10_decode_151 : decode cX10_decode 151 = .ok (.dup, 1) := by decide +kernel
theorem dX10_decode_152 : decode cX10_decode 152 = .ok (.getfield 200, 3) := by decide +kernel
theorem dX10_decode_155 : decode cX10_decode 155 = .ok (.iconst 1, 1) := by decide +kernel
theorem dX10_decode_156 : decode cX10_decode 156 = .ok (.iadd, 1) := by decide +kernel
theorem dX10_decode_157 : decode cX10_decode 157 = .ok (.putfield 200, 3) := by decide +kernel
theorem dX10_decode_160 : decode cX10_decode 160 = .ok (.aload_n 0, 1) := by decide +kernel
theorem dX10_decode_161 : decode cX10_decode 161 = .ok (.getfield 40, 3) := by decide +kernel
theorem dX10_decode_164 : decode cX10_decode 164 = .ok (.getfield 207, 3) := by decide +kernel
theorem dX10_decode_167 : decode cX10_decode 167 = .ok (.invokestatic 210, 3) := by decide +kernel
theorem dX10_decode_170 : decode cX10_decode 170 = .ok (.ireturn, 1) := by decide +kernel
theorem dX10_line_0 : decode cX10_line 0 = .ok (.iload_n 1, 1) := by decide +kernel
theorem dX10_line_1 : decode cX10_line 1 = .ok (.invokestatic 101, 3) := by decide +kernel
theorem dX10_line_4 : decode cX10_line 4 = .ok (.ifCond .ne 6, 3) := by decide +kernel
theorem dX10_line_7 : decode cX10_line 7 = .ok (.ldc 83, 2) := by decide +kernel
theorem dX10_line_9 : decode cX10_line 9 = .ok (.ireturn, 1) := by decide +kernel
theorem dX10_line_10 : decode cX10_line 10 = .ok (.iload_n 2, 1) := by decide +kernel
theorem dX10_line_11 : decode cX10_line 11 = .ok (.iconst 0, 1) := by decide +kernel
theorem dX10_line_12 : decode cX10_line 12 = .ok (.bipush 7, 2) := by decide +kernel
theorem dX10_line_14 : decode cX10_line 14 = .ok (.invokestatic 105, 3) := by decide +kernel
theorem dX10_line_17 : decode cX10_line 17 = .ok (.ifCond .ne 6, 3) := by decide +kernel
theorem dX10_line_20 : decode cX10_line 20 = .ok (.ldc 88, 2) := by decide +kernel
theorem dX10_line_22 : decode cX10_line 22 = .ok (.ireturn, 1) := by decide +kernel
theorem dX10_line_23 : decode cX10_line 23 = .ok (.aload_n 0, 1) := by decide +kernel
theorem dX10_line_24 : decode cX10_line 24 = .ok (.getfield 200, 3) := by decide +kernel
theorem dX10_line_27 : decode cX10_line 27 = .ok (.ifCond .ne 6, 3) := by decide +kernel
theorem dX10_line_30 : decode cX10_line 30 = .ok (.ldc 214, 2) := by decide +kernel
theorem dX10_line_32 : decode cX10_line 32 = .ok (.ireturn, 1) := by decide +kernel
theorem dX10_line_33 : decode cX10_line 33 = .ok (.iload_n 2, 1) := by decide +kernel
theorem dX10_line_34 : decode cX10_line 34 = .ok (.tableswitch 139 0 6 #[42, 70, 80, 93, 103, 113, 126], 42) := by decide +kernel
theorem dX10_line_76 : decode cX10_line 76 = .ok (.aload_n 0, 1) := by decide +kernel
theorem dX10_line_77 : decode cX10_line 77 = .ok (.getfield 40, 3) := by decide +kernel
theorem dX10_line_80 : decode cX10_line 80 = .ok (.getfield 215, 3) := by decide +kernel
theorem dX10_line_83 : decode cX10_line 83 = .ok (.iload_n 1, 1) := by decide +kernel
theorem dX10_line_84 : decode cX10_line 84 = .ok (.iaload, 1) := by decide +kernel
theorem dX10_line_85 : decode cX10_line 85 = .ok (.iconst (-1), 1) := by decide +kernel
theorem dX10_line_86 : decode cX10_line 86 = .ok (.if_icmp .ne 8, 3) := by decide +kernel
theorem dX10_line_89 : decode cX10_line 89 = .ok (.ldc 214, 2) := by decide +kernel
theorem dX10_line_91 : decode cX10_line 91 = .ok (.goto 12, 3) := by decide +kernel
theorem dX10_line_94 : decode cX10_line 94 = .ok (.aload_n 0, 1) := by decide +kernel
theorem dX10_line_95 : decode cX10_line 95 = .ok (.getfield 40, 3) := by decide +kernel
theorem dX10_line_98 : decode cX10_line 98 = .ok (.getfield 215, 3) := by decide +kernel
theorem dX10_line_101 : decode cX10_line 101 = .ok (.iload_n 1, 1) := by decide +kernel
theorem dX10_line_102 : decode cX10_line 102 = .ok (.iaload, 1) := by decide +kernel
theorem dX10_line_103 : decode cX10_line 103 = .ok (.ireturn, 1) := by decide +kernel
theorem dX10_line_104 : decode cX10_line 104 = .ok (.aload_n 0, 1) := by decide +kernel
theorem dX10_line_105 : decode cX10_line 105 = .ok (.getfield 40, 3) := by decide +kernel
theorem dX10_line_108 : decode cX10_line 108 = .ok (.getfield 167, 3) := by decide +kernel
theorem dX10_line_111 : decode cX10_line 111 = .ok (.iload_n 1, 1) := by decide +kernel
theorem dX10_line_112 : decode cX10_line 112 = .ok (.iaload, 1) := by decide +kernel
theorem dX10_line_113 : decode cX10_line 113 = .ok (.ireturn, 1) := by decide +kernel
theorem dX10_line_114 : decode cX10_line 114 = .ok (.aload_n 0, 1) := by decide +kernel
theorem dX10_line_115 : decode cX10_line 115 = .ok (.getfield 40, 3) := by decide +kernel
theorem dX10_line_118 : decode cX10_line 118 = .ok (.getfield 207, 3) := by decide +kernel
theorem dX10_line_121 : decode cX10_line 121 = .ok (.iload_n 1, 1) := by decide +kernel
theorem dX10_line_122 : decode cX10_line 122 = .ok (.baload, 1) := by decide +kernel
theorem dX10_line_123 : decode cX10_line 123 = .ok (.invokestatic 123, 3) := by decide +kernel
theorem dX10_line_126 : decode cX10_line 126 = .ok (.ireturn, 1) := by decide +kernel
theorem dX10_line_127 : decode cX10_line 127 = .ok (.aload_n 0, 1) := by decide +kernel
theorem dX10_line_128 : decode cX10_line 128 = .ok (.getfield 47, 3) := by decide +kernel
theorem dX10_line_131 : decode cX10_line 131 = .ok (.getfield 218, 3) := by decide +kernel
theorem dX10_line_134 : decode cX10_line 134 = .ok (.iload_n 1, 1) := by decide +kernel
theorem dX10_line_135 : decode cX10_line 135 = .ok (.iaload, 1) := by decide +kernel
theorem dX10_line_136 : decode cX10_line 136 = .ok (.ireturn, 1) := by decide +kernel
theorem dX10_line_137 : decode cX10_line 137 = .ok (.aload_n 0, 1) := by decide +kernel
theorem dX10_line_138 : decode cX10_line 138 = .ok (.getfield 47, 3) := by decide +kernel
theorem dX10_line_141 : decode cX10_line 141 = .ok (.getfield 221, 3) := by decide +kernel
theorem dX10_line_144 : decode cX10_line 144 = .ok (.iload_n 1, 1) := by decide +kernel
theorem dX10_line_145 : decode cX10_line 145 = .ok (.iaload, 1) := by decide +kernel
theorem dX10_line_146 : decode cX10_line 146 = .ok (.ireturn, 1) := by decide +kernel
theorem dX10_line_147 : decode cX10_line 147 = .ok (.aload_n 0, 1) := by decide +kernel
theorem dX10_line_148 : decode cX10_line 148 = .ok (.getfield 47, 3) := by decide +kernel
theorem dX10_line_151 : decode cX10_line 151 = .ok (.getfield 224, 3) := by decide +kernel
theorem dX10_line_154 : decode cX10_line 154 = .ok (.iload_n 1, 1) := by decide +kernel
theorem dX10_line_155 : decode cX10_line 155 = .ok (.baload, 1) := by decide +kernel
theorem dX10_line_156 : decode cX10_line 156 = .ok (.invokestatic 123, 3) := by decide +kernel
theorem dX10_line_159 : decode cX10_line 159 = .ok (.ireturn, 1) := by decide +kernel
theorem dX10_line_160 : decode cX10_line 160 = .ok (.aload_n 0, 1) := by decide +kernel
theorem dX10_line_161 : decode cX10_line 161 = .ok (.getfield 47, 3) := by decide +kernel
theorem dX10_line_164 : decode cX10_line 164 = .ok (.getfield 227, 3) := by decide +kernel
theorem dX10_line_167 : decode cX10_line 167 = .ok (.iload_n 1, 1) := by decide +kernel
theorem dX10_line_168 : decode cX10_line 168 = .ok (.baload, 1) := by decide +kernel
theorem dX10_line_169 : decode cX10_line 169 = .ok (.invokestatic 123, 3) := by decide +kernel
theorem dX10_line_172 : decode cX10_line 172 = .ok (.ireturn, 1) := by decide +kernel
theorem dX10_line_173 : decode cX10_line 173 = .ok (.aload_n 0, 1) := by decide +kernel
theorem dX10_line_174 : decode cX10_line 174 = .ok (.getfield 40, 3) := by decide +kernel
theorem dX10_line_177 : decode cX10_line 177 = .ok (.getfield 230, 3) := by decide +kernel
theorem dX10_line_180 : decode cX10_line 180 = .ok (.iload_n 1, 1) := by decide +kernel
theorem dX10_line_181 : decode cX10_line 181 = .ok (.iaload, 1) := by decide +kernel
theorem dX10_line_182 : decode cX10_line 182 = .ok (.ireturn, 1) := by decide +kernel
theorem dX10_luma_0 : decode cX10_luma 0 = .ok (.iload_n 1, 1) := by decide +kernel
theorem dX10_luma_1 : decode cX10_luma 1 = .ok (.iload_n 2, 1) := by decide +kernel
theorem dX10_luma_2 : decode cX10_luma 2 = .ok (.invokestatic 79, 3) := by decide +kernel
theorem dX10_luma_5 : decode cX10_luma 5 = .ok (.ifCond .ne 6, 3) := by decide +kernel
theorem dX10_luma_8 : decode cX10_luma 8 = .ok (.ldc 83, 2) := by decide +kernel
theorem dX10_luma_10 : decode cX10_luma 10 = .ok (.ireturn, 1) := by decide +kernel
theorem dX10_luma_11 : decode cX10_luma 11 = .ok (.aload_n 0, 1) := by decide +kernel
theorem dX10_luma_12 : decode cX10_luma 12 = .ok (.getfield 200, 3) := by decide +kernel
theorem dX10_luma_15 : decode cX10_luma 15 = .ok (.ifCond .ne 8, 3) := by decide +kernel
theorem dX10_luma_18 : decode cX10_luma 18 = .ok (.ldc 214, 2) := by decide +kernel
theorem dX10_luma_20 : decode cX10_luma 20 = .ok (.goto 16, 3) := by decide +kernel
theorem dX10_luma_23 : decode cX10_luma 23 = .ok (.aload_n 0, 1) := by decide +kernel
theorem dX10_luma_24 : decode cX10_luma 24 = .ok (.getfield 61, 3) := by decide +kernel
theorem dX10_luma_27 : decode cX10_luma 27 = .ok (.getfield 196, 3) := by decide +kernel
theorem dX10_luma_30 : decode cX10_luma 30 = .ok (.iload_n 1, 1) := by decide +kernel
theorem dX10_luma_31 : decode cX10_luma 31 = .ok (.iload_n 2, 1) := by decide +kernel
theorem dX10_luma_32 : decode cX10_luma 32 = .ok (.invokestatic 89, 3) := by decide +kernel
theorem dX10_luma_35 : decode cX10_luma 35 = .ok (.iaload, 1) := by decide +kernel
theorem dX10_luma_36 : decode cX10_luma 36 = .ok (.ireturn, 1) := by decide +kernel
theorem dX10_combed_0 : decode cX10_combed 0 = .ok (.iload_n 1, 1) := by decide +kernel
theorem dX10_combed_1 : decode cX10_combed 1 = .ok (.iload_n 2, 1) := by decide +kernel
theorem dX10_combed_2 : decode cX10_combed 2 = .ok (.invokestatic 79, 3) := by decide +kernel
theorem dX10_combed_5 : decode cX10_combed 5 = .ok (.ifCond .ne 6, 3) := by decide +kernel
theorem dX10_combed_8 : decode cX10_combed 8 = .ok (.ldc 83, 2) := by decide +kernel
theorem dX10_combed_10 : decode cX10_combed 10 = .ok (.ireturn, 1) := by decide +kernel
theorem dX10_combed_11 : decode cX10_combed 11 = .ok (.aload_n 0, 1) := by decide +kernel
theorem dX10_combed_12 : decode cX10_combed 12 = .ok (.getfield 200, 3) := by decide +kernel
theorem dX10_combed_15 : decode cX10_combed 15 = .ok (.ifCond .ne 8, 3) := by decide +kernel
theorem dX10_combed_18 : decode cX10_combed 18 = .ok (.ldc 214, 2) := by decide +kernel
theorem dX10_combed_20 : decode cX10_combed 20 = .ok (.goto 16, 3) := by decide +kernel
theorem dX10_combed_23 : decode cX10_combed 23 = .ok (.aload_n 0, 1) := by decide +kernel
theorem dX10_combed_24 : decode cX10_combed 24 = .ok (.getfield 61, 3) := by decide +kernel
theorem dX10_combed_27 : decode cX10_combed 27 = .ok (.getfield 233, 3) := by decide +kernel
theorem dX10_combed_30 : decode cX10_combed 30 = .ok (.iload_n 1, 1) := by decide +kernel
theorem dX10_combed_31 : decode cX10_combed 31 = .ok (.iload_n 2, 1) := by decide +kernel
theorem dX10_combed_32 : decode cX10_combed 32 = .ok (.invokestatic 89, 3) := by decide +kernel
theorem dX10_combed_35 : decode cX10_combed 35 = .ok (.iaload, 1) := by decide +kernel
theorem dX10_combed_36 : decode cX10_combed 36 = .ok (.ireturn, 1) := by decide +kernel
theorem dX10_thousandths_0 : decode cX10_thousandths 0 = .ok (.iload_n 1, 1) := by decide +kernel
theorem dX10_thousandths_1 : decode cX10_thousandths 1 = .ok (.iload_n 2, 1) := by decide +kernel
theorem dX10_thousandths_2 : decode cX10_thousandths 2 = .ok (.invokestatic 79, 3) := by decide +kernel
theorem dX10_thousandths_5 : decode cX10_thousandths 5 = .ok (.ifCond .ne 6, 3) := by decide +kernel
theorem dX10_thousandths_8 : decode cX10_thousandths 8 = .ok (.ldc 83, 2) := by decide +kernel
theorem dX10_thousandths_10 : decode cX10_thousandths 10 = .ok (.ireturn, 1) := by decide +kernel
theorem dX10_thousandths_11 : decode cX10_thousandths 11 = .ok (.iload_n 3, 1) := by decide +kernel
theorem dX10_thousandths_12 : decode cX10_thousandths 12 = .ok (.iconst 0, 1) := by decide +kernel
theorem dX10_thousandths_13 : decode cX10_thousandths 13 = .ok (.iconst 1, 1) := by decide +kernel
theorem dX10_thousandths_14 : decode cX10_thousandths 14 = .ok (.invokestatic 105, 3) := by decide +kernel
theorem dX10_thousandths_17 : decode cX10_thousandths 17 = .ok (.ifCond .ne 6, 3) := by decide +kernel
theorem dX10_thousandths_20 : decode cX10_thousandths 20 = .ok (.ldc 88, 2) := by decide +kernel
theorem dX10_thousandths_22 : decode cX10_thousandths 22 = .ok (.ireturn, 1) := by decide +kernel
theorem dX10_thousandths_23 : decode cX10_thousandths 23 = .ok (.aload_n 0, 1) := by decide +kernel
theorem dX10_thousandths_24 : decode cX10_thousandths 24 = .ok (.getfield 200, 3) := by decide +kernel
theorem dX10_thousandths_27 : decode cX10_thousandths 27 = .ok (.ifCond .ne 6, 3) := by decide +kernel
theorem dX10_thousandths_30 : decode cX10_thousandths 30 = .ok (.ldc 214, 2) := by decide +kernel
theorem dX10_thousandths_32 : decode cX10_thousandths 32 = .ok (.ireturn, 1) := by decide +kernel
theorem dX10_thousandths_33 : decode cX10_thousandths 33 = .ok (.iload_n 1, 1) := by decide +kernel
theorem dX10_thousandths_34 : decode cX10_thousandths 34 = .ok (.iload_n 2, 1) := by decide +kernel
theorem dX10_thousandths_35 : decode cX10_thousandths 35 = .ok (.invokestatic 89, 3) := by decide +kernel
theorem dX10_thousandths_38 : decode cX10_thousandths 38 = .ok (.istore 4, 2) := by decide +kernel
theorem dX10_thousandths_40 : decode cX10_thousandths 40 = .ok (.iload_n 3, 1) := by decide +kernel
theorem dX10_thousandths_41 : decode cX10_thousandths 41 = .ok (.ifCond .ne 16, 3) := by decide +kernel
theorem dX10_thousandths_44 : decode cX10_thousandths 44 = .ok (.aload_n 0, 1) := by decide +kernel
theorem dX10_thousandths_45 : decode cX10_thousandths 45 = .ok (.getfield 68, 3) := by decide +kernel
theorem dX10_thousandths_48 : decode cX10_thousandths 48 = .ok (.getfield 236, 3) := by decide +kernel
theorem dX10_thousandths_51 : decode cX10_thousandths 51 = .ok (.iload 4, 2) := by decide +kernel
theorem dX10_thousandths_53 : decode cX10_thousandths 53 = .ok (.faload, 1) := by decide +kernel
theorem dX10_thousandths_54 : decode cX10_thousandths 54 = .ok (.goto 13, 3) := by decide +kernel
theorem dX10_thousandths_57 : decode cX10_thousandths 57 = .ok (.aload_n 0, 1) := by decide +kernel
theorem dX10_thousandths_58 : decode cX10_thousandths 58 = .ok (.getfield 68, 3) := by decide +kernel
theorem dX10_thousandths_61 : decode cX10_thousandths 61 = .ok (.getfield 240, 3) := by decide +kernel
theorem dX10_thousandths_64 : decode cX10_thousandths 64 = .ok (.iload 4, 2) := by decide +kernel
theorem dX10_thousandths_66 : decode cX10_thousandths 66 = .ok (.faload, 1) := by decide +kernel
theorem dX10_thousandths_67 : decode cX10_thousandths 67 = .ok (.fstore 5, 2) := by decide +kernel
theorem dX10_thousandths_69 : decode cX10_thousandths 69 = .ok (.fload 5, 2) := by decide +kernel
theorem dX10_thousandths_71 : decode cX10_thousandths 71 = .ok (.ldc 243, 2) := by decide +kernel
theorem dX10_thousandths_73 : decode cX10_thousandths 73 = .ok (.fmul, 1) := by decide +kernel
theorem dX10_thousandths_74 : decode cX10_thousandths 74 = .ok (.f2i, 1) := by decide +kernel
theorem dX10_thousandths_75 : decode cX10_thousandths 75 = .ok (.ireturn, 1) := by decide +kernel
theorem dX10_motion_0 : decode cX10_motion 0 = .ok (.iload_n 1, 1) := by decide +kernel
theorem dX10_motion_1 : decode cX10_motion 1 = .ok (.iload_n 2, 1) := by decide +kernel
theorem dX10_motion_2 : decode cX10_motion 2 = .ok (.invokestatic 79, 3) := by decide +kernel
theorem dX10_motion_5 : decode cX10_motion 5 = .ok (.ifCond .ne 6, 3) := by decide +kernel
theorem dX10_motion_8 : decode cX10_motion 8 = .ok (.ldc 83, 2) := by decide +kernel
theorem dX10_motion_10 : decode cX10_motion 10 = .ok (.ireturn, 1) := by decide +kernel
theorem dX10_motion_11 : decode cX10_motion 11 = .ok (.aload_n 0, 1) := by decide +kernel
theorem dX10_motion_12 : decode cX10_motion 12 = .ok (.getfield 200, 3) := by decide +kernel
theorem dX10_motion_15 : decode cX10_motion 15 = .ok (.iconst 2, 1) := by decide +kernel
theorem dX10_motion_16 : decode cX10_motion 16 = .ok (.if_icmp .ge 8, 3) := by decide +kernel
theorem dX10_motion_19 : decode cX10_motion 19 = .ok (.ldc 214, 2) := by decide +kernel
theorem dX10_motion_21 : decode cX10_motion 21 = .ok (.goto 16, 3) := by decide +kernel
theorem dX10_motion_24 : decode cX10_motion 24 = .ok (.aload_n 0, 1) := by decide +kernel
theorem dX10_motion_25 : decode cX10_motion 25 = .ok (.getfield 75, 3) := by decide +kernel
theorem dX10_motion_28 : decode cX10_motion 28 = .ok (.getfield 248, 3) := by decide +kernel
theorem dX10_motion_31 : decode cX10_motion 31 = .ok (.iload_n 1, 1) := by decide +kernel
theorem dX10_motion_32 : decode cX10_motion 32 = .ok (.iload_n 2, 1) := by decide +kernel
theorem dX10_motion_33 : decode cX10_motion 33 = .ok (.invokestatic 89, 3) := by decide +kernel
theorem dX10_motion_36 : decode cX10_motion 36 = .ok (.iaload, 1) := by decide +kernel
theorem dX10_motion_37 : decode cX10_motion 37 = .ok (.ireturn, 1) := by decide +kernel
theorem dX10_count_0 : decode cX10_count 0 = .ok (.iload_n 1, 1) := by decide +kernel
theorem dX10_count_1 : decode cX10_count 1 = .ok (.iconst 0, 1) := by decide +kernel
theorem dX10_count_2 : decode cX10_count 2 = .ok (.bipush 18, 2) := by decide +kernel
theorem dX10_count_4 : decode cX10_count 4 = .ok (.invokestatic 105, 3) := by decide +kernel
theorem dX10_count_7 : decode cX10_count 7 = .ok (.ifCond .ne 6, 3) := by decide +kernel
theorem dX10_count_10 : decode cX10_count 10 = .ok (.ldc 88, 2) := by decide +kernel
theorem dX10_count_12 : decode cX10_count 12 = .ok (.ireturn, 1) := by decide +kernel
theorem dX10_count_13 : decode cX10_count 13 = .ok (.iload_n 1, 1) := by decide +kernel
theorem dX10_count_14 : decode cX10_count 14 = .ok (.ifCond .ne 8, 3) := by decide +kernel
theorem dX10_count_17 : decode cX10_count 17 = .ok (.aload_n 0, 1) := by decide +kernel
theorem dX10_count_18 : decode cX10_count 18 = .ok (.getfield 200, 3) := by decide +kernel
theorem dX10_count_21 : decode cX10_count 21 = .ok (.ireturn, 1) := by decide +kernel
theorem dX10_count_22 : decode cX10_count 22 = .ok (.iload_n 1, 1) := by decide +kernel
theorem dX10_count_23 : decode cX10_count 23 = .ok (.bipush 12, 2) := by decide +kernel
theorem dX10_count_25 : decode cX10_count 25 = .ok (.if_icmp .le 9, 3) := by decide +kernel
theorem dX10_count_28 : decode cX10_count 28 = .ok (.aload_n 0, 1) := by decide +kernel
theorem dX10_count_29 : decode cX10_count 29 = .ok (.iload_n 1, 1) := by decide +kernel
theorem dX10_count_30 : decode cX10_count 30 = .ok (.invokevirtual 251, 3) := by decide +kernel
theorem dX10_count_33 : decode cX10_count 33 = .ok (.ireturn, 1) := by decide +kernel
theorem dX10_count_34 : decode cX10_count 34 = .ok (.iload_n 1, 1) := by decide +kernel
theorem dX10_count_35 : decode cX10_count 35 = .ok (.bipush 7, 2) := by decide +kernel
theorem dX10_count_37 : decode cX10_count 37 = .ok (.if_icmp .eq 9, 3) := by decide +kernel
theorem dX10_count_40 : decode cX10_count 40 = .ok (.iload_n 1, 1) := by decide +kernel
theorem dX10_count_41 : decode cX10_count 41 = .ok (.bipush 8, 2) := by decide +kernel
theorem dX10_count_43 : decode cX10_count 43 = .ok (.if_icmp .ne 7, 3) := by decide +kernel
theorem dX10_count_46 : decode cX10_count 46 = .ok (.iconst 2, 1) := by decide +kernel
theorem dX10_count_47 : decode cX10_count 47 = .ok (.goto 4, 3) := by decide +kernel
theorem dX10_count_50 : decode cX10_count 50 = .ok (.iconst 1, 1) := by decide +kernel
theorem dX10_count_51 : decode cX10_count 51 = .ok (.istore_n 2, 1) := by decide +kernel
theorem dX10_count_52 : decode cX10_count 52 = .ok (.aload_n 0, 1) := by decide +kernel
theorem dX10_count_53 : decode cX10_count 53 = .ok (.getfield 200, 3) := by decide +kernel
theorem dX10_count_56 : decode cX10_count 56 = .ok (.iload_n 2, 1) := by decide +kernel
theorem dX10_count_57 : decode cX10_count 57 = .ok (.if_icmp .ge 8, 3) := by decide +kernel
theorem dX10_count_60 : decode cX10_count 60 = .ok (.ldc 214, 2) := by decide +kernel
theorem dX10_count_62 : decode cX10_count 62 = .ok (.goto 8, 3) := by decide +kernel
theorem dX10_count_65 : decode cX10_count 65 = .ok (.aload_n 0, 1) := by decide +kernel
theorem dX10_count_66 : decode cX10_count 66 = .ok (.iload_n 1, 1) := by decide +kernel
theorem dX10_count_67 : decode cX10_count 67 = .ok (.invokevirtual 254, 3) := by decide +kernel
theorem dX10_count_70 : decode cX10_count 70 = .ok (.ireturn, 1) := by decide +kernel
theorem dX10_countOfNow_0 : decode cX10_countOfNow 0 = .ok (.iload_n 1, 1) := by decide +kernel
theorem dX10_countOfNow_1 : decode cX10_countOfNow 1 = .ok (.bipush 13, 2) := by decide +kernel
theorem dX10_countOfNow_3 : decode cX10_countOfNow 3 = .ok (.if_icmp .ne 11, 3) := by decide +kernel
theorem dX10_countOfNow_6 : decode cX10_countOfNow 6 = .ok (.aload_n 0, 1) := by decide +kernel
theorem dX10_countOfNow_7 : decode cX10_countOfNow 7 = .ok (.getfield 10, 3) := by decide +kernel
theorem dX10_countOfNow_10 : decode cX10_countOfNow 10 = .ok (.getfield 127, 3) := by decide +kernel
theorem dX10_countOfNow_13 : decode cX10_countOfNow 13 = .ok (.ireturn, 1) := by decide +kernel
theorem dX10_countOfNow_14 : decode cX10_countOfNow 14 = .ok (.iload_n 1, 1) := by decide +kernel
theorem dX10_countOfNow_15 : decode cX10_countOfNow 15 = .ok (.bipush 14, 2) := by decide +kernel
theorem dX10_countOfNow_17 : decode cX10_countOfNow 17 = .ok (.if_icmp .ne 11, 3) := by decide +kernel
theorem dX10_countOfNow_20 : decode cX10_countOfNow 20 = .ok (.aload_n 0, 1) := by decide +kernel
theorem dX10_countOfNow_21 : decode cX10_countOfNow 21 = .ok (.getfield 19, 3) := by decide +kernel
theorem dX10_countOfNow_24 : decode cX10_countOfNow 24 = .ok (.getfield 135, 3) := by decide +kernel
theorem dX10_countOfNow_27 : decode cX10_countOfNow 27 = .ok (.ireturn, 1) := by decide +kernel
theorem dX10_countOfNow_28 : decode cX10_countOfNow 28 = .ok (.iload_n 1, 1) := by decide +kernel
theorem dX10_countOfNow_29 : decode cX10_countOfNow 29 = .ok (.bipush 15, 2) := by decide +kernel
theorem dX10_countOfNow_31 : decode cX10_countOfNow 31 = .ok (.isub, 1) := by decide +kernel
theorem dX10_countOfNow_32 : decode cX10_countOfNow 32 = .ok (.istore_n 2, 1) := by decide +kernel
theorem dX10_countOfNow_33 : decode cX10_countOfNow 33 = .ok (.iload_n 2, 1) := by decide +kernel
theorem dX10_countOfNow_34 : decode cX10_countOfNow 34 = .ok (.iconst 0, 1) := by decide +kernel
theorem dX10_countOfNow_35 : decode cX10_countOfNow 35 = .ok (.iconst 3, 1) := by decide +kernel
theorem dX10_countOfNow_36 : decode cX10_countOfNow 36 = .ok (.invokestatic 105, 3) := by decide +kernel
theorem dX10_countOfNow_39 : decode cX10_countOfNow 39 = .ok (.ifCond .eq 15, 3) := by decide +kernel
theorem dX10_countOfNow_42 : decode cX10_countOfNow 42 = .ok (.aload_n 0, 1) := by decide +kernel
theorem dX10_countOfNow_43 : decode cX10_countOfNow 43 = .ok (.getfield 26, 3) := by decide +kernel
theorem dX10_countOfNow_46 : decode cX10_countOfNow 46 = .ok (.getfield 156, 3) := by decide +kernel
theorem dX10_countOfNow_49 : decode cX10_countOfNow 49 = .ok (.iload_n 2, 1) := by decide +kernel
theorem dX10_countOfNow_50 : decode cX10_countOfNow 50 = .ok (.iaload, 1) := by decide +kernel
theorem dX10_countOfNow_51 : decode cX10_countOfNow 51 = .ok (.goto 5, 3) := by decide +kernel
theorem dX10_countOfNow_54 : decode cX10_countOfNow 54 = .ok (.ldc 88, 2) := by decide +kernel
theorem dX10_countOfNow_56 : decode cX10_countOfNow 56 = .ok (.ireturn, 1) := by decide +kernel
theorem dX10_countOfDecoding_0 : decode cX10_countOfDecoding 0 = .ok (.iload_n 1, 1) := by decide +kernel
theorem dX10_countOfDecoding_1 : decode cX10_countOfDecoding 1 = .ok (.tableswitch 116 1 8 #[47, 55, 63, 71, 82, 87, 92, 104], 47) := by decide +kernel
theorem dX10_countOfDecoding_48 : decode cX10_countOfDecoding 48 = .ok (.aload_n 0, 1) := by decide +kernel
theorem dX10_countOfDecoding_49 : decode cX10_countOfDecoding 49 = .ok (.getfield 47, 3) := by decide +kernel
theorem dX10_countOfDecoding_52 : decode cX10_countOfDecoding 52 = .ok (.invokevirtual 177, 3) := by decide +kernel
theorem dX10_countOfDecoding_55 : decode cX10_countOfDecoding 55 = .ok (.ireturn, 1) := by decide +kernel
theorem dX10_countOfDecoding_56 : decode cX10_countOfDecoding 56 = .ok (.aload_n 0, 1) := by decide +kernel
theorem dX10_countOfDecoding_57 : decode cX10_countOfDecoding 57 = .ok (.getfield 47, 3) := by decide +kernel
theorem dX10_countOfDecoding_60 : decode cX10_countOfDecoding 60 = .ok (.getfield 257, 3) := by decide +kernel
theorem dX10_countOfDecoding_63 : decode cX10_countOfDecoding 63 = .ok (.ireturn, 1) := by decide +kernel
theorem dX10_countOfDecoding_64 : decode cX10_countOfDecoding 64 = .ok (.aload_n 0, 1) := by decide +kernel
theorem dX10_countOfDecoding_65 : decode cX10_countOfDecoding 65 = .ok (.getfield 47, 3) := by decide +kernel
theorem dX10_countOfDecoding_68 : decode cX10_countOfDecoding 68 = .ok (.getfield 260, 3) := by decide +kernel
theorem dX10_countOfDecoding_71 : decode cX10_countOfDecoding 71 = .ok (.ireturn, 1) := by decide +kernel
theorem dX10_countOfDecoding_72 : decode cX10_countOfDecoding 72 = .ok (.aload_n 0, 1) := by decide +kernel
theorem dX10_countOfDecoding_73 : decode cX10_countOfDecoding 73 = .ok (.getfield 47, 3) := by decide +kernel
theorem dX10_countOfDecoding_76 : decode cX10_countOfDecoding 76 = .ok (.getfield 227, 3) := by decide +kernel
theorem dX10_countOfDecoding_79 : decode cX10_countOfDecoding 79 = .ok (.invokestatic 210, 3) := by decide +kernel
theorem dX10_countOfDecoding_82 : decode cX10_countOfDecoding 82 = .ok (.ireturn, 1) := by decide +kernel
theorem dX10_countOfDecoding_83 : decode cX10_countOfDecoding 83 = .ok (.aload_n 0, 1) := by decide +kernel
theorem dX10_countOfDecoding_84 : decode cX10_countOfDecoding 84 = .ok (.invokevirtual 263, 3) := by decide +kernel
theorem dX10_countOfDecoding_87 : decode cX10_countOfDecoding 87 = .ok (.ireturn, 1) := by decide +kernel
theorem dX10_countOfDecoding_88 : decode cX10_countOfDecoding 88 = .ok (.aload_n 0, 1) := by decide +kernel
theorem dX10_countOfDecoding_89 : decode cX10_countOfDecoding 89 = .ok (.invokevirtual 266, 3) := by decide +kernel
theorem dX10_countOfDecoding_92 : decode cX10_countOfDecoding 92 = .ok (.ireturn, 1) := by decide +kernel
theorem dX10_countOfDecoding_93 : decode cX10_countOfDecoding 93 = .ok (.aload_n 0, 1) := by decide +kernel
theorem dX10_countOfDecoding_94 : decode cX10_countOfDecoding 94 = .ok (.getfield 75, 3) := by decide +kernel
theorem dX10_countOfDecoding_97 : decode cX10_countOfDecoding 97 = .ok (.getfield 248, 3) := by decide +kernel
theorem dX10_countOfDecoding_100 : decode cX10_countOfDecoding 100 = .ok (.iconst 2, 1) := by decide +kernel
theorem dX10_countOfDecoding_101 : decode cX10_countOfDecoding 101 = .ok (.invokestatic 269, 3) := by decide +kernel
theorem dX10_countOfDecoding_104 : decode cX10_countOfDecoding 104 = .ok (.ireturn, 1) := by decide +kernel
theorem dX10_countOfDecoding_105 : decode cX10_countOfDecoding 105 = .ok (.aload_n 0, 1) := by decide +kernel
theorem dX10_countOfDecoding_106 : decode cX10_countOfDecoding 106 = .ok (.getfield 75, 3) := by decide +kernel
theorem dX10_countOfDecoding_109 : decode cX10_countOfDecoding 109 = .ok (.getfield 248, 3) := by decide +kernel
theorem dX10_countOfDecoding_112 : decode cX10_countOfDecoding 112 = .ok (.iconst 1, 1) := by decide +kernel
theorem dX10_countOfDecoding_113 : decode cX10_countOfDecoding 113 = .ok (.invokestatic 269, 3) := by decide +kernel
theorem dX10_countOfDecoding_116 : decode cX10_countOfDecoding 116 = .ok (.ireturn, 1) := by decide +kernel
theorem dX10_countOfDecoding_117 : decode cX10_countOfDecoding 117 = .ok (.aload_n 0, 1) := by decide +kernel
theorem dX10_countOfDecoding_118 : decode cX10_countOfDecoding 118 = .ok (.getfield 61, 3) := by decide +kernel
theorem dX10_countOfDecoding_121 : decode cX10_countOfDecoding 121 = .ok (.getfield 233, 3) := by decide +kernel
theorem dX10_countOfDecoding_124 : decode cX10_countOfDecoding 124 = .ok (.iload_n 1, 1) := by decide +kernel
theorem dX10_countOfDecoding_125 : decode cX10_countOfDecoding 125 = .ok (.bipush 9, 2) := by decide +kernel
theorem dX10_countOfDecoding_127 : decode cX10_countOfDecoding 127 = .ok (.isub, 1) := by decide +kernel
theorem dX10_countOfDecoding_128 : decode cX10_countOfDecoding 128 = .ok (.invokestatic 269, 3) := by decide +kernel
theorem dX10_countOfDecoding_131 : decode cX10_countOfDecoding 131 = .ok (.ireturn, 1) := by decide +kernel
theorem dX10_wrongLumas_0 : decode cX10_wrongLumas 0 = .ok (.iconst 0, 1) := by decide +kernel
theorem dX10_wrongLumas_1 : decode cX10_wrongLumas 1 = .ok (.istore_n 1, 1) := by decide +kernel
theorem dX10_wrongLumas_2 : decode cX10_wrongLumas 2 = .ok (.iconst 0, 1) := by decide +kernel
theorem dX10_wrongLumas_3 : decode cX10_wrongLumas 3 = .ok (.istore_n 2, 1) := by decide +kernel
theorem dX10_wrongLumas_4 : decode cX10_wrongLumas 4 = .ok (.iload_n 2, 1) := by decide +kernel
theorem dX10_wrongLumas_5 : decode cX10_wrongLumas 5 = .ok (.bipush 80, 2) := by decide +kernel
theorem dX10_wrongLumas_7 : decode cX10_wrongLumas 7 = .ok (.if_icmp .ge 41, 3) := by decide +kernel
theorem dX10_wrongLumas_10 : decode cX10_wrongLumas 10 = .ok (.iload_n 1, 1) := by decide +kernel
theorem dX10_wrongLumas_11 : decode cX10_wrongLumas 11 = .ok (.aload_n 0, 1) := by decide +kernel
theorem dX10_wrongLumas_12 : decode cX10_wrongLumas 12 = .ok (.getfield 61, 3) := by decide +kernel
theorem dX10_wrongLumas_15 : decode cX10_wrongLumas 15 = .ok (.getfield 196, 3) := by decide +kernel
theorem dX10_wrongLumas_18 : decode cX10_wrongLumas 18 = .ok (.iload_n 2, 1) := by decide +kernel
theorem dX10_wrongLumas_19 : decode cX10_wrongLumas 19 = .ok (.iaload, 1) := by decide +kernel
theorem dX10_wrongLumas_20 : decode cX10_wrongLumas 20 = .ok (.aload_n 0, 1) := by decide +kernel
theorem dX10_wrongLumas_21 : decode cX10_wrongLumas 21 = .ok (.getfield 10, 3) := by decide +kernel
theorem dX10_wrongLumas_24 : decode cX10_wrongLumas 24 = .ok (.getfield 93, 3) := by decide +kernel
theorem dX10_wrongLumas_27 : decode cX10_wrongLumas 27 = .ok (.iload_n 2, 1) := by decide +kernel
theorem dX10_wrongLumas_28 : decode cX10_wrongLumas 28 = .ok (.iaload, 1) := by decide +kernel
theorem dX10_wrongLumas_29 : decode cX10_wrongLumas 29 = .ok (.if_icmp .eq 7, 3) := by decide +kernel
theorem dX10_wrongLumas_32 : decode cX10_wrongLumas 32 = .ok (.iconst 1, 1) := by decide +kernel
theorem dX10_wrongLumas_33 : decode cX10_wrongLumas 33 = .ok (.goto 4, 3) := by decide +kernel
theorem dX10_wrongLumas_36 : decode cX10_wrongLumas 36 = .ok (.iconst 0, 1) := by decide +kernel
theorem dX10_wrongLumas_37 : decode cX10_wrongLumas 37 = .ok (.invokestatic 123, 3) := by decide +kernel
theorem dX10_wrongLumas_40 : decode cX10_wrongLumas 40 = .ok (.iadd, 1) := by decide +kernel
theorem dX10_wrongLumas_41 : decode cX10_wrongLumas 41 = .ok (.istore_n 1, 1) := by decide +kernel
theorem dX10_wrongLumas_42 : decode cX10_wrongLumas 42 = .ok (.iinc 2 1, 3) := by decide +kernel
theorem dX10_wrongLumas_45 : decode cX10_wrongLumas 45 = .ok (.goto (-41), 3) := by decide +kernel
theorem dX10_wrongLumas_48 : decode cX10_wrongLumas 48 = .ok (.iload_n 1, 1) := by decide +kernel
theorem dX10_wrongLumas_49 : decode cX10_wrongLumas 49 = .ok (.ireturn, 1) := by decide +kernel
theorem dX10_lumaDifferences_0 : decode cX10_lumaDifferences 0 = .ok (.iconst 0, 1) := by decide +kernel
theorem dX10_lumaDifferences_1 : decode cX10_lumaDifferences 1 = .ok (.istore_n 1, 1) := by decide +kernel
theorem dX10_lumaDifferences_2 : decode cX10_lumaDifferences 2 = .ok (.iconst 0, 1) := by decide +kernel
theorem dX10_lumaDifferences_3 : decode cX10_lumaDifferences 3 = .ok (.istore_n 2, 1) := by decide +kernel
theorem dX10_lumaDifferences_4 : decode cX10_lumaDifferences 4 = .ok (.iload_n 2, 1) := by decide +kernel
theorem dX10_lumaDifferences_5 : decode cX10_lumaDifferences 5 = .ok (.bipush 80, 2) := by decide +kernel
theorem dX10_lumaDifferences_7 : decode cX10_lumaDifferences 7 = .ok (.if_icmp .ge 34, 3) := by decide +kernel
theorem dX10_lumaDifferences_10 : decode cX10_lumaDifferences 10 = .ok (.iload_n 1, 1) := by decide +kernel
theorem dX10_lumaDifferences_11 : decode cX10_lumaDifferences 11 = .ok (.aload_n 0, 1) := by decide +kernel
theorem dX10_lumaDifferences_12 : decode cX10_lumaDifferences 12 = .ok (.getfield 61, 3) := by decide +kernel
theorem dX10_lumaDifferences_15 : decode cX10_lumaDifferences 15 = .ok (.getfield 196, 3) := by decide +kernel
theorem dX10_lumaDifferences_18 : decode cX10_lumaDifferences 18 = .ok (.iload_n 2, 1) := by decide +kernel
theorem dX10_lumaDifferences_19 : decode cX10_lumaDifferences 19 = .ok (.iaload, 1) := by decide +kernel
theorem dX10_lumaDifferences_20 : decode cX10_lumaDifferences 20 = .ok (.aload_n 0, 1) := by decide +kernel
theorem dX10_lumaDifferences_21 : decode cX10_lumaDifferences 21 = .ok (.getfield 10, 3) := by decide +kernel
theorem dX10_lumaDifferences_24 : decode cX10_lumaDifferences 24 = .ok (.getfield 93, 3) := by decide +kernel
theorem dX10_lumaDifferences_27 : decode cX10_lumaDifferences 27 = .ok (.iload_n 2, 1) := by decide +kernel
theorem dX10_lumaDifferences_28 : decode cX10_lumaDifferences 28 = .ok (.iaload, 1) := by decide +kernel
theorem dX10_lumaDifferences_29 : decode cX10_lumaDifferences 29 = .ok (.isub, 1) := by decide +kernel
theorem dX10_lumaDifferences_30 : decode cX10_lumaDifferences 30 = .ok (.invokestatic 272, 3) := by decide +kernel
theorem dX10_lumaDifferences_33 : decode cX10_lumaDifferences 33 = .ok (.iadd, 1) := by decide +kernel
theorem dX10_lumaDifferences_34 : decode cX10_lumaDifferences 34 = .ok (.istore_n 1, 1) := by decide +kernel
theorem dX10_lumaDifferences_35 : decode cX10_lumaDifferences 35 = .ok (.iinc 2 1, 3) := by decide +kernel
theorem dX10_lumaDifferences_38 : decode cX10_lumaDifferences 38 = .ok (.goto (-34), 3) := by decide +kernel
theorem dX10_lumaDifferences_41 : decode cX10_lumaDifferences 41 = .ok (.iload_n 1, 1) := by decide +kernel
theorem dX10_lumaDifferences_42 : decode cX10_lumaDifferences 42 = .ok (.ireturn, 1) := by decide +kernel
theorem dX10_tally_0 : decode cX10_tally 0 = .ok (.iconst 0, 1) := by decide +kernel
theorem dX10_tally_1 : decode cX10_tally 1 = .ok (.istore_n 1, 1) := by decide +kernel
theorem dX10_tally_2 : decode cX10_tally 2 = .ok (.aload_n 0, 1) := by decide +kernel
theorem dX10_tally_3 : decode cX10_tally 3 = .ok (.astore_n 2, 1) := by decide +kernel
theorem dX10_tally_4 : decode cX10_tally 4 = .ok (.aload_n 2, 1) := by decide +kernel
theorem dX10_tally_5 : decode cX10_tally 5 = .ok (.arraylength, 1) := by decide +kernel
theorem dX10_tally_6 : decode cX10_tally 6 = .ok (.istore_n 3, 1) := by decide +kernel
theorem dX10_tally_7 : decode cX10_tally 7 = .ok (.iconst 0, 1) := by decide +kernel
theorem dX10_tally_8 : decode cX10_tally 8 = .ok (.istore 4, 2) := by decide +kernel
theorem dX10_tally_10 : decode cX10_tally 10 = .ok (.iload 4, 2) := by decide +kernel
theorem dX10_tally_12 : decode cX10_tally 12 = .ok (.iload_n 3, 1) := by decide +kernel
theorem dX10_tally_13 : decode cX10_tally 13 = .ok (.if_icmp .ge 23, 3) := by decide +kernel
theorem dX10_tally_16 : decode cX10_tally 16 = .ok (.aload_n 2, 1) := by decide +kernel
theorem dX10_tally_17 : decode cX10_tally 17 = .ok (.iload 4, 2) := by decide +kernel
theorem dX10_tally_19 : decode cX10_tally 19 = .ok (.baload, 1) := by decide +kernel
theorem dX10_tally_20 : decode cX10_tally 20 = .ok (.istore 5, 2) := by decide +kernel
theorem dX10_tally_22 : decode cX10_tally 22 = .ok (.iload_n 1, 1) := by decide +kernel
theorem dX10_tally_23 : decode cX10_tally 23 = .ok (.iload 5, 2) := by decide +kernel
theorem dX10_tally_25 : decode cX10_tally 25 = .ok (.invokestatic 123, 3) := by decide +kernel
theorem dX10_tally_28 : decode cX10_tally 28 = .ok (.iadd, 1) := by decide +kernel
theorem dX10_tally_29 : decode cX10_tally 29 = .ok (.istore_n 1, 1) := by decide +kernel
theorem dX10_tally_30 : decode cX10_tally 30 = .ok (.iinc 4 1, 3) := by decide +kernel
theorem dX10_tally_33 : decode cX10_tally 33 = .ok (.goto (-23), 3) := by decide +kernel
theorem dX10_tally_36 : decode cX10_tally 36 = .ok (.iload_n 1, 1) := by decide +kernel
theorem dX10_tally_37 : decode cX10_tally 37 = .ok (.ireturn, 1) := by decide +kernel
theorem dX10_tally__0 : decode cX10_tally_ 0 = .ok (.iconst 0, 1) := by decide +kernel
theorem dX10_tally__1 : decode cX10_tally_ 1 = .ok (.istore_n 2, 1) := by decide +kernel
theorem dX10_tally__2 : decode cX10_tally_ 2 = .ok (.aload_n 0, 1) := by decide +kernel
theorem dX10_tally__3 : decode cX10_tally_ 3 = .ok (.astore_n 3, 1) := by decide +kernel
theorem dX10_tally__4 : decode cX10_tally_ 4 = .ok (.aload_n 3, 1) := by decide +kernel
theorem dX10_tally__5 : decode cX10_tally_ 5 = .ok (.arraylength, 1) := by decide +kernel
theorem dX10_tally__6 : decode cX10_tally_ 6 = .ok (.istore 4, 2) := by decide +kernel
theorem dX10_tally__8 : decode cX10_tally_ 8 = .ok (.iconst 0, 1) := by decide +kernel
theorem dX10_tally__9 : decode cX10_tally_ 9 = .ok (.istore 5, 2) := by decide +kernel
theorem dX10_tally__11 : decode cX10_tally_ 11 = .ok (.iload 5, 2) := by decide +kernel
theorem dX10_tally__13 : decode cX10_tally_ 13 = .ok (.iload 4, 2) := by decide +kernel
theorem dX10_tally__15 : decode cX10_tally_ 15 = .ok (.if_icmp .ge 32, 3) := by decide +kernel
theorem dX10_tally__18 : decode cX10_tally_ 18 = .ok (.aload_n 3, 1) := by decide +kernel
theorem dX10_tally__19 : decode cX10_tally_ 19 = .ok (.iload 5, 2) := by decide +kernel
theorem dX10_tally__21 : decode cX10_tally_ 21 = .ok (.iaload, 1) := by decide +kernel
theorem dX10_tally__22 : decode cX10_tally_ 22 = .ok (.istore 6, 2) := by decide +kernel
theorem dX10_tally__24 : decode cX10_tally_ 24 = .ok (.iload_n 2, 1) := by decide +kernel
theorem dX10_tally__25 : decode cX10_tally_ 25 = .ok (.iload 6, 2) := by decide +kernel
theorem dX10_tally__27 : decode cX10_tally_ 27 = .ok (.iload_n 1, 1) := by decide +kernel
theorem dX10_tally__28 : decode cX10_tally_ 28 = .ok (.if_icmp .ne 7, 3) := by decide +kernel
theorem dX10_tally__31 : decode cX10_tally_ 31 = .ok (.iconst 1, 1) := by decide +kernel
theorem dX10_tally__32 : decode cX10_tally_ 32 = .ok (.goto 4, 3) := by decide +kernel
theorem dX10_tally__35 : decode cX10_tally_ 35 = .ok (.iconst 0, 1) := by decide +kernel
theorem dX10_tally__36 : decode cX10_tally_ 36 = .ok (.invokestatic 123, 3) := by decide +kernel
theorem dX10_tally__39 : decode cX10_tally_ 39 = .ok (.iadd, 1) := by decide +kernel
theorem dX10_tally__40 : decode cX10_tally_ 40 = .ok (.istore_n 2, 1) := by decide +kernel
theorem dX10_tally__41 : decode cX10_tally_ 41 = .ok (.iinc 5 1, 3) := by decide +kernel
theorem dX10_tally__44 : decode cX10_tally_ 44 = .ok (.goto (-33), 3) := by decide +kernel
theorem dX10_tally__47 : decode cX10_tally_ 47 = .ok (.iload_n 2, 1) := by decide +kernel
theorem dX10_tally__48 : decode cX10_tally_ 48 = .ok (.ireturn, 1) := by decide +kernel
theorem dX10_oneIf_0 : decode cX10_oneIf 0 = .ok (.iload_n 0, 1) := by decide +kernel
theorem dX10_oneIf_1 : decode cX10_oneIf 1 = .ok (.ifCond .eq 7, 3) := by decide +kernel
theorem dX10_oneIf_4 : decode cX10_oneIf 4 = .ok (.iconst 1, 1) := by decide +kernel
theorem dX10_oneIf_5 : decode cX10_oneIf 5 = .ok (.goto 4, 3) := by decide +kernel
theorem dX10_oneIf_8 : decode cX10_oneIf 8 = .ok (.iconst 0, 1) := by decide +kernel
theorem dX10_oneIf_9 : decode cX10_oneIf 9 = .ok (.ireturn, 1) := by decide +kernel
theorem dX10_isWithin_0 : decode cX10_isWithin 0 = .ok (.iload_n 0, 1) := by decide +kernel
theorem dX10_isWithin_1 : decode cX10_isWithin 1 = .ok (.iload_n 1, 1) := by decide +kernel
theorem dX10_isWithin_2 : decode cX10_isWithin 2 = .ok (.if_icmp .lt 12, 3) := by decide +kernel
theorem dX10_isWithin_5 : decode cX10_isWithin 5 = .ok (.iload_n 0, 1) := by decide +kernel
theorem dX10_isWithin_6 : decode cX10_isWithin 6 = .ok (.iload_n 2, 1) := by decide +kernel
theorem dX10_isWithin_7 : decode cX10_isWithin 7 = .ok (.if_icmp .gt 7, 3) := by decide +kernel
theorem dX10_isWithin_10 : decode cX10_isWithin 10 = .ok (.iconst 1, 1) := by decide +kernel
theorem dX10_isWithin_11 : decode cX10_isWithin 11 = .ok (.goto 4, 3) := by decide +kernel
theorem dX10_isWithin_14 : decode cX10_isWithin 14 = .ok (.iconst 0, 1) := by decide +kernel
theorem dX10_isWithin_15 : decode cX10_isWithin 15 = .ok (.ireturn, 1) := by decide +kernel
theorem dX10_isLine_0 : decode cX10_isLine 0 = .ok (.iload_n 0, 1) := by decide +kernel
theorem dX10_isLine_1 : decode cX10_isLine 1 = .ok (.iconst 0, 1) := by decide +kernel
theorem dX10_isLine_2 : decode cX10_isLine 2 = .ok (.bipush 7, 2) := by decide +kernel
theorem dX10_isLine_4 : decode cX10_isLine 4 = .ok (.invokestatic 105, 3) := by decide +kernel
theorem dX10_isLine_7 : decode cX10_isLine 7 = .ok (.ireturn, 1) := by decide +kernel
theorem dX10_isPlace_0 : decode cX10_isPlace 0 = .ok (.iload_n 0, 1) := by decide +kernel
theorem dX10_isPlace_1 : decode cX10_isPlace 1 = .ok (.invokestatic 101, 3) := by decide +kernel
theorem dX10_isPlace_4 : decode cX10_isPlace 4 = .ok (.ifCond .eq 17, 3) := by decide +kernel
theorem dX10_isPlace_7 : decode cX10_isPlace 7 = .ok (.iload_n 1, 1) := by decide +kernel
theorem dX10_isPlace_8 : decode cX10_isPlace 8 = .ok (.iconst 0, 1) := by decide +kernel
theorem dX10_isPlace_9 : decode cX10_isPlace 9 = .ok (.bipush 9, 2) := by decide +kernel
theorem dX10_isPlace_11 : decode cX10_isPlace 11 = .ok (.invokestatic 105, 3) := by decide +kernel
theorem dX10_isPlace_14 : decode cX10_isPlace 14 = .ok (.ifCond .eq 7, 3) := by decide +kernel
theorem dX10_isPlace_17 : decode cX10_isPlace 17 = .ok (.iconst 1, 1) := by decide +kernel
theorem dX10_isPlace_18 : decode cX10_isPlace 18 = .ok (.goto 4, 3) := by decide +kernel
theorem dX10_isPlace_21 : decode cX10_isPlace 21 = .ok (.iconst 0, 1) := by decide +kernel
theorem dX10_isPlace_22 : decode cX10_isPlace 22 = .ok (.ireturn, 1) := by decide +kernel
theorem dX10_isPaint_0 : decode cX10_isPaint 0 = .ok (.iload_n 0, 1) := by decide +kernel
theorem dX10_isPaint_1 : decode cX10_isPaint 1 = .ok (.iconst 0, 1) := by decide +kernel
theorem dX10_isPaint_2 : decode cX10_isPaint 2 = .ok (.sipush 200, 3) := by decide +kernel
theorem dX10_isPaint_5 : decode cX10_isPaint 5 = .ok (.invokestatic 105, 3) := by decide +kernel
theorem dX10_isPaint_8 : decode cX10_isPaint 8 = .ok (.ifCond .eq 29, 3) := by decide +kernel
theorem dX10_isPaint_11 : decode cX10_isPaint 11 = .ok (.iload_n 1, 1) := by decide +kernel
theorem dX10_isPaint_12 : decode cX10_isPaint 12 = .ok (.bipush (-60), 2) := by decide +kernel
theorem dX10_isPaint_14 : decode cX10_isPaint 14 = .ok (.bipush 60, 2) := by decide +kernel
theorem dX10_isPaint_16 : decode cX10_isPaint 16 = .ok (.invokestatic 105, 3) := by decide +kernel
theorem dX10_isPaint_19 : decode cX10_isPaint 19 = .ok (.ifCond .eq 18, 3) := by decide +kernel
theorem dX10_isPaint_22 : decode cX10_isPaint 22 = .ok (.iload_n 2, 1) := by decide +kernel
theorem dX10_isPaint_23 : decode cX10_isPaint 23 = .ok (.bipush (-60), 2) := by decide +kernel
theorem dX10_isPaint_25 : decode cX10_isPaint 25 = .ok (.bipush 60, 2) := by decide +kernel
theorem dX10_isPaint_27 : decode cX10_isPaint 27 = .ok (.invokestatic 105, 3) := by decide +kernel
theorem dX10_isPaint_30 : decode cX10_isPaint 30 = .ok (.ifCond .eq 7, 3) := by decide +kernel
theorem dX10_isPaint_33 : decode cX10_isPaint 33 = .ok (.iconst 1, 1) := by decide +kernel
theorem dX10_isPaint_34 : decode cX10_isPaint 34 = .ok (.goto 4, 3) := by decide +kernel
theorem dX10_isPaint_37 : decode cX10_isPaint 37 = .ok (.iconst 0, 1) := by decide +kernel
theorem dX10_isPaint_38 : decode cX10_isPaint 38 = .ok (.ireturn, 1) := by decide +kernel
theorem dX10_placeOf_0 : decode cX10_placeOf 0 = .ok (.iload_n 0, 1) := by decide +kernel
theorem dX10_placeOf_1 : decode cX10_placeOf 1 = .ok (.bipush 10, 2) := by decide +kernel
theorem dX10_placeOf_3 : decode cX10_placeOf 3 = .ok (.imul, 1) := by decide +kernel
theorem dX10_placeOf_4 : decode cX10_placeOf 4 = .ok (.iload_n 1, 1) := by decide +kernel
theorem dX10_placeOf_5 : decode cX10_placeOf 5 = .ok (.iadd, 1) := by decide +kernel
theorem dX10_placeOf_6 : decode cX10_placeOf 6 = .ok (.ireturn, 1) := by decide +kernel
theorem dX10_turnAt_0 : decode cX10_turnAt 0 = .ok (.iload_n 1, 1) := by decide +kernel
theorem dX10_turnAt_1 : decode cX10_turnAt 1 = .ok (.iconst 2, 1) := by decide +kernel
theorem dX10_turnAt_2 : decode cX10_turnAt 2 = .ok (.iload_n 0, 1) := by decide +kernel
theorem dX10_turnAt_3 : decode cX10_turnAt 3 = .ok (.imul, 1) := by decide +kernel
theorem dX10_turnAt_4 : decode cX10_turnAt 4 = .ok (.iadd, 1) := by decide +kernel
theorem dX10_turnAt_5 : decode cX10_turnAt 5 = .ok (.iconst 3, 1) := by decide +kernel
theorem dX10_turnAt_6 : decode cX10_turnAt 6 = .ok (.iand, 1) := by decide +kernel
theorem dX10_turnAt_7 : decode cX10_turnAt 7 = .ok (.ireturn, 1) := by decide +kernel
theorem dJ9_floorDiv_7cf53_0 : decode cJ9_floorDiv_7cf53 0 = .ok (.iload_n 0, 1) := by decide +kernel
theorem dJ9_floorDiv_7cf53_1 : decode cJ9_floorDiv_7cf53 1 = .ok (.iload_n 1, 1) := by decide +kernel
theorem dJ9_floorDiv_7cf53_2 : decode cJ9_floorDiv_7cf53 2 = .ok (.idiv, 1) := by decide +kernel
theorem dJ9_floorDiv_7cf53_3 : decode cJ9_floorDiv_7cf53 3 = .ok (.istore_n 2, 1) := by decide +kernel
theorem dJ9_floorDiv_7cf53_4 : decode cJ9_floorDiv_7cf53 4 = .ok (.iload_n 0, 1) := by decide +kernel
theorem dJ9_floorDiv_7cf53_5 : decode cJ9_floorDiv_7cf53 5 = .ok (.iload_n 1, 1) := by decide +kernel
theorem dJ9_floorDiv_7cf53_6 : decode cJ9_floorDiv_7cf53 6 = .ok (.ixor, 1) := by decide +kernel
theorem dJ9_floorDiv_7cf53_7 : decode cJ9_floorDiv_7cf53 7 = .ok (.ifCond .ge 14, 3) := by decide +kernel
theorem dJ9_floorDiv_7cf53_10 : decode cJ9_floorDiv_7cf53 10 = .ok (.iload_n 2, 1) := by decide +kernel
theorem dJ9_floorDiv_7cf53_11 : decode cJ9_floorDiv_7cf53 11 = .ok (.iload_n 1, 1) := by decide +kernel
theorem dJ9_floorDiv_7cf53_12 : decode cJ9_floorDiv_7cf53 12 = .ok (.imul, 1) := by decide +kernel
theorem dJ9_floorDiv_7cf53_13 : decode cJ9_floorDiv_7cf53 13 = .ok (.iload_n 0, 1) := by decide +kernel
theorem dJ9_floorDiv_7cf53_14 : decode cJ9_floorDiv_7cf53 14 = .ok (.if_icmp .eq 7, 3) := by decide +kernel
theorem dJ9_floorDiv_7cf53_17 : decode cJ9_floorDiv_7cf53 17 = .ok (.iload_n 2, 1) := by decide +kernel
theorem dJ9_floorDiv_7cf53_18 : decode cJ9_floorDiv_7cf53 18 = .ok (.iconst 1, 1) := by decide +kernel
theorem dJ9_floorDiv_7cf53_19 : decode cJ9_floorDiv_7cf53 19 = .ok (.isub, 1) := by decide +kernel
theorem dJ9_floorDiv_7cf53_20 : decode cJ9_floorDiv_7cf53 20 = .ok (.ireturn, 1) := by decide +kernel
theorem dJ9_floorDiv_7cf53_21 : decode cJ9_floorDiv_7cf53 21 = .ok (.iload_n 2, 1) := by decide +kernel
theorem dJ9_floorDiv_7cf53_22 : decode cJ9_floorDiv_7cf53 22 = .ok (.ireturn, 1) := by decide +kernel
theorem dJ9_floorMod_7cf53_0 : decode cJ9_floorMod_7cf53 0 = .ok (.iload_n 0, 1) := by decide +kernel
theorem dJ9_floorMod_7cf53_1 : decode cJ9_floorMod_7cf53 1 = .ok (.iload_n 1, 1) := by decide +kernel
theorem dJ9_floorMod_7cf53_2 : decode cJ9_floorMod_7cf53 2 = .ok (.irem, 1) := by decide +kernel
theorem dJ9_floorMod_7cf53_3 : decode cJ9_floorMod_7cf53 3 = .ok (.istore_n 2, 1) := by decide +kernel
theorem dJ9_floorMod_7cf53_4 : decode cJ9_floorMod_7cf53 4 = .ok (.iload_n 0, 1) := by decide +kernel
theorem dJ9_floorMod_7cf53_5 : decode cJ9_floorMod_7cf53 5 = .ok (.iload_n 1, 1) := by decide +kernel
theorem dJ9_floorMod_7cf53_6 : decode cJ9_floorMod_7cf53 6 = .ok (.ixor, 1) := by decide +kernel
theorem dJ9_floorMod_7cf53_7 : decode cJ9_floorMod_7cf53 7 = .ok (.ifCond .ge 11, 3) := by decide +kernel
theorem dJ9_floorMod_7cf53_10 : decode cJ9_floorMod_7cf53 10 = .ok (.iload_n 2, 1) := by decide +kernel
theorem dJ9_floorMod_7cf53_11 : decode cJ9_floorMod_7cf53 11 = .ok (.ifCond .eq 7, 3) := by decide +kernel
theorem dJ9_floorMod_7cf53_14 : decode cJ9_floorMod_7cf53 14 = .ok (.iload_n 2, 1) := by decide +kernel
theorem dJ9_floorMod_7cf53_15 : decode cJ9_floorMod_7cf53 15 = .ok (.iload_n 1, 1) := by decide +kernel
theorem dJ9_floorMod_7cf53_16 : decode cJ9_floorMod_7cf53 16 = .ok (.iadd, 1) := by decide +kernel
theorem dJ9_floorMod_7cf53_17 : decode cJ9_floorMod_7cf53 17 = .ok (.ireturn, 1) := by decide +kernel
theorem dJ9_floorMod_7cf53_18 : decode cJ9_floorMod_7cf53 18 = .ok (.iload_n 2, 1) := by decide +kernel
theorem dJ9_floorMod_7cf53_19 : decode cJ9_floorMod_7cf53 19 = .ok (.ireturn, 1) := by decide +kernel
theorem dJ9_abs_0f7a4_0 : decode cJ9_abs_0f7a4 0 = .ok (.iload_n 0, 1) := by decide +kernel
theorem dJ9_abs_0f7a4_1 : decode cJ9_abs_0f7a4 1 = .ok (.ifCond .ge 8, 3) := by decide +kernel
theorem dJ9_abs_0f7a4_4 : decode cJ9_abs_0f7a4 4 = .ok (.iload_n 0, 1) := by decide +kernel
theorem dJ9_abs_0f7a4_5 : decode cJ9_abs_0f7a4 5 = .ok (.ineg, 1) := by decide +kernel
theorem dJ9_abs_0f7a4_6 : decode cJ9_abs_0f7a4 6 = .ok (.goto 4, 3) := by decide +kernel
theorem dJ9_abs_0f7a4_9 : decode cJ9_abs_0f7a4 9 = .ok (.iload_n 0, 1) := by decide +kernel
theorem dJ9_abs_0f7a4_10 : decode cJ9_abs_0f7a4 10 = .ok (.ireturn, 1) := by decide +kernel
theorem dL_cell_0 : decode cL_cell 0 = .ok (.iload_n 1, 1) := by decide +kernel
theorem dL_cell_1 : decode cL_cell 1 = .ok (.aload_n 0, 1) := by decide +kernel
theorem dL_cell_2 : decode cL_cell 2 = .ok (.arraylength, 1) := by decide +kernel
theorem dL_cell_3 : decode cL_cell 3 = .ok (.if_icmp .ge 9, 3) := by decide +kernel
theorem dL_cell_6 : decode cL_cell 6 = .ok (.aload_n 0, 1) := by decide +kernel
theorem dL_cell_7 : decode cL_cell 7 = .ok (.iload_n 1, 1) := by decide +kernel
theorem dL_cell_8 : decode cL_cell 8 = .ok (.iaload, 1) := by decide +kernel
theorem dL_cell_9 : decode cL_cell 9 = .ok (.goto 11, 3) := by decide +kernel
theorem dL_cell_12 : decode cL_cell 12 = .ok (.ldc 7, 2) := by decide +kernel
theorem dL_cell_14 : decode cL_cell 14 = .ok (.iload_n 1, 1) := by decide +kernel
theorem dL_cell_15 : decode cL_cell 15 = .ok (.imul, 1) := by decide +kernel
theorem dL_cell_16 : decode cL_cell 16 = .ok (.sipush 5807, 3) := by decide +kernel
theorem dL_cell_19 : decode cL_cell 19 = .ok (.iadd, 1) := by decide +kernel
theorem dL_cell_20 : decode cL_cell 20 = .ok (.ireturn, 1) := by decide +kernel
theorem dL_low_0 : decode cL_low 0 = .ok (.iload_n 0, 1) := by decide +kernel
theorem dL_low_1 : decode cL_low 1 = .ok (.ldc 8, 2) := by decide +kernel
theorem dL_low_3 : decode cL_low 3 = .ok (.iand, 1) := by decide +kernel
theorem dL_low_4 : decode cL_low 4 = .ok (.iload_n 1, 1) := by decide +kernel
theorem dL_low_5 : decode cL_low 5 = .ok (.irem, 1) := by decide +kernel
theorem dL_low_6 : decode cL_low 6 = .ok (.ireturn, 1) := by decide +kernel
theorem dL_size_0 : decode cL_size 0 = .ok (.iload_n 0, 1) := by decide +kernel
theorem dL_size_1 : decode cL_size 1 = .ok (.ifCond .ge 8, 3) := by decide +kernel
theorem dL_size_4 : decode cL_size 4 = .ok (.iload_n 0, 1) := by decide +kernel
theorem dL_size_5 : decode cL_size 5 = .ok (.ineg, 1) := by decide +kernel
theorem dL_size_6 : decode cL_size 6 = .ok (.goto 4, 3) := by decide +kernel
theorem dL_size_9 : decode cL_size 9 = .ok (.iload_n 0, 1) := by decide +kernel
theorem dL_size_10 : decode cL_size 10 = .ok (.ireturn, 1) := by decide +kernel
theorem dL_floor_0 : decode cL_floor 0 = .ok (.iload_n 0, 1) := by decide +kernel
theorem dL_floor_1 : decode cL_floor 1 = .ok (.iload_n 0, 1) := by decide +kernel
theorem dL_floor_2 : decode cL_floor 2 = .ok (.iload_n 1, 1) := by decide +kernel
theorem dL_floor_3 : decode cL_floor 3 = .ok (.irem, 1) := by decide +kernel
theorem dL_floor_4 : decode cL_floor 4 = .ok (.iload_n 1, 1) := by decide +kernel
theorem dL_floor_5 : decode cL_floor 5 = .ok (.iadd, 1) := by decide +kernel
theorem dL_floor_6 : decode cL_floor 6 = .ok (.iload_n 1, 1) := by decide +kernel
theorem dL_floor_7 : decode cL_floor 7 = .ok (.irem, 1) := by decide +kernel
theorem dL_floor_8 : decode cL_floor 8 = .ok (.isub, 1) := by decide +kernel
theorem dL_floor_9 : decode cL_floor 9 = .ok (.iload_n 1, 1) := by decide +kernel
theorem dL_floor_10 : decode cL_floor 10 = .ok (.idiv, 1) := by decide +kernel
theorem dL_floor_11 : decode cL_floor 11 = .ok (.ireturn, 1) := by decide +kernel
theorem dL_at_0 : decode cL_at 0 = .ok (.iload_n 2, 1) := by decide +kernel
theorem dL_at_1 : decode cL_at 1 = .ok (.ifCond .lt 9, 3) := by decide +kernel
theorem dL_at_4 : decode cL_at 4 = .ok (.iload_n 2, 1) := by decide +kernel
theorem dL_at_5 : decode cL_at 5 = .ok (.bipush 111, 2) := by decide +kernel
theorem dL_at_7 : decode cL_at 7 = .ok (.if_icmp .le 7, 3) := by decide +kernel
theorem dL_at_10 : decode cL_at 10 = .ok (.iconst 0, 1) := by decide +kernel
theorem dL_at_11 : decode cL_at 11 = .ok (.goto 9, 3) := by decide +kernel
theorem dL_at_14 : decode cL_at 14 = .ok (.aload_n 0, 1) := by decide +kernel
theorem dL_at_15 : decode cL_at 15 = .ok (.iload_n 1, 1) := by decide +kernel
theorem dL_at_16 : decode cL_at 16 = .ok (.iload_n 2, 1) := by decide +kernel
theorem dL_at_17 : decode cL_at 17 = .ok (.invokevirtual 9, 3) := by decide +kernel
theorem dL_at_20 : decode cL_at 20 = .ok (.ireturn, 1) := by decide +kernel
theorem dL_sine_0 : decode cL_sine 0 = .ok (.iload_n 0, 1) := by decide +kernel
theorem dL_sine_1 : decode cL_sine 1 = .ok (.iconst 1, 1) := by decide +kernel
theorem dL_sine_2 : decode cL_sine 2 = .ok (.iand, 1) := by decide +kernel
theorem dL_sine_3 : decode cL_sine 3 = .ok (.ifCond .ne 7, 3) := by decide +kernel
theorem dL_sine_6 : decode cL_sine 6 = .ok (.iconst 0, 1) := by decide +kernel
theorem dL_sine_7 : decode cL_sine 7 = .ok (.goto 14, 3) := by decide +kernel
theorem dL_sine_10 : decode cL_sine 10 = .ok (.iload_n 0, 1) := by decide +kernel
theorem dL_sine_11 : decode cL_sine 11 = .ok (.iconst 2, 1) := by decide +kernel
theorem dL_sine_12 : decode cL_sine 12 = .ok (.iand, 1) := by decide +kernel
theorem dL_sine_13 : decode cL_sine 13 = .ok (.ifCond .ne 7, 3) := by decide +kernel
theorem dL_sine_16 : decode cL_sine 16 = .ok (.iconst 1, 1) := by decide +kernel
theorem dL_sine_17 : decode cL_sine 17 = .ok (.goto 4, 3) := by decide +kernel
theorem dL_sine_20 : decode cL_sine 20 = .ok (.iconst (-1), 1) := by decide +kernel
theorem dL_sine_21 : decode cL_sine 21 = .ok (.ireturn, 1) := by decide +kernel
theorem dL_cosine_0 : decode cL_cosine 0 = .ok (.iload_n 0, 1) := by decide +kernel
theorem dL_cosine_1 : decode cL_cosine 1 = .ok (.iconst 1, 1) := by decide +kernel
theorem dL_cosine_2 : decode cL_cosine 2 = .ok (.iadd, 1) := by decide +kernel
theorem dL_cosine_3 : decode cL_cosine 3 = .ok (.invokestatic 15, 3) := by decide +kernel
theorem dL_cosine_6 : decode cL_cosine 6 = .ok (.ireturn, 1) := by decide +kernel
theorem dL_lines_0 : decode cL_lines 0 = .ok (.bipush 32, 2) := by decide +kernel
theorem dL_lines_2 : decode cL_lines 2 = .ok (.istore_n 2, 1) := by decide +kernel
theorem dL_lines_3 : decode cL_lines 3 = .ok (.iconst 0, 1) := by decide +kernel
theorem dL_lines_4 : decode cL_lines 4 = .ok (.istore_n 3, 1) := by decide +kernel
theorem dL_lines_5 : decode cL_lines 5 = .ok (.iconst 0, 1) := by decide +kernel
theorem dL_lines_6 : decode cL_lines 6 = .ok (.istore 4, 2) := by decide +kernel
theorem dL_lines_8 : decode cL_lines 8 = .ok (.iconst 0, 1) := by decide +kernel
theorem dL_lines_9 : decode cL_lines 9 = .ok (.istore 5, 2) := by decide +kernel
theorem dL_lines_11 : decode cL_lines 11 = .ok (.iconst 0, 1) := by decide +kernel
theorem dL_lines_12 : decode cL_lines 12 = .ok (.istore 6, 2) := by decide +kernel
theorem dL_lines_14 : decode cL_lines 14 = .ok (.iconst 0, 1) := by decide +kernel
theorem dL_lines_15 : decode cL_lines 15 = .ok (.istore 7, 2) := by decide +kernel
theorem dL_lines_17 : decode cL_lines 17 = .ok (.iconst 1, 1) := by decide +kernel
theorem dL_lines_18 : decode cL_lines 18 = .ok (.istore 8, 2) := by decide +kernel
theorem dL_lines_20 : decode cL_lines 20 = .ok (.iconst 0, 1) := by decide +kernel
theorem dL_lines_21 : decode cL_lines 21 = .ok (.istore 9, 2) := by decide +kernel
theorem dL_lines_23 : decode cL_lines 23 = .ok (.iconst 0, 1) := by decide +kernel
theorem dL_lines_24 : decode cL_lines 24 = .ok (.istore 10, 2) := by decide +kernel
theorem dL_lines_26 : decode cL_lines 26 = .ok (.iconst 0, 1) := by decide +kernel
theorem dL_lines_27 : decode cL_lines 27 = .ok (.istore 11, 2) := by decide +kernel
theorem dL_lines_29 : decode cL_lines 29 = .ok (.iconst 0, 1) := by decide +kernel
theorem dL_lines_30 : decode cL_lines 30 = .ok (.istore 12, 2) := by decide +kernel
theorem dL_lines_32 : decode cL_lines 32 = .ok (.iconst 0, 1) := by decide +kernel
theorem dL_lines_33 : decode cL_lines 33 = .ok (.istore 13, 2) := by decide +kernel
theorem dL_lines_35 : decode cL_lines 35 = .ok (.iload 13, 2) := by decide +kernel
theorem dL_lines_37 : decode cL_lines 37 = .ok (.bipush 8, 2) := by decide +kernel
theorem dL_lines_39 : decode cL_lines 39 = .ok (.if_icmp .ge 691, 3) := by decide +kernel
theorem dL_lines_42 : decode cL_lines 42 = .ok (.ldc 21, 2) := by decide +kernel
theorem dL_lines_44 : decode cL_lines 44 = .ok (.istore 14, 2) := by decide +kernel
theorem dL_lines_46 : decode cL_lines 46 = .ok (.bipush 20, 2) := by decide +kernel
theorem dL_lines_48 : decode cL_lines 48 = .ok (.istore 15, 2) := by decide +kernel
theorem dL_lines_50 : decode cL_lines 50 = .ok (.iload 15, 2) := by decide +kernel
theorem dL_lines_52 : decode cL_lines 52 = .ok (.ifCond .lt 88, 3) := by decide +kernel
theorem dL_lines_55 : decode cL_lines 55 = .ok (.aload_n 0, 1) := by decide +kernel
theorem dL_lines_56 : decode cL_lines 56 = .ok (.iload 13, 2) := by decide +kernel
theorem dL_lines_58 : decode cL_lines 58 = .ok (.iload 15, 2) := by decide +kernel
theorem dL_lines_60 : decode cL_lines 60 = .ok (.invokestatic 22, 3) := by decide +kernel
theorem dL_lines_63 : decode cL_lines 63 = .ok (.bipush (-20), 2) := by decide +kernel
theorem dL_lines_65 : decode cL_lines 65 = .ok (.if_icmp .gt 52, 3) := by decide +kernel
theorem dL_lines_68 : decode cL_lines 68 = .ok (.aload_n 0, 1) := by decide +kernel
theorem dL_lines_69 : decode cL_lines 69 = .ok (.iload 13, 2) := by decide +kernel
theorem dL_lines_71 : decode cL_lines 71 = .ok (.iload 15, 2) := by decide +kernel
theorem dL_lines_73 : decode cL_lines 73 = .ok (.iconst 1, 1) := by decide +kernel
theorem dL_lines_74 : decode cL_lines 74 = .ok (.iadd, 1) := by decide +kernel
theorem dL_lines_75 : decode cL_lines 75 = .ok (.invokestatic 22, 3) := by decide +kernel
theorem dL_lines_78 : decode cL_lines 78 = .ok (.bipush (-20), 2) := by decide +kernel
theorem dL_lines_80 : decode cL_lines 80 = .ok (.if_icmp .gt 37, 3) := by decide +kernel
theorem dL_lines_83 : decode cL_lines 83 = .ok (.aload_n 0, 1) := by decide +kernel
theorem dL_lines_84 : decode cL_lines 84 = .ok (.iload 13, 2) := by decide +kernel
theorem dL_lines_86 : decode cL_lines 86 = .ok (.iload 15, 2) := by decide +kernel
theorem dL_lines_88 : decode cL_lines 88 = .ok (.iconst 2, 1) := by decide +kernel
theorem dL_lines_89 : decode cL_lines 89 = .ok (.iadd, 1) := by decide +kernel
theorem dL_lines_90 : decode cL_lines 90 = .ok (.invokestatic 22, 3) := by decide +kernel
theorem dL_lines_93 : decode cL_lines 93 = .ok (.bipush (-20), 2) := by decide +kernel
theorem dL_lines_95 : decode cL_lines 95 = .ok (.if_icmp .gt 22, 3) := by decide +kernel
theorem dL_lines_98 : decode cL_lines 98 = .ok (.aload_n 0, 1) := by decide +kernel
theorem dL_lines_99 : decode cL_lines 99 = .ok (.iload 13, 2) := by decide +kernel
theorem dL_lines_101 : decode cL_lines 101 = .ok (.iload 15, 2) := by decide +kernel
theorem dL_lines_103 : decode cL_lines 103 = .ok (.iconst 3, 1) := by decide +kernel
theorem dL_lines_104 : decode cL_lines 104 = .ok (.iadd, 1) := by decide +kernel
theorem dL_lines_105 : decode cL_lines 105 = .ok (.invokestatic 22, 3) := by decide +kernel
theorem dL_lines_108 : decode cL_lines 108 = .ok (.bipush (-20), 2) := by decide +kernel
theorem dL_lines_110 : decode cL_lines 110 = .ok (.if_icmp .gt 7, 3) := by decide +kernel
theorem dL_lines_113 : decode cL_lines 113 = .ok (.iconst 1, 1) := by decide +kernel
theorem dL_lines_114 : decode cL_lines 114 = .ok (.goto 4, 3) := by decide +kernel
theorem dL_lines_117 : decode cL_lines 117 = .ok (.iconst 0, 1) := by decide +kernel
theorem dL_lines_118 : decode cL_lines 118 = .ok (.istore 16, 2) := by decide +kernel
theorem dL_lines_120 : decode cL_lines 120 = .ok (.iload 16, 2) := by decide +kernel
theorem dL_lines_122 : decode cL_lines 122 = .ok (.ifCond .eq 8, 3) := by decide +kernel
theorem dL_lines_125 : decode cL_lines 125 = .ok (.iload 15, 2) := by decide +kernel
theorem dL_lines_127 : decode cL_lines 127 = .ok (.goto 5, 3) := by decide +kernel
theorem dL_lines_130 : decode cL_lines 130 = .ok (.iload 14, 2) := by decide +kernel
theorem dL_lines_132 : decode cL_lines 132 = .ok (.istore 14, 2) := by decide +kernel
theorem dL_lines_134 : decode cL_lines 134 = .ok (.iinc 15 (-1), 3) := by decide +kernel
theorem dL_lines_137 : decode cL_lines 137 = .ok (.goto (-87), 3) := by decide +kernel
theorem dL_lines_140 : decode cL_lines 140 = .ok (.iconst 4, 1) := by decide +kernel
theorem dL_lines_141 : decode cL_lines 141 = .ok (.iload 14, 2) := by decide +kernel
theorem dL_lines_143 : decode cL_lines 143 = .ok (.imul, 1) := by decide +kernel
theorem dL_lines_144 : decode cL_lines 144 = .ok (.iload_n 2, 1) := by decide +kernel
theorem dL_lines_145 : decode cL_lines 145 = .ok (.isub, 1) := by decide +kernel
theorem dL_lines_146 : decode cL_lines 146 = .ok (.istore 15, 2) := by decide +kernel
theorem dL_lines_148 : decode cL_lines 148 = .ok (.iload 14, 2) := by decide +kernel
theorem dL_lines_150 : decode cL_lines 150 = .ok (.ifCond .lt 21, 3) := by decide +kernel
theorem dL_lines_153 : decode cL_lines 153 = .ok (.iload 15, 2) := by decide +kernel
theorem dL_lines_155 : decode cL_lines 155 = .ok (.bipush (-12), 2) := by decide +kernel
theorem dL_lines_157 : decode cL_lines 157 = .ok (.if_icmp .lt 14, 3) := by decide +kernel
theorem dL_lines_160 : decode cL_lines 160 = .ok (.iload 15, 2) := by decide +kernel
theorem dL_lines_162 : decode cL_lines 162 = .ok (.bipush 12, 2) := by decide +kernel
theorem dL_lines_164 : decode cL_lines 164 = .ok (.if_icmp .gt 7, 3) := by decide +kernel
theorem dL_lines_167 : decode cL_lines 167 = .ok (.iconst 1, 1) := by decide +kernel
theorem dL_lines_168 : decode cL_lines 168 = .ok (.goto 4, 3) := by decide +kernel
theorem dL_lines_171 : decode cL_lines 171 = .ok (.iconst 0, 1) := by decide +kernel
theorem dL_lines_172 : decode cL_lines 172 = .ok (.istore 16, 2) := by decide +kernel
theorem dL_lines_174 : decode cL_lines 174 = .ok (.iload 16, 2) := by decide +kernel
theorem dL_lines_176 : decode cL_lines 176 = .ok (.ifCond .eq 13, 3) := by decide +kernel
theorem dL_lines_179 : decode cL_lines 179 = .ok (.iload_n 2, 1) := by decide +kernel
theorem dL_lines_180 : decode cL_lines 180 = .ok (.iload 15, 2) := by decide +kernel
theorem dL_lines_182 : decode cL_lines 182 = .ok (.iconst 2, 1) := by decide +kernel
theorem dL_lines_183 : decode cL_lines 183 = .ok (.idiv, 1) := by decide +kernel
theorem dL_lines_184 : decode cL_lines 184 = .ok (.iadd, 1) := by decide +kernel
theorem dL_lines_185 : decode cL_lines 185 = .ok (.istore_n 2, 1) := by decide +kernel
theorem dL_lines_186 : decode cL_lines 186 = .ok (.goto 18, 3) := by decide +kernel
theorem dL_lines_189 : decode cL_lines 189 = .ok (.iload 14, 2) := by decide +kernel
theorem dL_lines_191 : decode cL_lines 191 = .ok (.ifCond .lt 13, 3) := by decide +kernel
theorem dL_lines_194 : decode cL_lines 194 = .ok (.iload 5, 2) := by decide +kernel
theorem dL_lines_196 : decode cL_lines 196 = .ok (.ifCond .ne 8, 3) := by decide +kernel
theorem dL_lines_199 : decode cL_lines 199 = .ok (.iconst 4, 1) := by decide +kernel
theorem dL_lines_200 : decode cL_lines 200 = .ok (.iload 14, 2) := by decide +kernel
theorem dL_lines_202 : decode cL_lines 202 = .ok (.imul, 1) := by decide +kernel
theorem dL_lines_203 : decode cL_lines 203 = .ok (.istore_n 2, 1) := by decide +kernel
theorem dL_lines_204 : decode cL_lines 204 = .ok (.iload 16, 2) := by decide +kernel
theorem dL_lines_206 : decode cL_lines 206 = .ok (.ifCond .eq 9, 3) := by decide +kernel
theorem dL_lines_209 : decode cL_lines 209 = .ok (.iload_n 3, 1) := by decide +kernel
theorem dL_lines_210 : decode cL_lines 210 = .ok (.iconst 1, 1) := by decide +kernel
theorem dL_lines_211 : decode cL_lines 211 = .ok (.iadd, 1) := by decide +kernel
theorem dL_lines_212 : decode cL_lines 212 = .ok (.goto 4, 3) := by decide +kernel
theorem dL_lines_215 : decode cL_lines 215 = .ok (.iconst 0, 1) := by decide +kernel
theorem dL_lines_216 : decode cL_lines 216 = .ok (.istore_n 3, 1) := by decide +kernel
theorem dL_lines_217 : decode cL_lines 217 = .ok (.iload 16, 2) := by decide +kernel
theorem dL_lines_219 : decode cL_lines 219 = .ok (.ifCond .eq 7, 3) := by decide +kernel
theorem dL_lines_222 : decode cL_lines 222 = .ok (.iconst 0, 1) := by decide +kernel
theorem dL_lines_223 : decode cL_lines 223 = .ok (.goto 7, 3) := by decide +kernel
theorem dL_lines_226 : decode cL_lines 226 = .ok (.iload 4, 2) := by decide +kernel
theorem dL_lines_228 : decode cL_lines 228 = .ok (.iconst 1, 1) := by decide +kernel
theorem dL_lines_229 : decode cL_lines 229 = .ok (.iadd, 1) := by decide +kernel
theorem dL_lines_230 : decode cL_lines 230 = .ok (.istore 4, 2) := by decide +kernel
theorem dL_lines_232 : decode cL_lines 232 = .ok (.iload 5, 2) := by decide +kernel
theorem dL_lines_234 : decode cL_lines 234 = .ok (.ifCond .ne 8, 3) := by decide +kernel
theorem dL_lines_237 : decode cL_lines 237 = .ok (.iload_n 3, 1) := by decide +kernel
theorem dL_lines_238 : decode cL_lines 238 = .ok (.iconst 2, 1) := by decide +kernel
theorem dL_lines_239 : decode cL_lines 239 = .ok (.if_icmp .lt 13, 3) := by decide +kernel
theorem dL_lines_242 : decode cL_lines 242 = .ok (.iload 4, 2) := by decide +kernel
theorem dL_lines_244 : decode cL_lines 244 = .ok (.iconst 4, 1) := by decide +kernel
theorem dL_lines_245 : decode cL_lines 245 = .ok (.if_icmp .ge 7, 3) := by decide +kernel
theorem dL_lines_248 : decode cL_lines 248 = .ok (.iconst 1, 1) := by decide +kernel
theorem dL_lines_249 : decode cL_lines 249 = .ok (.goto 4, 3) := by decide +kernel
theorem dL_lines_252 : decode cL_lines 252 = .ok (.iconst 0, 1) := by decide +kernel
theorem dL_lines_253 : decode cL_lines 253 = .ok (.istore 5, 2) := by decide +kernel
theorem dL_lines_255 : decode cL_lines 255 = .ok (.iload 9, 2) := by decide +kernel
theorem dL_lines_257 : decode cL_lines 257 = .ok (.iload 5, 2) := by decide +kernel
theorem dL_lines_259 : decode cL_lines 259 = .ok (.ifCond .eq 7, 3) := by decide +kernel
theorem dL_lines_262 : decode cL_lines 262 = .ok (.iconst 1, 1) := by decide +kernel
theorem dL_lines_263 : decode cL_lines 263 = .ok (.goto 4, 3) := by decide +kernel
theorem dL_lines_266 : decode cL_lines 266 = .ok (.iconst 0, 1) := by decide +kernel
theorem dL_lines_267 : decode cL_lines 267 = .ok (.iadd, 1) := by decide +kernel
theorem dL_lines_268 : decode cL_lines 268 = .ok (.istore 9, 2) := by decide +kernel
theorem dL_lines_270 : decode cL_lines 270 = .ok (.iload 5, 2) := by decide +kernel
theorem dL_lines_272 : decode cL_lines 272 = .ok (.ifCond .ne 8, 3) := by decide +kernel
theorem dL_lines_275 : decode cL_lines 275 = .ok (.iload 14, 2) := by decide +kernel
theorem dL_lines_277 : decode cL_lines 277 = .ok (.ifCond .ge 13, 3) := by decide +kernel
theorem dL_lines_280 : decode cL_lines 280 = .ok (.iload_n 2, 1) := by decide +kernel
theorem dL_lines_281 : decode cL_lines 281 = .ok (.iconst 2, 1) := by decide +kernel
theorem dL_lines_282 : decode cL_lines 282 = .ok (.iadd, 1) := by decide +kernel
theorem dL_lines_283 : decode cL_lines 283 = .ok (.iconst 4, 1) := by decide +kernel
theorem dL_lines_284 : decode cL_lines 284 = .ok (.invokestatic 26, 3) := by decide +kernel
theorem dL_lines_287 : decode cL_lines 287 = .ok (.goto 5, 3) := by decide +kernel
theorem dL_lines_290 : decode cL_lines 290 = .ok (.iload 14, 2) := by decide +kernel
theorem dL_lines_292 : decode cL_lines 292 = .ok (.istore 17, 2) := by decide +kernel
theorem dL_lines_294 : decode cL_lines 294 = .ok (.iconst 0, 1) := by decide +kernel
theorem dL_lines_295 : decode cL_lines 295 = .ok (.istore 18, 2) := by decide +kernel
theorem dL_lines_297 : decode cL_lines 297 = .ok (.iconst 0, 1) := by decide +kernel
theorem dL_lines_298 : decode cL_lines 298 = .ok (.istore 19, 2) := by decide +kernel
theorem dL_lines_300 : decode cL_lines 300 = .ok (.iload 17, 2) := by decide +kernel
theorem dL_lines_302 : decode cL_lines 302 = .ok (.bipush 8, 2) := by decide +kernel
theorem dL_lines_304 : decode cL_lines 304 = .ok (.iadd, 1) := by decide +kernel
theorem dL_lines_305 : decode cL_lines 305 = .ok (.istore 20, 2) := by decide +kernel
theorem dL_lines_307 : decode cL_lines 307 = .ok (.iload 20, 2) := by decide +kernel
theorem dL_lines_309 : decode cL_lines 309 = .ok (.iload 17, 2) := by decide +kernel
theorem dL_lines_311 : decode cL_lines 311 = .ok (.bipush 16, 2) := by decide +kernel
theorem dL_lines_313 : decode cL_lines 313 = .ok (.iadd, 1) := by decide +kernel
theorem dL_lines_314 : decode cL_lines 314 = .ok (.if_icmp .ge 57, 3) := by decide +kernel
theorem dL_lines_317 : decode cL_lines 317 = .ok (.iload 18, 2) := by decide +kernel
theorem dL_lines_319 : decode cL_lines 319 = .ok (.aload_n 0, 1) := by decide +kernel
theorem dL_lines_320 : decode cL_lines 320 = .ok (.iload 13, 2) := by decide +kernel
theorem dL_lines_322 : decode cL_lines 322 = .ok (.iload 20, 2) := by decide +kernel
theorem dL_lines_324 : decode cL_lines 324 = .ok (.invokestatic 22, 3) := by decide +kernel
theorem dL_lines_327 : decode cL_lines 327 = .ok (.iload 20, 2) := by decide +kernel
theorem dL_lines_329 : decode cL_lines 329 = .ok (.iconst 2, 1) := by decide +kernel
theorem dL_lines_330 : decode cL_lines 330 = .ok (.iload 13, 2) := by decide +kernel
theorem dL_lines_332 : decode cL_lines 332 = .ok (.imul, 1) := by decide +kernel
theorem dL_lines_333 : decode cL_lines 333 = .ok (.iadd, 1) := by decide +kernel
theorem dL_lines_334 : decode cL_lines 334 = .ok (.invokestatic 15, 3) := by decide +kernel
theorem dL_lines_337 : decode cL_lines 337 = .ok (.imul, 1) := by decide +kernel
theorem dL_lines_338 : decode cL_lines 338 = .ok (.iadd, 1) := by decide +kernel
theorem dL_lines_339 : decode cL_lines 339 = .ok (.istore 18, 2) := by decide +kernel
theorem dL_lines_341 : decode cL_lines 341 = .ok (.iload 19, 2) := by decide +kernel
theorem dL_lines_343 : decode cL_lines 343 = .ok (.aload_n 0, 1) := by decide +kernel
theorem dL_lines_344 : decode cL_lines 344 = .ok (.iload 13, 2) := by decide +kernel
theorem dL_lines_346 : decode cL_lines 346 = .ok (.iload 20, 2) := by decide +kernel
theorem dL_lines_348 : decode cL_lines 348 = .ok (.invokestatic 22, 3) := by decide +kernel
theorem dL_lines_351 : decode cL_lines 351 = .ok (.iload 20, 2) := by decide +kernel
theorem dL_lines_353 : decode cL_lines 353 = .ok (.iconst 2, 1) := by decide +kernel
theorem dL_lines_354 : decode cL_lines 354 = .ok (.iload 13, 2) := by decide +kernel
theorem dL_lines_356 : decode cL_lines 356 = .ok (.imul, 1) := by decide +kernel
theorem dL_lines_357 : decode cL_lines 357 = .ok (.iadd, 1) := by decide +kernel
theorem dL_lines_358 : decode cL_lines 358 = .ok (.invokestatic 29, 3) := by decide +kernel
theorem dL_lines_361 : decode cL_lines 361 = .ok (.imul, 1) := by decide +kernel
theorem dL_lines_362 : decode cL_lines 362 = .ok (.iadd, 1) := by decide +kernel
theorem dL_lines_363 : decode cL_lines 363 = .ok (.istore 19, 2) := by decide +kernel
theorem dL_lines_365 : decode cL_lines 365 = .ok (.iinc 20 1, 3) := by decide +kernel
theorem dL_lines_368 : decode cL_lines 368 = .ok (.goto (-61), 3) := by decide +kernel
theorem dL_lines_371 : decode cL_lines 371 = .ok (.iload 18, 2) := by decide +kernel
theorem dL_lines_373 : decode cL_lines 373 = .ok (.invokestatic 32, 3) := by decide +kernel
theorem dL_lines_376 : decode cL_lines 376 = .ok (.iload 19, 2) := by decide +kernel
theorem dL_lines_378 : decode cL_lines 378 = .ok (.invokestatic 32, 3) := by decide +kernel
theorem dL_lines_381 : decode cL_lines 381 = .ok (.iadd, 1) := by decide +kernel
theorem dL_lines_382 : decode cL_lines 382 = .ok (.iconst 4, 1) := by decide +kernel
theorem dL_lines_383 : decode cL_lines 383 = .ok (.aload_n 0, 1) := by decide +kernel
theorem dL_lines_384 : decode cL_lines 384 = .ok (.bipush 15, 2) := by decide +kernel
theorem dL_lines_386 : decode cL_lines 386 = .ok (.invokevirtual 35, 3) := by decide +kernel
theorem dL_lines_389 : decode cL_lines 389 = .ok (.imul, 1) := by decide +kernel
theorem dL_lines_390 : decode cL_lines 390 = .ok (.if_icmp .lt 7, 3) := by decide +kernel
theorem dL_lines_393 : decode cL_lines 393 = .ok (.iconst 1, 1) := by decide +kernel
theorem dL_lines_394 : decode cL_lines 394 = .ok (.goto 4, 3) := by decide +kernel
theorem dL_lines_397 : decode cL_lines 397 = .ok (.iconst 0, 1) := by decide +kernel
theorem dL_lines_398 : decode cL_lines 398 = .ok (.istore 20, 2) := by decide +kernel
theorem dL_lines_400 : decode cL_lines 400 = .ok (.iload 20, 2) := by decide +kernel
theorem dL_lines_402 : decode cL_lines 402 = .ok (.ifCond .eq 10, 3) := by decide +kernel
theorem dL_lines_405 : decode cL_lines 405 = .ok (.iload 6, 2) := by decide +kernel
theorem dL_lines_407 : decode cL_lines 407 = .ok (.iconst 1, 1) := by decide +kernel
theorem dL_lines_408 : decode cL_lines 408 = .ok (.iadd, 1) := by decide +kernel
theorem dL_lines_409 : decode cL_lines 409 = .ok (.goto 4, 3) := by decide +kernel
theorem dL_lines_412 : decode cL_lines 412 = .ok (.iconst 0, 1) := by decide +kernel
theorem dL_lines_413 : decode cL_lines 413 = .ok (.istore 6, 2) := by decide +kernel
theorem dL_lines_415 : decode cL_lines 415 = .ok (.iload 20, 2) := by decide +kernel
theorem dL_lines_417 : decode cL_lines 417 = .ok (.ifCond .eq 7, 3) := by decide +kernel
theorem dL_lines_420 : decode cL_lines 420 = .ok (.iconst 0, 1) := by decide +kernel
theorem dL_lines_421 : decode cL_lines 421 = .ok (.goto 7, 3) := by decide +kernel
end
section
/-! decode rows, part 3 -/
theorem dL_lines_424 : decode cL_lines 424 = .ok (.iload 7, 2) := by decide +kernel
theorem dL_lines_426 : decode cL_lines 426 = .ok (.iconst 1, 1) := by decide +kernel
theorem dL_lines_427 : decode cL_lines 427 = .ok (.iadd, 1) := by decide +kernel
theorem dL_lines_428 : decode cL_lines 428 = .ok (.istore 7, 2) := by decide +kernel
theorem dL_lines_430 : decode cL_lines 430 = .ok (.iload 7, 2) := by decide +kernel
theorem dL_lines_432 : decode cL_lines 432 = .ok (.iconst 2, 1) := by decide +kernel
theorem dL_lines_433 : decode cL_lines 433 = .ok (.if_icmp .ge 18, 3) := by decide +kernel
theorem dL_lines_436 : decode cL_lines 436 = .ok (.iload 8, 2) := by decide +kernel
theorem dL_lines_438 : decode cL_lines 438 = .ok (.ifCond .ne 9, 3) := by decide +kernel
theorem dL_lines_441 : decode cL_lines 441 = .ok (.iload 6, 2) := by decide +kernel
theorem dL_lines_443 : decode cL_lines 443 = .ok (.iconst 1, 1) := by decide +kernel
theorem dL_lines_444 : decode cL_lines 444 = .ok (.if_icmp .le 7, 3) := by decide +kernel
theorem dL_lines_447 : decode cL_lines 447 = .ok (.iconst 1, 1) := by decide +kernel
theorem dL_lines_448 : decode cL_lines 448 = .ok (.goto 4, 3) := by decide +kernel
theorem dL_lines_451 : decode cL_lines 451 = .ok (.iconst 0, 1) := by decide +kernel
theorem dL_lines_452 : decode cL_lines 452 = .ok (.istore 8, 2) := by decide +kernel
theorem dL_lines_454 : decode cL_lines 454 = .ok (.iload 10, 2) := by decide +kernel
theorem dL_lines_456 : decode cL_lines 456 = .ok (.iload 8, 2) := by decide +kernel
theorem dL_lines_458 : decode cL_lines 458 = .ok (.ifCond .eq 7, 3) := by decide +kernel
theorem dL_lines_461 : decode cL_lines 461 = .ok (.iconst 1, 1) := by decide +kernel
theorem dL_lines_462 : decode cL_lines 462 = .ok (.goto 4, 3) := by decide +kernel
theorem dL_lines_465 : decode cL_lines 465 = .ok (.iconst 0, 1) := by decide +kernel
theorem dL_lines_466 : decode cL_lines 466 = .ok (.iadd, 1) := by decide +kernel
theorem dL_lines_467 : decode cL_lines 467 = .ok (.istore 10, 2) := by decide +kernel
theorem dL_lines_469 : decode cL_lines 469 = .ok (.aload_n 0, 1) := by decide +kernel
theorem dL_lines_470 : decode cL_lines 470 = .ok (.iload 13, 2) := by decide +kernel
theorem dL_lines_472 : decode cL_lines 472 = .ok (.iconst 0, 1) := by decide +kernel
theorem dL_lines_473 : decode cL_lines 473 = .ok (.invokevirtual 38, 3) := by decide +kernel
theorem dL_lines_476 : decode cL_lines 476 = .ok (.iload 14, 2) := by decide +kernel
theorem dL_lines_478 : decode cL_lines 478 = .ok (.if_icmp .ne 125, 3) := by decide +kernel
theorem dL_lines_481 : decode cL_lines 481 = .ok (.aload_n 0, 1) := by decide +kernel
theorem dL_lines_482 : decode cL_lines 482 = .ok (.iload 13, 2) := by decide +kernel
theorem dL_lines_484 : decode cL_lines 484 = .ok (.iconst 1, 1) := by decide +kernel
theorem dL_lines_485 : decode cL_lines 485 = .ok (.invokevirtual 38, 3) := by decide +kernel
theorem dL_lines_488 : decode cL_lines 488 = .ok (.iload 17, 2) := by decide +kernel
theorem dL_lines_490 : decode cL_lines 490 = .ok (.if_icmp .ne 113, 3) := by decide +kernel
theorem dL_lines_493 : decode cL_lines 493 = .ok (.aload_n 0, 1) := by decide +kernel
theorem dL_lines_494 : decode cL_lines 494 = .ok (.iload 13, 2) := by decide +kernel
theorem dL_lines_496 : decode cL_lines 496 = .ok (.iconst 2, 1) := by decide +kernel
theorem dL_lines_497 : decode cL_lines 497 = .ok (.invokevirtual 38, 3) := by decide +kernel
theorem dL_lines_500 : decode cL_lines 500 = .ok (.iload 5, 2) := by decide +kernel
theorem dL_lines_502 : decode cL_lines 502 = .ok (.ifCond .eq 7, 3) := by decide +kernel
theorem dL_lines_505 : decode cL_lines 505 = .ok (.iconst 1, 1) := by decide +kernel
theorem dL_lines_506 : decode cL_lines 506 = .ok (.goto 4, 3) := by decide +kernel
theorem dL_lines_509 : decode cL_lines 509 = .ok (.iconst 0, 1) := by decide +kernel
theorem dL_lines_510 : decode cL_lines 510 = .ok (.if_icmp .ne 93, 3) := by decide +kernel
theorem dL_lines_513 : decode cL_lines 513 = .ok (.aload_n 0, 1) := by decide +kernel
theorem dL_lines_514 : decode cL_lines 514 = .ok (.iload 13, 2) := by decide +kernel
theorem dL_lines_516 : decode cL_lines 516 = .ok (.iconst 3, 1) := by decide +kernel
theorem dL_lines_517 : decode cL_lines 517 = .ok (.invokevirtual 38, 3) := by decide +kernel
theorem dL_lines_520 : decode cL_lines 520 = .ok (.iload 18, 2) := by decide +kernel
theorem dL_lines_522 : decode cL_lines 522 = .ok (.if_icmp .ne 81, 3) := by decide +kernel
theorem dL_lines_525 : decode cL_lines 525 = .ok (.aload_n 0, 1) := by decide +kernel
theorem dL_lines_526 : decode cL_lines 526 = .ok (.iload 13, 2) := by decide +kernel
theorem dL_lines_528 : decode cL_lines 528 = .ok (.iconst 4, 1) := by decide +kernel
theorem dL_lines_529 : decode cL_lines 529 = .ok (.invokevirtual 38, 3) := by decide +kernel
theorem dL_lines_532 : decode cL_lines 532 = .ok (.iload 19, 2) := by decide +kernel
theorem dL_lines_534 : decode cL_lines 534 = .ok (.if_icmp .ne 69, 3) := by decide +kernel
theorem dL_lines_537 : decode cL_lines 537 = .ok (.aload_n 0, 1) := by decide +kernel
theorem dL_lines_538 : decode cL_lines 538 = .ok (.iload 13, 2) := by decide +kernel
theorem dL_lines_540 : decode cL_lines 540 = .ok (.iconst 5, 1) := by decide +kernel
theorem dL_lines_541 : decode cL_lines 541 = .ok (.invokevirtual 38, 3) := by decide +kernel
theorem dL_lines_544 : decode cL_lines 544 = .ok (.iload 20, 2) := by decide +kernel
theorem dL_lines_546 : decode cL_lines 546 = .ok (.ifCond .eq 7, 3) := by decide +kernel
theorem dL_lines_549 : decode cL_lines 549 = .ok (.iconst 1, 1) := by decide +kernel
theorem dL_lines_550 : decode cL_lines 550 = .ok (.goto 4, 3) := by decide +kernel
theorem dL_lines_553 : decode cL_lines 553 = .ok (.iconst 0, 1) := by decide +kernel
theorem dL_lines_554 : decode cL_lines 554 = .ok (.if_icmp .ne 49, 3) := by decide +kernel
theorem dL_lines_557 : decode cL_lines 557 = .ok (.aload_n 0, 1) := by decide +kernel
theorem dL_lines_558 : decode cL_lines 558 = .ok (.iload 13, 2) := by decide +kernel
theorem dL_lines_560 : decode cL_lines 560 = .ok (.bipush 6, 2) := by decide +kernel
theorem dL_lines_562 : decode cL_lines 562 = .ok (.invokevirtual 38, 3) := by decide +kernel
theorem dL_lines_565 : decode cL_lines 565 = .ok (.iload 8, 2) := by decide +kernel
theorem dL_lines_567 : decode cL_lines 567 = .ok (.ifCond .eq 7, 3) := by decide +kernel
theorem dL_lines_570 : decode cL_lines 570 = .ok (.iconst 1, 1) := by decide +kernel
theorem dL_lines_571 : decode cL_lines 571 = .ok (.goto 4, 3) := by decide +kernel
theorem dL_lines_574 : decode cL_lines 574 = .ok (.iconst 0, 1) := by decide +kernel
theorem dL_lines_575 : decode cL_lines 575 = .ok (.if_icmp .ne 28, 3) := by decide +kernel
theorem dL_lines_578 : decode cL_lines 578 = .ok (.aload_n 0, 1) := by decide +kernel
theorem dL_lines_579 : decode cL_lines 579 = .ok (.iload 13, 2) := by decide +kernel
theorem dL_lines_581 : decode cL_lines 581 = .ok (.bipush 7, 2) := by decide +kernel
theorem dL_lines_583 : decode cL_lines 583 = .ok (.invokevirtual 38, 3) := by decide +kernel
theorem dL_lines_586 : decode cL_lines 586 = .ok (.iload_n 2, 1) := by decide +kernel
theorem dL_lines_587 : decode cL_lines 587 = .ok (.if_icmp .ne 16, 3) := by decide +kernel
theorem dL_lines_590 : decode cL_lines 590 = .ok (.aload_n 0, 1) := by decide +kernel
theorem dL_lines_591 : decode cL_lines 591 = .ok (.iload 13, 2) := by decide +kernel
theorem dL_lines_593 : decode cL_lines 593 = .ok (.bipush 8, 2) := by decide +kernel
theorem dL_lines_595 : decode cL_lines 595 = .ok (.invokevirtual 38, 3) := by decide +kernel
theorem dL_lines_598 : decode cL_lines 598 = .ok (.ldc 41, 2) := by decide +kernel
theorem dL_lines_600 : decode cL_lines 600 = .ok (.if_icmp .eq 5, 3) := by decide +kernel
theorem dL_lines_603 : decode cL_lines 603 = .ok (.iconst 0, 1) := by decide +kernel
theorem dL_lines_604 : decode cL_lines 604 = .ok (.ireturn, 1) := by decide +kernel
theorem dL_lines_605 : decode cL_lines 605 = .ok (.iload 13, 2) := by decide +kernel
theorem dL_lines_607 : decode cL_lines 607 = .ok (.ifCond .le 117, 3) := by decide +kernel
theorem dL_lines_610 : decode cL_lines 610 = .ok (.iload 20, 2) := by decide +kernel
theorem dL_lines_612 : decode cL_lines 612 = .ok (.ifCond .eq 112, 3) := by decide +kernel
theorem dL_lines_615 : decode cL_lines 615 = .ok (.aload_n 0, 1) := by decide +kernel
theorem dL_lines_616 : decode cL_lines 616 = .ok (.iload 13, 2) := by decide +kernel
theorem dL_lines_618 : decode cL_lines 618 = .ok (.iconst 1, 1) := by decide +kernel
theorem dL_lines_619 : decode cL_lines 619 = .ok (.isub, 1) := by decide +kernel
theorem dL_lines_620 : decode cL_lines 620 = .ok (.iconst 5, 1) := by decide +kernel
theorem dL_lines_621 : decode cL_lines 621 = .ok (.invokevirtual 38, 3) := by decide +kernel
theorem dL_lines_624 : decode cL_lines 624 = .ok (.iconst 1, 1) := by decide +kernel
theorem dL_lines_625 : decode cL_lines 625 = .ok (.if_icmp .ne 99, 3) := by decide +kernel
theorem dL_lines_628 : decode cL_lines 628 = .ok (.aload_n 0, 1) := by decide +kernel
theorem dL_lines_629 : decode cL_lines 629 = .ok (.iload 13, 2) := by decide +kernel
theorem dL_lines_631 : decode cL_lines 631 = .ok (.iconst 1, 1) := by decide +kernel
theorem dL_lines_632 : decode cL_lines 632 = .ok (.isub, 1) := by decide +kernel
theorem dL_lines_633 : decode cL_lines 633 = .ok (.iconst 4, 1) := by decide +kernel
theorem dL_lines_634 : decode cL_lines 634 = .ok (.invokevirtual 38, 3) := by decide +kernel
theorem dL_lines_637 : decode cL_lines 637 = .ok (.istore 21, 2) := by decide +kernel
theorem dL_lines_639 : decode cL_lines 639 = .ok (.iload 19, 2) := by decide +kernel
theorem dL_lines_641 : decode cL_lines 641 = .ok (.ifCond .ge 8, 3) := by decide +kernel
theorem dL_lines_644 : decode cL_lines 644 = .ok (.iload 21, 2) := by decide +kernel
theorem dL_lines_646 : decode cL_lines 646 = .ok (.ifCond .gt 13, 3) := by decide +kernel
theorem dL_lines_649 : decode cL_lines 649 = .ok (.iload 19, 2) := by decide +kernel
theorem dL_lines_651 : decode cL_lines 651 = .ok (.ifCond .le 40, 3) := by decide +kernel
theorem dL_lines_654 : decode cL_lines 654 = .ok (.iload 21, 2) := by decide +kernel
theorem dL_lines_656 : decode cL_lines 656 = .ok (.ifCond .ge 35, 3) := by decide +kernel
theorem dL_lines_659 : decode cL_lines 659 = .ok (.iload 19, 2) := by decide +kernel
theorem dL_lines_661 : decode cL_lines 661 = .ok (.invokestatic 32, 3) := by decide +kernel
theorem dL_lines_664 : decode cL_lines 664 = .ok (.aload_n 0, 1) := by decide +kernel
theorem dL_lines_665 : decode cL_lines 665 = .ok (.bipush 15, 2) := by decide +kernel
theorem dL_lines_667 : decode cL_lines 667 = .ok (.invokevirtual 35, 3) := by decide +kernel
theorem dL_lines_670 : decode cL_lines 670 = .ok (.if_icmp .lt 21, 3) := by decide +kernel
theorem dL_lines_673 : decode cL_lines 673 = .ok (.iload 21, 2) := by decide +kernel
theorem dL_lines_675 : decode cL_lines 675 = .ok (.invokestatic 32, 3) := by decide +kernel
theorem dL_lines_678 : decode cL_lines 678 = .ok (.aload_n 0, 1) := by decide +kernel
theorem dL_lines_679 : decode cL_lines 679 = .ok (.bipush 15, 2) := by decide +kernel
theorem dL_lines_681 : decode cL_lines 681 = .ok (.invokevirtual 35, 3) := by decide +kernel
theorem dL_lines_684 : decode cL_lines 684 = .ok (.if_icmp .lt 7, 3) := by decide +kernel
theorem dL_lines_687 : decode cL_lines 687 = .ok (.iconst 1, 1) := by decide +kernel
theorem dL_lines_688 : decode cL_lines 688 = .ok (.goto 4, 3) := by decide +kernel
theorem dL_lines_691 : decode cL_lines 691 = .ok (.iconst 0, 1) := by decide +kernel
theorem dL_lines_692 : decode cL_lines 692 = .ok (.istore 22, 2) := by decide +kernel
theorem dL_lines_694 : decode cL_lines 694 = .ok (.iload 11, 2) := by decide +kernel
theorem dL_lines_696 : decode cL_lines 696 = .ok (.iload 22, 2) := by decide +kernel
theorem dL_lines_698 : decode cL_lines 698 = .ok (.ifCond .eq 7, 3) := by decide +kernel
theorem dL_lines_701 : decode cL_lines 701 = .ok (.iconst 1, 1) := by decide +kernel
theorem dL_lines_702 : decode cL_lines 702 = .ok (.goto 4, 3) := by decide +kernel
theorem dL_lines_705 : decode cL_lines 705 = .ok (.iconst 0, 1) := by decide +kernel
theorem dL_lines_706 : decode cL_lines 706 = .ok (.iadd, 1) := by decide +kernel
theorem dL_lines_707 : decode cL_lines 707 = .ok (.istore 11, 2) := by decide +kernel
theorem dL_lines_709 : decode cL_lines 709 = .ok (.iload 12, 2) := by decide +kernel
theorem dL_lines_711 : decode cL_lines 711 = .ok (.iload 22, 2) := by decide +kernel
theorem dL_lines_713 : decode cL_lines 713 = .ok (.ifCond .eq 7, 3) := by decide +kernel
theorem dL_lines_716 : decode cL_lines 716 = .ok (.iconst 0, 1) := by decide +kernel
theorem dL_lines_717 : decode cL_lines 717 = .ok (.goto 4, 3) := by decide +kernel
theorem dL_lines_720 : decode cL_lines 720 = .ok (.iconst 1, 1) := by decide +kernel
theorem dL_lines_721 : decode cL_lines 721 = .ok (.iadd, 1) := by decide +kernel
theorem dL_lines_722 : decode cL_lines 722 = .ok (.istore 12, 2) := by decide +kernel
theorem dL_lines_724 : decode cL_lines 724 = .ok (.iinc 13 1, 3) := by decide +kernel
theorem dL_lines_727 : decode cL_lines 727 = .ok (.goto (-692), 3) := by decide +kernel
theorem dL_lines_730 : decode cL_lines 730 = .ok (.iload 9, 2) := by decide +kernel
theorem dL_lines_732 : decode cL_lines 732 = .ok (.iload_n 1, 1) := by decide +kernel
theorem dL_lines_733 : decode cL_lines 733 = .ok (.if_icmp .ne 57, 3) := by decide +kernel
theorem dL_lines_736 : decode cL_lines 736 = .ok (.aload_n 0, 1) := by decide +kernel
theorem dL_lines_737 : decode cL_lines 737 = .ok (.iconst 4, 1) := by decide +kernel
theorem dL_lines_738 : decode cL_lines 738 = .ok (.invokevirtual 35, 3) := by decide +kernel
theorem dL_lines_741 : decode cL_lines 741 = .ok (.iload 10, 2) := by decide +kernel
theorem dL_lines_743 : decode cL_lines 743 = .ok (.if_icmp .ne 47, 3) := by decide +kernel
theorem dL_lines_746 : decode cL_lines 746 = .ok (.aload_n 0, 1) := by decide +kernel
theorem dL_lines_747 : decode cL_lines 747 = .ok (.iconst 2, 1) := by decide +kernel
theorem dL_lines_748 : decode cL_lines 748 = .ok (.invokevirtual 35, 3) := by decide +kernel
theorem dL_lines_751 : decode cL_lines 751 = .ok (.iload 11, 2) := by decide +kernel
theorem dL_lines_753 : decode cL_lines 753 = .ok (.if_icmp .ne 37, 3) := by decide +kernel
theorem dL_lines_756 : decode cL_lines 756 = .ok (.aload_n 0, 1) := by decide +kernel
theorem dL_lines_757 : decode cL_lines 757 = .ok (.iconst 3, 1) := by decide +kernel
theorem dL_lines_758 : decode cL_lines 758 = .ok (.invokevirtual 35, 3) := by decide +kernel
theorem dL_lines_761 : decode cL_lines 761 = .ok (.iload 12, 2) := by decide +kernel
theorem dL_lines_763 : decode cL_lines 763 = .ok (.if_icmp .ne 27, 3) := by decide +kernel
theorem dL_lines_766 : decode cL_lines 766 = .ok (.aload_n 0, 1) := by decide +kernel
theorem dL_lines_767 : decode cL_lines 767 = .ok (.iconst 1, 1) := by decide +kernel
theorem dL_lines_768 : decode cL_lines 768 = .ok (.invokevirtual 35, 3) := by decide +kernel
theorem dL_lines_771 : decode cL_lines 771 = .ok (.iload 11, 2) := by decide +kernel
theorem dL_lines_773 : decode cL_lines 773 = .ok (.iload 12, 2) := by decide +kernel
theorem dL_lines_775 : decode cL_lines 775 = .ok (.if_icmp .le 7, 3) := by decide +kernel
theorem dL_lines_778 : decode cL_lines 778 = .ok (.iconst 1, 1) := by decide +kernel
theorem dL_lines_779 : decode cL_lines 779 = .ok (.goto 4, 3) := by decide +kernel
theorem dL_lines_782 : decode cL_lines 782 = .ok (.iconst 0, 1) := by decide +kernel
theorem dL_lines_783 : decode cL_lines 783 = .ok (.if_icmp .ne 7, 3) := by decide +kernel
theorem dL_lines_786 : decode cL_lines 786 = .ok (.iconst 1, 1) := by decide +kernel
theorem dL_lines_787 : decode cL_lines 787 = .ok (.goto 4, 3) := by decide +kernel
theorem dL_lines_790 : decode cL_lines 790 = .ok (.iconst 0, 1) := by decide +kernel
theorem dL_lines_791 : decode cL_lines 791 = .ok (.ireturn, 1) := by decide +kernel
theorem dL_sum_0 : decode cL_sum 0 = .ok (.iconst 0, 1) := by decide +kernel
theorem dL_sum_1 : decode cL_sum 1 = .ok (.istore_n 3, 1) := by decide +kernel
theorem dL_sum_2 : decode cL_sum 2 = .ok (.bipush 16, 2) := by decide +kernel
theorem dL_sum_4 : decode cL_sum 4 = .ok (.bipush 8, 2) := by decide +kernel
theorem dL_sum_6 : decode cL_sum 6 = .ok (.iload_n 2, 1) := by decide +kernel
theorem dL_sum_7 : decode cL_sum 7 = .ok (.imul, 1) := by decide +kernel
theorem dL_sum_8 : decode cL_sum 8 = .ok (.iadd, 1) := by decide +kernel
theorem dL_sum_9 : decode cL_sum 9 = .ok (.istore 4, 2) := by decide +kernel
theorem dL_sum_11 : decode cL_sum 11 = .ok (.iload 4, 2) := by decide +kernel
theorem dL_sum_13 : decode cL_sum 13 = .ok (.bipush 24, 2) := by decide +kernel
theorem dL_sum_15 : decode cL_sum 15 = .ok (.bipush 8, 2) := by decide +kernel
theorem dL_sum_17 : decode cL_sum 17 = .ok (.iload_n 2, 1) := by decide +kernel
theorem dL_sum_18 : decode cL_sum 18 = .ok (.imul, 1) := by decide +kernel
theorem dL_sum_19 : decode cL_sum 19 = .ok (.iadd, 1) := by decide +kernel
theorem dL_sum_20 : decode cL_sum 20 = .ok (.if_icmp .ge 26, 3) := by decide +kernel
theorem dL_sum_23 : decode cL_sum 23 = .ok (.iload_n 3, 1) := by decide +kernel
theorem dL_sum_24 : decode cL_sum 24 = .ok (.aload_n 0, 1) := by decide +kernel
theorem dL_sum_25 : decode cL_sum 25 = .ok (.iload_n 1, 1) := by decide +kernel
theorem dL_sum_26 : decode cL_sum 26 = .ok (.aload_n 0, 1) := by decide +kernel
theorem dL_sum_27 : decode cL_sum 27 = .ok (.iload_n 1, 1) := by decide +kernel
theorem dL_sum_28 : decode cL_sum 28 = .ok (.iconst 1, 1) := by decide +kernel
theorem dL_sum_29 : decode cL_sum 29 = .ok (.invokevirtual 38, 3) := by decide +kernel
theorem dL_sum_32 : decode cL_sum 32 = .ok (.iload 4, 2) := by decide +kernel
theorem dL_sum_34 : decode cL_sum 34 = .ok (.iadd, 1) := by decide +kernel
theorem dL_sum_35 : decode cL_sum 35 = .ok (.invokestatic 22, 3) := by decide +kernel
theorem dL_sum_38 : decode cL_sum 38 = .ok (.iadd, 1) := by decide +kernel
theorem dL_sum_39 : decode cL_sum 39 = .ok (.istore_n 3, 1) := by decide +kernel
theorem dL_sum_40 : decode cL_sum 40 = .ok (.iinc 4 1, 3) := by decide +kernel
theorem dL_sum_43 : decode cL_sum 43 = .ok (.goto (-32), 3) := by decide +kernel
theorem dL_sum_46 : decode cL_sum 46 = .ok (.iload_n 3, 1) := by decide +kernel
theorem dL_sum_47 : decode cL_sum 47 = .ok (.ireturn, 1) := by decide +kernel
theorem dL_near_0 : decode cL_near 0 = .ok (.iload_n 2, 1) := by decide +kernel
theorem dL_near_1 : decode cL_near 1 = .ok (.ifCond .lt 41, 3) := by decide +kernel
theorem dL_near_4 : decode cL_near 4 = .ok (.iload_n 2, 1) := by decide +kernel
theorem dL_near_5 : decode cL_near 5 = .ok (.bipush 8, 2) := by decide +kernel
theorem dL_near_7 : decode cL_near 7 = .ok (.if_icmp .ge 35, 3) := by decide +kernel
theorem dL_near_10 : decode cL_near 10 = .ok (.aload_n 0, 1) := by decide +kernel
theorem dL_near_11 : decode cL_near 11 = .ok (.iload_n 1, 1) := by decide +kernel
theorem dL_near_12 : decode cL_near 12 = .ok (.iload_n 3, 1) := by decide +kernel
theorem dL_near_13 : decode cL_near 13 = .ok (.invokestatic 42, 3) := by decide +kernel
theorem dL_near_16 : decode cL_near 16 = .ok (.aload_n 0, 1) := by decide +kernel
theorem dL_near_17 : decode cL_near 17 = .ok (.iload_n 2, 1) := by decide +kernel
theorem dL_near_18 : decode cL_near 18 = .ok (.iload_n 3, 1) := by decide +kernel
theorem dL_near_19 : decode cL_near 19 = .ok (.invokestatic 42, 3) := by decide +kernel
theorem dL_near_22 : decode cL_near 22 = .ok (.isub, 1) := by decide +kernel
theorem dL_near_23 : decode cL_near 23 = .ok (.invokestatic 32, 3) := by decide +kernel
theorem dL_near_26 : decode cL_near 26 = .ok (.bipush 8, 2) := by decide +kernel
theorem dL_near_28 : decode cL_near 28 = .ok (.aload_n 0, 1) := by decide +kernel
theorem dL_near_29 : decode cL_near 29 = .ok (.bipush 16, 2) := by decide +kernel
theorem dL_near_31 : decode cL_near 31 = .ok (.invokevirtual 35, 3) := by decide +kernel
theorem dL_near_34 : decode cL_near 34 = .ok (.imul, 1) := by decide +kernel
theorem dL_near_35 : decode cL_near 35 = .ok (.if_icmp .gt 7, 3) := by decide +kernel
theorem dL_near_38 : decode cL_near 38 = .ok (.iconst 1, 1) := by decide +kernel
theorem dL_near_39 : decode cL_near 39 = .ok (.goto 4, 3) := by decide +kernel
theorem dL_near_42 : decode cL_near 42 = .ok (.iconst 0, 1) := by decide +kernel
theorem dL_near_43 : decode cL_near 43 = .ok (.ireturn, 1) := by decide +kernel
theorem dL_combs_0 : decode cL_combs 0 = .ok (.aload_n 0, 1) := by decide +kernel
theorem dL_combs_1 : decode cL_combs 1 = .ok (.bipush 18, 2) := by decide +kernel
theorem dL_combs_3 : decode cL_combs 3 = .ok (.invokevirtual 35, 3) := by decide +kernel
theorem dL_combs_6 : decode cL_combs 6 = .ok (.iconst 2, 1) := by decide +kernel
theorem dL_combs_7 : decode cL_combs 7 = .ok (.if_icmp .ne 11, 3) := by decide +kernel
theorem dL_combs_10 : decode cL_combs 10 = .ok (.aload_n 0, 1) := by decide +kernel
theorem dL_combs_11 : decode cL_combs 11 = .ok (.iconst 1, 1) := by decide +kernel
theorem dL_combs_12 : decode cL_combs 12 = .ok (.invokevirtual 35, 3) := by decide +kernel
theorem dL_combs_15 : decode cL_combs 15 = .ok (.goto 9, 3) := by decide +kernel
theorem dL_combs_18 : decode cL_combs 18 = .ok (.aload_n 0, 1) := by decide +kernel
theorem dL_combs_19 : decode cL_combs 19 = .ok (.bipush 18, 2) := by decide +kernel
theorem dL_combs_21 : decode cL_combs 21 = .ok (.invokevirtual 35, 3) := by decide +kernel
theorem dL_combs_24 : decode cL_combs 24 = .ok (.istore_n 1, 1) := by decide +kernel
theorem dL_combs_25 : decode cL_combs 25 = .ok (.aload_n 0, 1) := by decide +kernel
theorem dL_combs_26 : decode cL_combs 26 = .ok (.bipush 17, 2) := by decide +kernel
theorem dL_combs_28 : decode cL_combs 28 = .ok (.invokevirtual 35, 3) := by decide +kernel
theorem dL_combs_31 : decode cL_combs 31 = .ok (.istore_n 2, 1) := by decide +kernel
theorem dL_combs_32 : decode cL_combs 32 = .ok (.iconst 4, 1) := by decide +kernel
theorem dL_combs_33 : decode cL_combs 33 = .ok (.newarray .int, 2) := by decide +kernel
theorem dL_combs_35 : decode cL_combs 35 = .ok (.astore_n 3, 1) := by decide +kernel
theorem dL_combs_36 : decode cL_combs 36 = .ok (.iconst 0, 1) := by decide +kernel
theorem dL_combs_37 : decode cL_combs 37 = .ok (.istore 4, 2) := by decide +kernel
theorem dL_combs_39 : decode cL_combs 39 = .ok (.iload 4, 2) := by decide +kernel
theorem dL_combs_41 : decode cL_combs 41 = .ok (.bipush 8, 2) := by decide +kernel
theorem dL_combs_43 : decode cL_combs 43 = .ok (.if_icmp .ge 532, 3) := by decide +kernel
theorem dL_combs_46 : decode cL_combs 46 = .ok (.iconst 0, 1) := by decide +kernel
theorem dL_combs_47 : decode cL_combs 47 = .ok (.istore 5, 2) := by decide +kernel
theorem dL_combs_49 : decode cL_combs 49 = .ok (.iload 5, 2) := by decide +kernel
theorem dL_combs_51 : decode cL_combs 51 = .ok (.bipush 10, 2) := by decide +kernel
theorem dL_combs_53 : decode cL_combs 53 = .ok (.if_icmp .ge 516, 3) := by decide +kernel
theorem dL_combs_56 : decode cL_combs 56 = .ok (.iload_n 2, 1) := by decide +kernel
theorem dL_combs_57 : decode cL_combs 57 = .ok (.iconst 3, 1) := by decide +kernel
theorem dL_combs_58 : decode cL_combs 58 = .ok (.if_icmp .ne 18, 3) := by decide +kernel
theorem dL_combs_61 : decode cL_combs 61 = .ok (.aload_n 0, 1) := by decide +kernel
theorem dL_combs_62 : decode cL_combs 62 = .ok (.iload 4, 2) := by decide +kernel
theorem dL_combs_64 : decode cL_combs 64 = .ok (.iload 4, 2) := by decide +kernel
theorem dL_combs_66 : decode cL_combs 66 = .ok (.iconst 1, 1) := by decide +kernel
theorem dL_combs_67 : decode cL_combs 67 = .ok (.isub, 1) := by decide +kernel
theorem dL_combs_68 : decode cL_combs 68 = .ok (.iload 5, 2) := by decide +kernel
theorem dL_combs_70 : decode cL_combs 70 = .ok (.invokestatic 45, 3) := by decide +kernel
theorem dL_combs_73 : decode cL_combs 73 = .ok (.goto 13, 3) := by decide +kernel
theorem dL_combs_76 : decode cL_combs 76 = .ok (.iload 4, 2) := by decide +kernel
theorem dL_combs_78 : decode cL_combs 78 = .ok (.ifCond .le 7, 3) := by decide +kernel
theorem dL_combs_81 : decode cL_combs 81 = .ok (.iconst 1, 1) := by decide +kernel
theorem dL_combs_82 : decode cL_combs 82 = .ok (.goto 4, 3) := by decide +kernel
theorem dL_combs_85 : decode cL_combs 85 = .ok (.iconst 0, 1) := by decide +kernel
theorem dL_combs_86 : decode cL_combs 86 = .ok (.istore 6, 2) := by decide +kernel
theorem dL_combs_88 : decode cL_combs 88 = .ok (.iload_n 2, 1) := by decide +kernel
theorem dL_combs_89 : decode cL_combs 89 = .ok (.iconst 3, 1) := by decide +kernel
theorem dL_combs_90 : decode cL_combs 90 = .ok (.if_icmp .ne 18, 3) := by decide +kernel
theorem dL_combs_93 : decode cL_combs 93 = .ok (.aload_n 0, 1) := by decide +kernel
theorem dL_combs_94 : decode cL_combs 94 = .ok (.iload 4, 2) := by decide +kernel
theorem dL_combs_96 : decode cL_combs 96 = .ok (.iload 4, 2) := by decide +kernel
theorem dL_combs_98 : decode cL_combs 98 = .ok (.iconst 1, 1) := by decide +kernel
theorem dL_combs_99 : decode cL_combs 99 = .ok (.iadd, 1) := by decide +kernel
theorem dL_combs_100 : decode cL_combs 100 = .ok (.iload 5, 2) := by decide +kernel
theorem dL_combs_102 : decode cL_combs 102 = .ok (.invokestatic 45, 3) := by decide +kernel
theorem dL_combs_105 : decode cL_combs 105 = .ok (.goto 15, 3) := by decide +kernel
theorem dL_combs_108 : decode cL_combs 108 = .ok (.iload 4, 2) := by decide +kernel
theorem dL_combs_110 : decode cL_combs 110 = .ok (.bipush 7, 2) := by decide +kernel
theorem dL_combs_112 : decode cL_combs 112 = .ok (.if_icmp .ge 7, 3) := by decide +kernel
theorem dL_combs_115 : decode cL_combs 115 = .ok (.iconst 1, 1) := by decide +kernel
theorem dL_combs_116 : decode cL_combs 116 = .ok (.goto 4, 3) := by decide +kernel
theorem dL_combs_119 : decode cL_combs 119 = .ok (.iconst 0, 1) := by decide +kernel
theorem dL_combs_120 : decode cL_combs 120 = .ok (.istore 7, 2) := by decide +kernel
theorem dL_combs_122 : decode cL_combs 122 = .ok (.iload_n 1, 1) := by decide +kernel
theorem dL_combs_123 : decode cL_combs 123 = .ok (.iconst 1, 1) := by decide +kernel
theorem dL_combs_124 : decode cL_combs 124 = .ok (.if_icmp .eq 7, 3) := by decide +kernel
theorem dL_combs_127 : decode cL_combs 127 = .ok (.iload_n 2, 1) := by decide +kernel
theorem dL_combs_128 : decode cL_combs 128 = .ok (.ifCond .ne 7, 3) := by decide +kernel
theorem dL_combs_131 : decode cL_combs 131 = .ok (.iconst 0, 1) := by decide +kernel
theorem dL_combs_132 : decode cL_combs 132 = .ok (.goto 42, 3) := by decide +kernel
theorem dL_combs_135 : decode cL_combs 135 = .ok (.iload_n 2, 1) := by decide +kernel
theorem dL_combs_136 : decode cL_combs 136 = .ok (.iconst 1, 1) := by decide +kernel
theorem dL_combs_137 : decode cL_combs 137 = .ok (.if_icmp .ne 16, 3) := by decide +kernel
theorem dL_combs_140 : decode cL_combs 140 = .ok (.iload 6, 2) := by decide +kernel
theorem dL_combs_142 : decode cL_combs 142 = .ok (.ifCond .eq 7, 3) := by decide +kernel
theorem dL_combs_145 : decode cL_combs 145 = .ok (.iconst 1, 1) := by decide +kernel
theorem dL_combs_146 : decode cL_combs 146 = .ok (.goto 28, 3) := by decide +kernel
theorem dL_combs_149 : decode cL_combs 149 = .ok (.iconst 2, 1) := by decide +kernel
theorem dL_combs_150 : decode cL_combs 150 = .ok (.goto 24, 3) := by decide +kernel
theorem dL_combs_153 : decode cL_combs 153 = .ok (.iload 6, 2) := by decide +kernel
theorem dL_combs_155 : decode cL_combs 155 = .ok (.ifCond .eq 7, 3) := by decide +kernel
theorem dL_combs_158 : decode cL_combs 158 = .ok (.iconst 1, 1) := by decide +kernel
theorem dL_combs_159 : decode cL_combs 159 = .ok (.goto 4, 3) := by decide +kernel
theorem dL_combs_162 : decode cL_combs 162 = .ok (.iconst 0, 1) := by decide +kernel
theorem dL_combs_163 : decode cL_combs 163 = .ok (.iload 7, 2) := by decide +kernel
theorem dL_combs_165 : decode cL_combs 165 = .ok (.ifCond .eq 7, 3) := by decide +kernel
theorem dL_combs_168 : decode cL_combs 168 = .ok (.iconst 2, 1) := by decide +kernel
theorem dL_combs_169 : decode cL_combs 169 = .ok (.goto 4, 3) := by decide +kernel
theorem dL_combs_172 : decode cL_combs 172 = .ok (.iconst 0, 1) := by decide +kernel
theorem dL_combs_173 : decode cL_combs 173 = .ok (.iadd, 1) := by decide +kernel
theorem dL_combs_174 : decode cL_combs 174 = .ok (.istore 8, 2) := by decide +kernel
theorem dL_combs_176 : decode cL_combs 176 = .ok (.iconst 4, 1) := by decide +kernel
theorem dL_combs_177 : decode cL_combs 177 = .ok (.aload_n 0, 1) := by decide +kernel
theorem dL_combs_178 : decode cL_combs 178 = .ok (.iload 4, 2) := by decide +kernel
theorem dL_combs_180 : decode cL_combs 180 = .ok (.iload 5, 2) := by decide +kernel
theorem dL_combs_182 : decode cL_combs 182 = .ok (.invokestatic 42, 3) := by decide +kernel
theorem dL_combs_185 : decode cL_combs 185 = .ok (.imul, 1) := by decide +kernel
theorem dL_combs_186 : decode cL_combs 186 = .ok (.istore 9, 2) := by decide +kernel
theorem dL_combs_188 : decode cL_combs 188 = .ok (.aload_n 0, 1) := by decide +kernel
theorem dL_combs_189 : decode cL_combs 189 = .ok (.iload 4, 2) := by decide +kernel
theorem dL_combs_191 : decode cL_combs 191 = .ok (.iconst 1, 1) := by decide +kernel
theorem dL_combs_192 : decode cL_combs 192 = .ok (.invokevirtual 38, 3) := by decide +kernel
theorem dL_combs_195 : decode cL_combs 195 = .ok (.istore 10, 2) := by decide +kernel
theorem dL_combs_197 : decode cL_combs 197 = .ok (.iconst 0, 1) := by decide +kernel
theorem dL_combs_198 : decode cL_combs 198 = .ok (.istore 11, 2) := by decide +kernel
theorem dL_combs_200 : decode cL_combs 200 = .ok (.iconst 0, 1) := by decide +kernel
theorem dL_combs_201 : decode cL_combs 201 = .ok (.istore 12, 2) := by decide +kernel
theorem dL_combs_203 : decode cL_combs 203 = .ok (.bipush 16, 2) := by decide +kernel
theorem dL_combs_205 : decode cL_combs 205 = .ok (.bipush 8, 2) := by decide +kernel
theorem dL_combs_207 : decode cL_combs 207 = .ok (.iload 5, 2) := by decide +kernel
theorem dL_combs_209 : decode cL_combs 209 = .ok (.imul, 1) := by decide +kernel
theorem dL_combs_210 : decode cL_combs 210 = .ok (.iadd, 1) := by decide +kernel
theorem dL_combs_211 : decode cL_combs 211 = .ok (.istore 13, 2) := by decide +kernel
theorem dL_combs_213 : decode cL_combs 213 = .ok (.iload 13, 2) := by decide +kernel
theorem dL_combs_215 : decode cL_combs 215 = .ok (.bipush 24, 2) := by decide +kernel
theorem dL_combs_217 : decode cL_combs 217 = .ok (.bipush 8, 2) := by decide +kernel
theorem dL_combs_219 : decode cL_combs 219 = .ok (.iload 5, 2) := by decide +kernel
theorem dL_combs_221 : decode cL_combs 221 = .ok (.imul, 1) := by decide +kernel
theorem dL_combs_222 : decode cL_combs 222 = .ok (.iadd, 1) := by decide +kernel
theorem dL_combs_223 : decode cL_combs 223 = .ok (.if_icmp .ge 221, 3) := by decide +kernel
theorem dL_combs_226 : decode cL_combs 226 = .ok (.aload_n 0, 1) := by decide +kernel
theorem dL_combs_227 : decode cL_combs 227 = .ok (.iload 4, 2) := by decide +kernel
theorem dL_combs_229 : decode cL_combs 229 = .ok (.iload 10, 2) := by decide +kernel
theorem dL_combs_231 : decode cL_combs 231 = .ok (.iload 13, 2) := by decide +kernel
theorem dL_combs_233 : decode cL_combs 233 = .ok (.iadd, 1) := by decide +kernel
theorem dL_combs_234 : decode cL_combs 234 = .ok (.invokestatic 22, 3) := by decide +kernel
theorem dL_combs_237 : decode cL_combs 237 = .ok (.istore 14, 2) := by decide +kernel
theorem dL_combs_239 : decode cL_combs 239 = .ok (.iload 8, 2) := by decide +kernel
theorem dL_combs_241 : decode cL_combs 241 = .ok (.iconst 2, 1) := by decide +kernel
theorem dL_combs_242 : decode cL_combs 242 = .ok (.irem, 1) := by decide +kernel
theorem dL_combs_243 : decode cL_combs 243 = .ok (.iconst 1, 1) := by decide +kernel
theorem dL_combs_244 : decode cL_combs 244 = .ok (.if_icmp .ne 26, 3) := by decide +kernel
theorem dL_combs_247 : decode cL_combs 247 = .ok (.aload_n 0, 1) := by decide +kernel
theorem dL_combs_248 : decode cL_combs 248 = .ok (.iload 4, 2) := by decide +kernel
theorem dL_combs_250 : decode cL_combs 250 = .ok (.iconst 1, 1) := by decide +kernel
theorem dL_combs_251 : decode cL_combs 251 = .ok (.isub, 1) := by decide +kernel
theorem dL_combs_252 : decode cL_combs 252 = .ok (.aload_n 0, 1) := by decide +kernel
theorem dL_combs_253 : decode cL_combs 253 = .ok (.iload 4, 2) := by decide +kernel
theorem dL_combs_255 : decode cL_combs 255 = .ok (.iconst 1, 1) := by decide +kernel
theorem dL_combs_256 : decode cL_combs 256 = .ok (.isub, 1) := by decide +kernel
theorem dL_combs_257 : decode cL_combs 257 = .ok (.iconst 1, 1) := by decide +kernel
theorem dL_combs_258 : decode cL_combs 258 = .ok (.invokevirtual 38, 3) := by decide +kernel
theorem dL_combs_261 : decode cL_combs 261 = .ok (.iload 13, 2) := by decide +kernel
theorem dL_combs_263 : decode cL_combs 263 = .ok (.iadd, 1) := by decide +kernel
theorem dL_combs_264 : decode cL_combs 264 = .ok (.invokestatic 22, 3) := by decide +kernel
theorem dL_combs_267 : decode cL_combs 267 = .ok (.goto 4, 3) := by decide +kernel
theorem dL_combs_270 : decode cL_combs 270 = .ok (.iconst 0, 1) := by decide +kernel
theorem dL_combs_271 : decode cL_combs 271 = .ok (.istore 15, 2) := by decide +kernel
theorem dL_combs_273 : decode cL_combs 273 = .ok (.iload 8, 2) := by decide +kernel
theorem dL_combs_275 : decode cL_combs 275 = .ok (.iconst 1, 1) := by decide +kernel
theorem dL_combs_276 : decode cL_combs 276 = .ok (.if_icmp .le 26, 3) := by decide +kernel
theorem dL_combs_279 : decode cL_combs 279 = .ok (.aload_n 0, 1) := by decide +kernel
theorem dL_combs_280 : decode cL_combs 280 = .ok (.iload 4, 2) := by decide +kernel
theorem dL_combs_282 : decode cL_combs 282 = .ok (.iconst 1, 1) := by decide +kernel
theorem dL_combs_283 : decode cL_combs 283 = .ok (.iadd, 1) := by decide +kernel
theorem dL_combs_284 : decode cL_combs 284 = .ok (.aload_n 0, 1) := by decide +kernel
theorem dL_combs_285 : decode cL_combs 285 = .ok (.iload 4, 2) := by decide +kernel
theorem dL_combs_287 : decode cL_combs 287 = .ok (.iconst 1, 1) := by decide +kernel
theorem dL_combs_288 : decode cL_combs 288 = .ok (.iadd, 1) := by decide +kernel
theorem dL_combs_289 : decode cL_combs 289 = .ok (.iconst 1, 1) := by decide +kernel
theorem dL_combs_290 : decode cL_combs 290 = .ok (.invokevirtual 38, 3) := by decide +kernel
theorem dL_combs_293 : decode cL_combs 293 = .ok (.iload 13, 2) := by decide +kernel
theorem dL_combs_295 : decode cL_combs 295 = .ok (.iadd, 1) := by decide +kernel
theorem dL_combs_296 : decode cL_combs 296 = .ok (.invokestatic 22, 3) := by decide +kernel
theorem dL_combs_299 : decode cL_combs 299 = .ok (.goto 4, 3) := by decide +kernel
theorem dL_combs_302 : decode cL_combs 302 = .ok (.iconst 0, 1) := by decide +kernel
theorem dL_combs_303 : decode cL_combs 303 = .ok (.istore 16, 2) := by decide +kernel
theorem dL_combs_305 : decode cL_combs 305 = .ok (.iload 8, 2) := by decide +kernel
theorem dL_combs_307 : decode cL_combs 307 = .ok (.ifCond .ne 38, 3) := by decide +kernel
theorem dL_combs_310 : decode cL_combs 310 = .ok (.iconst 2, 1) := by decide +kernel
theorem dL_combs_311 : decode cL_combs 311 = .ok (.iload 14, 2) := by decide +kernel
theorem dL_combs_313 : decode cL_combs 313 = .ok (.imul, 1) := by decide +kernel
theorem dL_combs_314 : decode cL_combs 314 = .ok (.aload_n 0, 1) := by decide +kernel
theorem dL_combs_315 : decode cL_combs 315 = .ok (.iload 4, 2) := by decide +kernel
theorem dL_combs_317 : decode cL_combs 317 = .ok (.iload 10, 2) := by decide +kernel
theorem dL_combs_319 : decode cL_combs 319 = .ok (.iload 13, 2) := by decide +kernel
theorem dL_combs_321 : decode cL_combs 321 = .ok (.iadd, 1) := by decide +kernel
theorem dL_combs_322 : decode cL_combs 322 = .ok (.iconst 2, 1) := by decide +kernel
theorem dL_combs_323 : decode cL_combs 323 = .ok (.isub, 1) := by decide +kernel
theorem dL_combs_324 : decode cL_combs 324 = .ok (.invokestatic 22, 3) := by decide +kernel
theorem dL_combs_327 : decode cL_combs 327 = .ok (.isub, 1) := by decide +kernel
theorem dL_combs_328 : decode cL_combs 328 = .ok (.aload_n 0, 1) := by decide +kernel
theorem dL_combs_329 : decode cL_combs 329 = .ok (.iload 4, 2) := by decide +kernel
theorem dL_combs_331 : decode cL_combs 331 = .ok (.iload 10, 2) := by decide +kernel
theorem dL_combs_333 : decode cL_combs 333 = .ok (.iload 13, 2) := by decide +kernel
theorem dL_combs_335 : decode cL_combs 335 = .ok (.iadd, 1) := by decide +kernel
theorem dL_combs_336 : decode cL_combs 336 = .ok (.iconst 2, 1) := by decide +kernel
theorem dL_combs_337 : decode cL_combs 337 = .ok (.iadd, 1) := by decide +kernel
theorem dL_combs_338 : decode cL_combs 338 = .ok (.invokestatic 22, 3) := by decide +kernel
theorem dL_combs_341 : decode cL_combs 341 = .ok (.isub, 1) := by decide +kernel
theorem dL_combs_342 : decode cL_combs 342 = .ok (.goto 45, 3) := by decide +kernel
theorem dL_combs_345 : decode cL_combs 345 = .ok (.iload 8, 2) := by decide +kernel
theorem dL_combs_347 : decode cL_combs 347 = .ok (.iconst 1, 1) := by decide +kernel
theorem dL_combs_348 : decode cL_combs 348 = .ok (.if_icmp .ne 13, 3) := by decide +kernel
theorem dL_combs_351 : decode cL_combs 351 = .ok (.iconst 2, 1) := by decide +kernel
theorem dL_combs_352 : decode cL_combs 352 = .ok (.iload 14, 2) := by decide +kernel
theorem dL_combs_354 : decode cL_combs 354 = .ok (.iload 15, 2) := by decide +kernel
theorem dL_combs_356 : decode cL_combs 356 = .ok (.isub, 1) := by decide +kernel
theorem dL_combs_357 : decode cL_combs 357 = .ok (.imul, 1) := by decide +kernel
theorem dL_combs_358 : decode cL_combs 358 = .ok (.goto 29, 3) := by decide +kernel
theorem dL_combs_361 : decode cL_combs 361 = .ok (.iload 8, 2) := by decide +kernel
theorem dL_combs_363 : decode cL_combs 363 = .ok (.iconst 2, 1) := by decide +kernel
theorem dL_combs_364 : decode cL_combs 364 = .ok (.if_icmp .ne 13, 3) := by decide +kernel
theorem dL_combs_367 : decode cL_combs 367 = .ok (.iconst 2, 1) := by decide +kernel
theorem dL_combs_368 : decode cL_combs 368 = .ok (.iload 14, 2) := by decide +kernel
theorem dL_combs_370 : decode cL_combs 370 = .ok (.iload 16, 2) := by decide +kernel
theorem dL_combs_372 : decode cL_combs 372 = .ok (.isub, 1) := by decide +kernel
theorem dL_combs_373 : decode cL_combs 373 = .ok (.imul, 1) := by decide +kernel
theorem dL_combs_374 : decode cL_combs 374 = .ok (.goto 13, 3) := by decide +kernel
theorem dL_combs_377 : decode cL_combs 377 = .ok (.iconst 2, 1) := by decide +kernel
theorem dL_combs_378 : decode cL_combs 378 = .ok (.iload 14, 2) := by decide +kernel
theorem dL_combs_380 : decode cL_combs 380 = .ok (.imul, 1) := by decide +kernel
theorem dL_combs_381 : decode cL_combs 381 = .ok (.iload 15, 2) := by decide +kernel
theorem dL_combs_383 : decode cL_combs 383 = .ok (.isub, 1) := by decide +kernel
theorem dL_combs_384 : decode cL_combs 384 = .ok (.iload 16, 2) := by decide +kernel
theorem dL_combs_386 : decode cL_combs 386 = .ok (.isub, 1) := by decide +kernel
theorem dL_combs_387 : decode cL_combs 387 = .ok (.istore 17, 2) := by decide +kernel
theorem dL_combs_389 : decode cL_combs 389 = .ok (.iload 9, 2) := by decide +kernel
theorem dL_combs_391 : decode cL_combs 391 = .ok (.iload 17, 2) := by decide +kernel
theorem dL_combs_393 : decode cL_combs 393 = .ok (.isub, 1) := by decide +kernel
theorem dL_combs_394 : decode cL_combs 394 = .ok (.istore 9, 2) := by decide +kernel
theorem dL_combs_396 : decode cL_combs 396 = .ok (.iload 11, 2) := by decide +kernel
theorem dL_combs_398 : decode cL_combs 398 = .ok (.iload 17, 2) := by decide +kernel
theorem dL_combs_400 : decode cL_combs 400 = .ok (.iload 10, 2) := by decide +kernel
theorem dL_combs_402 : decode cL_combs 402 = .ok (.iload 13, 2) := by decide +kernel
theorem dL_combs_404 : decode cL_combs 404 = .ok (.iadd, 1) := by decide +kernel
theorem dL_combs_405 : decode cL_combs 405 = .ok (.iconst 2, 1) := by decide +kernel
theorem dL_combs_406 : decode cL_combs 406 = .ok (.iload 4, 2) := by decide +kernel
theorem dL_combs_408 : decode cL_combs 408 = .ok (.imul, 1) := by decide +kernel
theorem dL_combs_409 : decode cL_combs 409 = .ok (.iadd, 1) := by decide +kernel
theorem dL_combs_410 : decode cL_combs 410 = .ok (.invokestatic 15, 3) := by decide +kernel
theorem dL_combs_413 : decode cL_combs 413 = .ok (.imul, 1) := by decide +kernel
theorem dL_combs_414 : decode cL_combs 414 = .ok (.iadd, 1) := by decide +kernel
theorem dL_combs_415 : decode cL_combs 415 = .ok (.istore 11, 2) := by decide +kernel
theorem dL_combs_417 : decode cL_combs 417 = .ok (.iload 12, 2) := by decide +kernel
theorem dL_combs_419 : decode cL_combs 419 = .ok (.iload 17, 2) := by decide +kernel
theorem dL_combs_421 : decode cL_combs 421 = .ok (.iload 10, 2) := by decide +kernel
theorem dL_combs_423 : decode cL_combs 423 = .ok (.iload 13, 2) := by decide +kernel
theorem dL_combs_425 : decode cL_combs 425 = .ok (.iadd, 1) := by decide +kernel
theorem dL_combs_426 : decode cL_combs 426 = .ok (.iconst 2, 1) := by decide +kernel
theorem dL_combs_427 : decode cL_combs 427 = .ok (.iload 4, 2) := by decide +kernel
theorem dL_combs_429 : decode cL_combs 429 = .ok (.imul, 1) := by decide +kernel
theorem dL_combs_430 : decode cL_combs 430 = .ok (.iadd, 1) := by decide +kernel
theorem dL_combs_431 : decode cL_combs 431 = .ok (.invokestatic 29, 3) := by decide +kernel
theorem dL_combs_434 : decode cL_combs 434 = .ok (.imul, 1) := by decide +kernel
theorem dL_combs_435 : decode cL_combs 435 = .ok (.iadd, 1) := by decide +kernel
theorem dL_combs_436 : decode cL_combs 436 = .ok (.istore 12, 2) := by decide +kernel
theorem dL_combs_438 : decode cL_combs 438 = .ok (.iinc 13 1, 3) := by decide +kernel
theorem dL_combs_441 : decode cL_combs 441 = .ok (.goto (-228), 3) := by decide +kernel
theorem dL_combs_444 : decode cL_combs 444 = .ok (.aload_n 3, 1) := by decide +kernel
theorem dL_combs_445 : decode cL_combs 445 = .ok (.iload 8, 2) := by decide +kernel
theorem dL_combs_447 : decode cL_combs 447 = .ok (.dup2, 1) := by decide +kernel
theorem dL_combs_448 : decode cL_combs 448 = .ok (.iaload, 1) := by decide +kernel
theorem dL_combs_449 : decode cL_combs 449 = .ok (.iconst 1, 1) := by decide +kernel
theorem dL_combs_450 : decode cL_combs 450 = .ok (.iadd, 1) := by decide +kernel
theorem dL_combs_451 : decode cL_combs 451 = .ok (.iastore, 1) := by decide +kernel
theorem dL_combs_452 : decode cL_combs 452 = .ok (.aload_n 0, 1) := by decide +kernel
theorem dL_combs_453 : decode cL_combs 453 = .ok (.iload 4, 2) := by decide +kernel
theorem dL_combs_455 : decode cL_combs 455 = .ok (.bipush 6, 2) := by decide +kernel
theorem dL_combs_457 : decode cL_combs 457 = .ok (.invokevirtual 38, 3) := by decide +kernel
theorem dL_combs_460 : decode cL_combs 460 = .ok (.ifCond .eq 13, 3) := by decide +kernel
theorem dL_combs_463 : decode cL_combs 463 = .ok (.iload 11, 2) := by decide +kernel
theorem dL_combs_465 : decode cL_combs 465 = .ok (.ifCond .ne 12, 3) := by decide +kernel
theorem dL_combs_468 : decode cL_combs 468 = .ok (.iload 12, 2) := by decide +kernel
theorem dL_combs_470 : decode cL_combs 470 = .ok (.ifCond .ne 7, 3) := by decide +kernel
theorem dL_combs_473 : decode cL_combs 473 = .ok (.iconst 1, 1) := by decide +kernel
theorem dL_combs_474 : decode cL_combs 474 = .ok (.goto 4, 3) := by decide +kernel
theorem dL_combs_477 : decode cL_combs 477 = .ok (.iconst 0, 1) := by decide +kernel
theorem dL_combs_478 : decode cL_combs 478 = .ok (.istore 13, 2) := by decide +kernel
theorem dL_combs_480 : decode cL_combs 480 = .ok (.iload_n 1, 1) := by decide +kernel
theorem dL_combs_481 : decode cL_combs 481 = .ok (.ifCond .eq 8, 3) := by decide +kernel
theorem dL_combs_484 : decode cL_combs 484 = .ok (.iload 4, 2) := by decide +kernel
theorem dL_combs_486 : decode cL_combs 486 = .ok (.ifCond .ne 7, 3) := by decide +kernel
theorem dL_combs_489 : decode cL_combs 489 = .ok (.iconst 1, 1) := by decide +kernel
theorem dL_combs_490 : decode cL_combs 490 = .ok (.goto 4, 3) := by decide +kernel
theorem dL_combs_493 : decode cL_combs 493 = .ok (.iconst 0, 1) := by decide +kernel
theorem dL_combs_494 : decode cL_combs 494 = .ok (.istore 14, 2) := by decide +kernel
theorem dL_combs_496 : decode cL_combs 496 = .ok (.aload_n 0, 1) := by decide +kernel
theorem dL_combs_497 : decode cL_combs 497 = .ok (.iload 4, 2) := by decide +kernel
theorem dL_combs_499 : decode cL_combs 499 = .ok (.iload 5, 2) := by decide +kernel
theorem dL_combs_501 : decode cL_combs 501 = .ok (.invokevirtual 49, 3) := by decide +kernel
theorem dL_combs_504 : decode cL_combs 504 = .ok (.iload 8, 2) := by decide +kernel
theorem dL_combs_506 : decode cL_combs 506 = .ok (.if_icmp .ne 55, 3) := by decide +kernel
theorem dL_combs_509 : decode cL_combs 509 = .ok (.aload_n 0, 1) := by decide +kernel
theorem dL_combs_510 : decode cL_combs 510 = .ok (.iload 4, 2) := by decide +kernel
theorem dL_combs_512 : decode cL_combs 512 = .ok (.iload 5, 2) := by decide +kernel
theorem dL_combs_514 : decode cL_combs 514 = .ok (.invokevirtual 52, 3) := by decide +kernel
theorem dL_combs_517 : decode cL_combs 517 = .ok (.iload 9, 2) := by decide +kernel
theorem dL_combs_519 : decode cL_combs 519 = .ok (.bipush 32, 2) := by decide +kernel
theorem dL_combs_521 : decode cL_combs 521 = .ok (.invokestatic 26, 3) := by decide +kernel
theorem dL_combs_524 : decode cL_combs 524 = .ok (.if_icmp .ne 37, 3) := by decide +kernel
theorem dL_combs_527 : decode cL_combs 527 = .ok (.iload 14, 2) := by decide +kernel
theorem dL_combs_529 : decode cL_combs 529 = .ok (.ifCond .eq 34, 3) := by decide +kernel
theorem dL_combs_532 : decode cL_combs 532 = .ok (.iload 13, 2) := by decide +kernel
theorem dL_combs_534 : decode cL_combs 534 = .ok (.ifCond .eq 29, 3) := by decide +kernel
theorem dL_combs_537 : decode cL_combs 537 = .ok (.aload_n 0, 1) := by decide +kernel
theorem dL_combs_538 : decode cL_combs 538 = .ok (.iload 4, 2) := by decide +kernel
theorem dL_combs_540 : decode cL_combs 540 = .ok (.iload 5, 2) := by decide +kernel
theorem dL_combs_542 : decode cL_combs 542 = .ok (.iconst 0, 1) := by decide +kernel
theorem dL_combs_543 : decode cL_combs 543 = .ok (.invokevirtual 55, 3) := by decide +kernel
theorem dL_combs_546 : decode cL_combs 546 = .ok (.ifCond .ne 15, 3) := by decide +kernel
theorem dL_combs_549 : decode cL_combs 549 = .ok (.aload_n 0, 1) := by decide +kernel
theorem dL_combs_550 : decode cL_combs 550 = .ok (.iload 4, 2) := by decide +kernel
theorem dL_combs_552 : decode cL_combs 552 = .ok (.iload 5, 2) := by decide +kernel
theorem dL_combs_554 : decode cL_combs 554 = .ok (.iconst 1, 1) := by decide +kernel
theorem dL_combs_555 : decode cL_combs 555 = .ok (.invokevirtual 55, 3) := by decide +kernel
theorem dL_combs_558 : decode cL_combs 558 = .ok (.ifCond .eq 5, 3) := by decide +kernel
theorem dL_combs_561 : decode cL_combs 561 = .ok (.iconst 0, 1) := by decide +kernel
theorem dL_combs_562 : decode cL_combs 562 = .ok (.ireturn, 1) := by decide +kernel
theorem dL_combs_563 : decode cL_combs 563 = .ok (.iinc 5 1, 3) := by decide +kernel
theorem dL_combs_566 : decode cL_combs 566 = .ok (.goto (-517), 3) := by decide +kernel
theorem dL_combs_569 : decode cL_combs 569 = .ok (.iinc 4 1, 3) := by decide +kernel
theorem dL_combs_572 : decode cL_combs 572 = .ok (.goto (-533), 3) := by decide +kernel
theorem dL_combs_575 : decode cL_combs 575 = .ok (.aload_n 0, 1) := by decide +kernel
theorem dL_combs_576 : decode cL_combs 576 = .ok (.bipush 9, 2) := by decide +kernel
theorem dL_combs_578 : decode cL_combs 578 = .ok (.invokevirtual 35, 3) := by decide +kernel
theorem dL_combs_581 : decode cL_combs 581 = .ok (.aload_n 3, 1) := by decide +kernel
theorem dL_combs_582 : decode cL_combs 582 = .ok (.iconst 0, 1) := by decide +kernel
theorem dL_combs_583 : decode cL_combs 583 = .ok (.iaload, 1) := by decide +kernel
theorem dL_combs_584 : decode cL_combs 584 = .ok (.if_icmp .ne 43, 3) := by decide +kernel
theorem dL_combs_587 : decode cL_combs 587 = .ok (.aload_n 0, 1) := by decide +kernel
theorem dL_combs_588 : decode cL_combs 588 = .ok (.bipush 10, 2) := by decide +kernel
theorem dL_combs_590 : decode cL_combs 590 = .ok (.invokevirtual 35, 3) := by decide +kernel
theorem dL_combs_593 : decode cL_combs 593 = .ok (.aload_n 3, 1) := by decide +kernel
theorem dL_combs_594 : decode cL_combs 594 = .ok (.iconst 1, 1) := by decide +kernel
theorem dL_combs_595 : decode cL_combs 595 = .ok (.iaload, 1) := by decide +kernel
theorem dL_combs_596 : decode cL_combs 596 = .ok (.if_icmp .ne 31, 3) := by decide +kernel
theorem dL_combs_599 : decode cL_combs 599 = .ok (.aload_n 0, 1) := by decide +kernel
theorem dL_combs_600 : decode cL_combs 600 = .ok (.bipush 11, 2) := by decide +kernel
theorem dL_combs_602 : decode cL_combs 602 = .ok (.invokevirtual 35, 3) := by decide +kernel
theorem dL_combs_605 : decode cL_combs 605 = .ok (.aload_n 3, 1) := by decide +kernel
theorem dL_combs_606 : decode cL_combs 606 = .ok (.iconst 2, 1) := by decide +kernel
theorem dL_combs_607 : decode cL_combs 607 = .ok (.iaload, 1) := by decide +kernel
theorem dL_combs_608 : decode cL_combs 608 = .ok (.if_icmp .ne 19, 3) := by decide +kernel
theorem dL_combs_611 : decode cL_combs 611 = .ok (.aload_n 0, 1) := by decide +kernel
theorem dL_combs_612 : decode cL_combs 612 = .ok (.bipush 12, 2) := by decide +kernel
theorem dL_combs_614 : decode cL_combs 614 = .ok (.invokevirtual 35, 3) := by decide +kernel
theorem dL_combs_617 : decode cL_combs 617 = .ok (.aload_n 3, 1) := by decide +kernel
theorem dL_combs_618 : decode cL_combs 618 = .ok (.iconst 3, 1) := by decide +kernel
theorem dL_combs_619 : decode cL_combs 619 = .ok (.iaload, 1) := by decide +kernel
theorem dL_combs_620 : decode cL_combs 620 = .ok (.if_icmp .ne 7, 3) := by decide +kernel
theorem dL_combs_623 : decode cL_combs 623 = .ok (.iconst 1, 1) := by decide +kernel
theorem dL_combs_624 : decode cL_combs 624 = .ok (.goto 4, 3) := by decide +kernel
theorem dL_combs_627 : decode cL_combs 627 = .ok (.iconst 0, 1) := by decide +kernel
theorem dL_combs_628 : decode cL_combs 628 = .ok (.ireturn, 1) := by decide +kernel
theorem dL_motion_0 : decode cL_motion 0 = .ok (.lconst 0, 1) := by decide +kernel
theorem dL_motion_1 : decode cL_motion 1 = .ok (.lstore 4, 2) := by decide +kernel
theorem dL_motion_3 : decode cL_motion 3 = .ok (.lconst 0, 1) := by decide +kernel
theorem dL_motion_4 : decode cL_motion 4 = .ok (.lstore 6, 2) := by decide +kernel
theorem dL_motion_6 : decode cL_motion 6 = .ok (.iconst 0, 1) := by decide +kernel
theorem dL_motion_7 : decode cL_motion 7 = .ok (.istore 8, 2) := by decide +kernel
theorem dL_motion_9 : decode cL_motion 9 = .ok (.iload 8, 2) := by decide +kernel
theorem dL_motion_11 : decode cL_motion 11 = .ok (.bipush 40, 2) := by decide +kernel
theorem dL_motion_13 : decode cL_motion 13 = .ok (.if_icmp .ge 89, 3) := by decide +kernel
theorem dL_motion_16 : decode cL_motion 16 = .ok (.lload 4, 2) := by decide +kernel
theorem dL_motion_18 : decode cL_motion 18 = .ok (.aload_n 1, 1) := by decide +kernel
theorem dL_motion_19 : decode cL_motion 19 = .ok (.iload 8, 2) := by decide +kernel
theorem dL_motion_21 : decode cL_motion 21 = .ok (.iaload, 1) := by decide +kernel
theorem dL_motion_22 : decode cL_motion 22 = .ok (.aload_n 0, 1) := by decide +kernel
theorem dL_motion_23 : decode cL_motion 23 = .ok (.iload 8, 2) := by decide +kernel
theorem dL_motion_25 : decode cL_motion 25 = .ok (.bipush 10, 2) := by decide +kernel
theorem dL_motion_27 : decode cL_motion 27 = .ok (.idiv, 1) := by decide +kernel
theorem dL_motion_28 : decode cL_motion 28 = .ok (.iload 8, 2) := by decide +kernel
theorem dL_motion_30 : decode cL_motion 30 = .ok (.bipush 10, 2) := by decide +kernel
theorem dL_motion_32 : decode cL_motion 32 = .ok (.irem, 1) := by decide +kernel
theorem dL_motion_33 : decode cL_motion 33 = .ok (.invokevirtual 52, 3) := by decide +kernel
theorem dL_motion_36 : decode cL_motion 36 = .ok (.isub, 1) := by decide +kernel
theorem dL_motion_37 : decode cL_motion 37 = .ok (.invokestatic 32, 3) := by decide +kernel
theorem dL_motion_40 : decode cL_motion 40 = .ok (.iload_n 3, 1) := by decide +kernel
theorem dL_motion_41 : decode cL_motion 41 = .ok (.if_icmp .le 10, 3) := by decide +kernel
theorem dL_motion_44 : decode cL_motion 44 = .ok (.lconst 1, 1) := by decide +kernel
theorem dL_motion_45 : decode cL_motion 45 = .ok (.iload 8, 2) := by decide +kernel
theorem dL_motion_47 : decode cL_motion 47 = .ok (.lshl, 1) := by decide +kernel
theorem dL_motion_48 : decode cL_motion 48 = .ok (.goto 4, 3) := by decide +kernel
theorem dL_motion_51 : decode cL_motion 51 = .ok (.lconst 0, 1) := by decide +kernel
theorem dL_motion_52 : decode cL_motion 52 = .ok (.lor, 1) := by decide +kernel
theorem dL_motion_53 : decode cL_motion 53 = .ok (.lstore 4, 2) := by decide +kernel
theorem dL_motion_55 : decode cL_motion 55 = .ok (.lload 6, 2) := by decide +kernel
theorem dL_motion_57 : decode cL_motion 57 = .ok (.aload_n 2, 1) := by decide +kernel
theorem dL_motion_58 : decode cL_motion 58 = .ok (.iload 8, 2) := by decide +kernel
theorem dL_motion_60 : decode cL_motion 60 = .ok (.iaload, 1) := by decide +kernel
theorem dL_motion_61 : decode cL_motion 61 = .ok (.aload_n 0, 1) := by decide +kernel
theorem dL_motion_62 : decode cL_motion 62 = .ok (.iconst 4, 1) := by decide +kernel
theorem dL_motion_63 : decode cL_motion 63 = .ok (.iload 8, 2) := by decide +kernel
theorem dL_motion_65 : decode cL_motion 65 = .ok (.bipush 10, 2) := by decide +kernel
theorem dL_motion_67 : decode cL_motion 67 = .ok (.idiv, 1) := by decide +kernel
theorem dL_motion_68 : decode cL_motion 68 = .ok (.iadd, 1) := by decide +kernel
theorem dL_motion_69 : decode cL_motion 69 = .ok (.iload 8, 2) := by decide +kernel
theorem dL_motion_71 : decode cL_motion 71 = .ok (.bipush 10, 2) := by decide +kernel
theorem dL_motion_73 : decode cL_motion 73 = .ok (.irem, 1) := by decide +kernel
theorem dL_motion_74 : decode cL_motion 74 = .ok (.invokevirtual 52, 3) := by decide +kernel
theorem dL_motion_77 : decode cL_motion 77 = .ok (.isub, 1) := by decide +kernel
theorem dL_motion_78 : decode cL_motion 78 = .ok (.invokestatic 32, 3) := by decide +kernel
theorem dL_motion_81 : decode cL_motion 81 = .ok (.iload_n 3, 1) := by decide +kernel
theorem dL_motion_82 : decode cL_motion 82 = .ok (.if_icmp .le 10, 3) := by decide +kernel
theorem dL_motion_85 : decode cL_motion 85 = .ok (.lconst 1, 1) := by decide +kernel
theorem dL_motion_86 : decode cL_motion 86 = .ok (.iload 8, 2) := by decide +kernel
theorem dL_motion_88 : decode cL_motion 88 = .ok (.lshl, 1) := by decide +kernel
theorem dL_motion_89 : decode cL_motion 89 = .ok (.goto 4, 3) := by decide +kernel
theorem dL_motion_92 : decode cL_motion 92 = .ok (.lconst 0, 1) := by decide +kernel
theorem dL_motion_93 : decode cL_motion 93 = .ok (.lor, 1) := by decide +kernel
theorem dL_motion_94 : decode cL_motion 94 = .ok (.lstore 6, 2) := by decide +kernel
theorem dL_motion_96 : decode cL_motion 96 = .ok (.iinc 8 1, 3) := by decide +kernel
theorem dL_motion_99 : decode cL_motion 99 = .ok (.goto (-90), 3) := by decide +kernel
theorem dL_motion_102 : decode cL_motion 102 = .ok (.iconst 0, 1) := by decide +kernel
theorem dL_motion_103 : decode cL_motion 103 = .ok (.istore 8, 2) := by decide +kernel
theorem dL_motion_105 : decode cL_motion 105 = .ok (.iconst 0, 1) := by decide +kernel
theorem dL_motion_106 : decode cL_motion 106 = .ok (.istore 9, 2) := by decide +kernel
theorem dL_motion_108 : decode cL_motion 108 = .ok (.iconst 0, 1) := by decide +kernel
theorem dL_motion_109 : decode cL_motion 109 = .ok (.istore 10, 2) := by decide +kernel
theorem dL_motion_111 : decode cL_motion 111 = .ok (.iload 10, 2) := by decide +kernel
theorem dL_motion_113 : decode cL_motion 113 = .ok (.bipush 80, 2) := by decide +kernel
theorem dL_motion_115 : decode cL_motion 115 = .ok (.if_icmp .ge 177, 3) := by decide +kernel
theorem dL_motion_118 : decode cL_motion 118 = .ok (.lload 4, 2) := by decide +kernel
theorem dL_motion_120 : decode cL_motion 120 = .ok (.lload 6, 2) := by decide +kernel
theorem dL_motion_122 : decode cL_motion 122 = .ok (.iload 10, 2) := by decide +kernel
theorem dL_motion_124 : decode cL_motion 124 = .ok (.invokestatic 59, 3) := by decide +kernel
theorem dL_motion_127 : decode cL_motion 127 = .ok (.istore 11, 2) := by decide +kernel
theorem dL_motion_129 : decode cL_motion 129 = .ok (.iload 10, 2) := by decide +kernel
theorem dL_motion_131 : decode cL_motion 131 = .ok (.bipush 10, 2) := by decide +kernel
theorem dL_motion_133 : decode cL_motion 133 = .ok (.irem, 1) := by decide +kernel
theorem dL_motion_134 : decode cL_motion 134 = .ok (.ifCond .le 17, 3) := by decide +kernel
theorem dL_motion_137 : decode cL_motion 137 = .ok (.lload 4, 2) := by decide +kernel
theorem dL_motion_139 : decode cL_motion 139 = .ok (.lload 6, 2) := by decide +kernel
theorem dL_motion_141 : decode cL_motion 141 = .ok (.iload 10, 2) := by decide +kernel
theorem dL_motion_143 : decode cL_motion 143 = .ok (.iconst 1, 1) := by decide +kernel
theorem dL_motion_144 : decode cL_motion 144 = .ok (.isub, 1) := by decide +kernel
theorem dL_motion_145 : decode cL_motion 145 = .ok (.invokestatic 59, 3) := by decide +kernel
theorem dL_motion_148 : decode cL_motion 148 = .ok (.ifCond .ne 57, 3) := by decide +kernel
theorem dL_motion_151 : decode cL_motion 151 = .ok (.iload 10, 2) := by decide +kernel
theorem dL_motion_153 : decode cL_motion 153 = .ok (.bipush 10, 2) := by decide +kernel
theorem dL_motion_155 : decode cL_motion 155 = .ok (.irem, 1) := by decide +kernel
theorem dL_motion_156 : decode cL_motion 156 = .ok (.bipush 9, 2) := by decide +kernel
theorem dL_motion_158 : decode cL_motion 158 = .ok (.if_icmp .ge 17, 3) := by decide +kernel
theorem dL_motion_161 : decode cL_motion 161 = .ok (.lload 4, 2) := by decide +kernel
theorem dL_motion_163 : decode cL_motion 163 = .ok (.lload 6, 2) := by decide +kernel
theorem dL_motion_165 : decode cL_motion 165 = .ok (.iload 10, 2) := by decide +kernel
theorem dL_motion_167 : decode cL_motion 167 = .ok (.iconst 1, 1) := by decide +kernel
theorem dL_motion_168 : decode cL_motion 168 = .ok (.iadd, 1) := by decide +kernel
theorem dL_motion_169 : decode cL_motion 169 = .ok (.invokestatic 59, 3) := by decide +kernel
theorem dL_motion_172 : decode cL_motion 172 = .ok (.ifCond .ne 33, 3) := by decide +kernel
theorem dL_motion_175 : decode cL_motion 175 = .ok (.lload 4, 2) := by decide +kernel
theorem dL_motion_177 : decode cL_motion 177 = .ok (.lload 6, 2) := by decide +kernel
theorem dL_motion_179 : decode cL_motion 179 = .ok (.iload 10, 2) := by decide +kernel
theorem dL_motion_181 : decode cL_motion 181 = .ok (.bipush 10, 2) := by decide +kernel
theorem dL_motion_183 : decode cL_motion 183 = .ok (.isub, 1) := by decide +kernel
theorem dL_motion_184 : decode cL_motion 184 = .ok (.invokestatic 59, 3) := by decide +kernel
theorem dL_motion_187 : decode cL_motion 187 = .ok (.ifCond .ne 18, 3) := by decide +kernel
theorem dL_motion_190 : decode cL_motion 190 = .ok (.lload 4, 2) := by decide +kernel
theorem dL_motion_192 : decode cL_motion 192 = .ok (.lload 6, 2) := by decide +kernel
theorem dL_motion_194 : decode cL_motion 194 = .ok (.iload 10, 2) := by decide +kernel
theorem dL_motion_196 : decode cL_motion 196 = .ok (.bipush 10, 2) := by decide +kernel
theorem dL_motion_198 : decode cL_motion 198 = .ok (.iadd, 1) := by decide +kernel
theorem dL_motion_199 : decode cL_motion 199 = .ok (.invokestatic 59, 3) := by decide +kernel
theorem dL_motion_202 : decode cL_motion 202 = .ok (.ifCond .eq 7, 3) := by decide +kernel
theorem dL_motion_205 : decode cL_motion 205 = .ok (.iconst 1, 1) := by decide +kernel
theorem dL_motion_206 : decode cL_motion 206 = .ok (.goto 4, 3) := by decide +kernel
theorem dL_motion_209 : decode cL_motion 209 = .ok (.iconst 0, 1) := by decide +kernel
theorem dL_motion_210 : decode cL_motion 210 = .ok (.istore 12, 2) := by decide +kernel
theorem dL_motion_212 : decode cL_motion 212 = .ok (.iload 11, 2) := by decide +kernel
theorem dL_motion_214 : decode cL_motion 214 = .ok (.ifCond .ne 7, 3) := by decide +kernel
theorem dL_motion_217 : decode cL_motion 217 = .ok (.iconst 0, 1) := by decide +kernel
theorem dL_motion_218 : decode cL_motion 218 = .ok (.goto 13, 3) := by decide +kernel
theorem dL_motion_221 : decode cL_motion 221 = .ok (.iload 12, 2) := by decide +kernel
theorem dL_motion_223 : decode cL_motion 223 = .ok (.ifCond .eq 7, 3) := by decide +kernel
theorem dL_motion_226 : decode cL_motion 226 = .ok (.iconst 2, 1) := by decide +kernel
theorem dL_motion_227 : decode cL_motion 227 = .ok (.goto 4, 3) := by decide +kernel
theorem dL_motion_230 : decode cL_motion 230 = .ok (.iconst 1, 1) := by decide +kernel
theorem dL_motion_231 : decode cL_motion 231 = .ok (.istore 13, 2) := by decide +kernel
theorem dL_motion_233 : decode cL_motion 233 = .ok (.iload 8, 2) := by decide +kernel
theorem dL_motion_235 : decode cL_motion 235 = .ok (.iload 13, 2) := by decide +kernel
theorem dL_motion_237 : decode cL_motion 237 = .ok (.iconst 2, 1) := by decide +kernel
theorem dL_motion_238 : decode cL_motion 238 = .ok (.if_icmp .ne 7, 3) := by decide +kernel
theorem dL_motion_241 : decode cL_motion 241 = .ok (.iconst 1, 1) := by decide +kernel
theorem dL_motion_242 : decode cL_motion 242 = .ok (.goto 4, 3) := by decide +kernel
theorem dL_motion_245 : decode cL_motion 245 = .ok (.iconst 0, 1) := by decide +kernel
theorem dL_motion_246 : decode cL_motion 246 = .ok (.iadd, 1) := by decide +kernel
theorem dL_motion_247 : decode cL_motion 247 = .ok (.istore 8, 2) := by decide +kernel
theorem dL_motion_249 : decode cL_motion 249 = .ok (.iload 9, 2) := by decide +kernel
theorem dL_motion_251 : decode cL_motion 251 = .ok (.iload 13, 2) := by decide +kernel
theorem dL_motion_253 : decode cL_motion 253 = .ok (.iconst 1, 1) := by decide +kernel
theorem dL_motion_254 : decode cL_motion 254 = .ok (.if_icmp .ne 7, 3) := by decide +kernel
theorem dL_motion_257 : decode cL_motion 257 = .ok (.iconst 1, 1) := by decide +kernel
theorem dL_motion_258 : decode cL_motion 258 = .ok (.goto 4, 3) := by decide +kernel
theorem dL_motion_261 : decode cL_motion 261 = .ok (.iconst 0, 1) := by decide +kernel
theorem dL_motion_262 : decode cL_motion 262 = .ok (.iadd, 1) := by decide +kernel
theorem dL_motion_263 : decode cL_motion 263 = .ok (.istore 9, 2) := by decide +kernel
theorem dL_motion_265 : decode cL_motion 265 = .ok (.aload_n 0, 1) := by decide +kernel
theorem dL_motion_266 : decode cL_motion 266 = .ok (.iload 10, 2) := by decide +kernel
theorem dL_motion_268 : decode cL_motion 268 = .ok (.bipush 10, 2) := by decide +kernel
theorem dL_motion_270 : decode cL_motion 270 = .ok (.idiv, 1) := by decide +kernel
theorem dL_motion_271 : decode cL_motion 271 = .ok (.iload 10, 2) := by decide +kernel
theorem dL_motion_273 : decode cL_motion 273 = .ok (.bipush 10, 2) := by decide +kernel
theorem dL_motion_275 : decode cL_motion 275 = .ok (.irem, 1) := by decide +kernel
theorem dL_motion_276 : decode cL_motion 276 = .ok (.invokevirtual 63, 3) := by decide +kernel
theorem dL_motion_279 : decode cL_motion 279 = .ok (.iload 13, 2) := by decide +kernel
theorem dL_motion_281 : decode cL_motion 281 = .ok (.if_icmp .eq 5, 3) := by decide +kernel
theorem dL_motion_284 : decode cL_motion 284 = .ok (.iconst 0, 1) := by decide +kernel
theorem dL_motion_285 : decode cL_motion 285 = .ok (.ireturn, 1) := by decide +kernel
theorem dL_motion_286 : decode cL_motion 286 = .ok (.iinc 10 1, 3) := by decide +kernel
theorem dL_motion_289 : decode cL_motion 289 = .ok (.goto (-178), 3) := by decide +kernel
theorem dL_motion_292 : decode cL_motion 292 = .ok (.aload_n 0, 1) := by decide +kernel
theorem dL_motion_293 : decode cL_motion 293 = .ok (.bipush 7, 2) := by decide +kernel
theorem dL_motion_295 : decode cL_motion 295 = .ok (.invokevirtual 35, 3) := by decide +kernel
theorem dL_motion_298 : decode cL_motion 298 = .ok (.iload 8, 2) := by decide +kernel
theorem dL_motion_300 : decode cL_motion 300 = .ok (.if_icmp .ne 18, 3) := by decide +kernel
theorem dL_motion_303 : decode cL_motion 303 = .ok (.aload_n 0, 1) := by decide +kernel
theorem dL_motion_304 : decode cL_motion 304 = .ok (.bipush 8, 2) := by decide +kernel
theorem dL_motion_306 : decode cL_motion 306 = .ok (.invokevirtual 35, 3) := by decide +kernel
theorem dL_motion_309 : decode cL_motion 309 = .ok (.iload 9, 2) := by decide +kernel
theorem dL_motion_311 : decode cL_motion 311 = .ok (.if_icmp .ne 7, 3) := by decide +kernel
theorem dL_motion_314 : decode cL_motion 314 = .ok (.iconst 1, 1) := by decide +kernel
theorem dL_motion_315 : decode cL_motion 315 = .ok (.goto 4, 3) := by decide +kernel
theorem dL_motion_318 : decode cL_motion 318 = .ok (.iconst 0, 1) := by decide +kernel
theorem dL_motion_319 : decode cL_motion 319 = .ok (.ireturn, 1) := by decide +kernel
theorem dL_is_0 : decode cL_is 0 = .ok (.iload 4, 2) := by decide +kernel
theorem dL_is_2 : decode cL_is 2 = .ok (.ifCond .lt 42, 3) := by decide +kernel
theorem dL_is_5 : decode cL_is 5 = .ok (.iload 4, 2) := by decide +kernel
theorem dL_is_7 : decode cL_is 7 = .ok (.bipush 80, 2) := by decide +kernel
theorem dL_is_9 : decode cL_is 9 = .ok (.if_icmp .ge 35, 3) := by decide +kernel
theorem dL_is_12 : decode cL_is 12 = .ok (.iload 4, 2) := by decide +kernel
theorem dL_is_14 : decode cL_is 14 = .ok (.bipush 40, 2) := by decide +kernel
theorem dL_is_16 : decode cL_is 16 = .ok (.if_icmp .ge 10, 3) := by decide +kernel
theorem dL_is_19 : decode cL_is 19 = .ok (.lload_n 0, 1) := by decide +kernel
theorem dL_is_20 : decode cL_is 20 = .ok (.iload 4, 2) := by decide +kernel
theorem dL_is_22 : decode cL_is 22 = .ok (.lshr, 1) := by decide +kernel
theorem dL_is_23 : decode cL_is 23 = .ok (.goto 10, 3) := by decide +kernel
theorem dL_is_26 : decode cL_is 26 = .ok (.lload_n 2, 1) := by decide +kernel
theorem dL_is_27 : decode cL_is 27 = .ok (.iload 4, 2) := by decide +kernel
theorem dL_is_29 : decode cL_is 29 = .ok (.bipush 40, 2) := by decide +kernel
theorem dL_is_31 : decode cL_is 31 = .ok (.isub, 1) := by decide +kernel
theorem dL_is_32 : decode cL_is 32 = .ok (.lshr, 1) := by decide +kernel
theorem dL_is_33 : decode cL_is 33 = .ok (.lconst 1, 1) := by decide +kernel
theorem dL_is_34 : decode cL_is 34 = .ok (.land, 1) := by decide +kernel
theorem dL_is_35 : decode cL_is 35 = .ok (.lconst 1, 1) := by decide +kernel
theorem dL_is_36 : decode cL_is 36 = .ok (.lcmp, 1) := by decide +kernel
theorem dL_is_37 : decode cL_is 37 = .ok (.ifCond .ne 7, 3) := by decide +kernel
theorem dL_is_40 : decode cL_is 40 = .ok (.iconst 1, 1) := by decide +kernel
theorem dL_is_41 : decode cL_is 41 = .ok (.goto 4, 3) := by decide +kernel
theorem dL_is_44 : decode cL_is 44 = .ok (.iconst 0, 1) := by decide +kernel
theorem dL_is_45 : decode cL_is 45 = .ok (.ireturn, 1) := by decide +kernel
theorem dL_keep_0 : decode cL_keep 0 = .ok (.iconst 0, 1) := by decide +kernel
theorem dL_keep_1 : decode cL_keep 1 = .ok (.istore_n 3, 1) := by decide +kernel
theorem dL_keep_2 : decode cL_keep 2 = .ok (.iload_n 3, 1) := by decide +kernel
theorem dL_keep_3 : decode cL_keep 3 = .ok (.bipush 40, 2) := by decide +kernel
theorem dL_keep_5 : decode cL_keep 5 = .ok (.if_icmp .ge 41, 3) := by decide +kernel
theorem dL_keep_8 : decode cL_keep 8 = .ok (.aload_n 1, 1) := by decide +kernel
theorem dL_keep_9 : decode cL_keep 9 = .ok (.iload_n 3, 1) := by decide +kernel
theorem dL_keep_10 : decode cL_keep 10 = .ok (.aload_n 0, 1) := by decide +kernel
theorem dL_keep_11 : decode cL_keep 11 = .ok (.iload_n 3, 1) := by decide +kernel
theorem dL_keep_12 : decode cL_keep 12 = .ok (.bipush 10, 2) := by decide +kernel
theorem dL_keep_14 : decode cL_keep 14 = .ok (.idiv, 1) := by decide +kernel
theorem dL_keep_15 : decode cL_keep 15 = .ok (.iload_n 3, 1) := by decide +kernel
theorem dL_keep_16 : decode cL_keep 16 = .ok (.bipush 10, 2) := by decide +kernel
theorem dL_keep_18 : decode cL_keep 18 = .ok (.irem, 1) := by decide +kernel
theorem dL_keep_19 : decode cL_keep 19 = .ok (.invokevirtual 52, 3) := by decide +kernel
theorem dL_keep_22 : decode cL_keep 22 = .ok (.iastore, 1) := by decide +kernel
theorem dL_keep_23 : decode cL_keep 23 = .ok (.aload_n 2, 1) := by decide +kernel
theorem dL_keep_24 : decode cL_keep 24 = .ok (.iload_n 3, 1) := by decide +kernel
theorem dL_keep_25 : decode cL_keep 25 = .ok (.aload_n 0, 1) := by decide +kernel
theorem dL_keep_26 : decode cL_keep 26 = .ok (.iconst 4, 1) := by decide +kernel
theorem dL_keep_27 : decode cL_keep 27 = .ok (.iload_n 3, 1) := by decide +kernel
theorem dL_keep_28 : decode cL_keep 28 = .ok (.bipush 10, 2) := by decide +kernel
theorem dL_keep_30 : decode cL_keep 30 = .ok (.idiv, 1) := by decide +kernel
theorem dL_keep_31 : decode cL_keep 31 = .ok (.iadd, 1) := by decide +kernel
theorem dL_keep_32 : decode cL_keep 32 = .ok (.iload_n 3, 1) := by decide +kernel
theorem dL_keep_33 : decode cL_keep 33 = .ok (.bipush 10, 2) := by decide +kernel
theorem dL_keep_35 : decode cL_keep 35 = .ok (.irem, 1) := by decide +kernel
theorem dL_keep_36 : decode cL_keep 36 = .ok (.invokevirtual 52, 3) := by decide +kernel
theorem dL_keep_39 : decode cL_keep 39 = .ok (.iastore, 1) := by decide +kernel
theorem dL_keep_40 : decode cL_keep 40 = .ok (.iinc 3 1, 3) := by decide +kernel
theorem dL_keep_43 : decode cL_keep 43 = .ok (.goto (-41), 3) := by decide +kernel
theorem dL_keep_46 : decode cL_keep 46 = .ok (.return_, 1) := by decide +kernel
theorem dL_bars_0 : decode cL_bars 0 = .ok (.aload_n 0, 1) := by decide +kernel
theorem dL_bars_1 : decode cL_bars 1 = .ok (.invokevirtual 66, 3) := by decide +kernel
theorem dL_bars_4 : decode cL_bars 4 = .ok (.pop, 1) := by decide +kernel
theorem dL_bars_5 : decode cL_bars 5 = .ok (.aload_n 0, 1) := by decide +kernel
theorem dL_bars_6 : decode cL_bars 6 = .ok (.iload_n 1, 1) := by decide +kernel
theorem dL_bars_7 : decode cL_bars 7 = .ok (.invokevirtual 70, 3) := by decide +kernel
theorem dL_bars_10 : decode cL_bars 10 = .ok (.bipush (-100), 2) := by decide +kernel
theorem dL_bars_12 : decode cL_bars 12 = .ok (.if_icmp .ne 14, 3) := by decide +kernel
theorem dL_bars_15 : decode cL_bars 15 = .ok (.aload_n 0, 1) := by decide +kernel
theorem dL_bars_16 : decode cL_bars 16 = .ok (.bipush 8, 2) := by decide +kernel
theorem dL_bars_18 : decode cL_bars 18 = .ok (.invokevirtual 70, 3) := by decide +kernel
theorem dL_bars_21 : decode cL_bars 21 = .ok (.ldc 73, 2) := by decide +kernel
theorem dL_bars_23 : decode cL_bars 23 = .ok (.if_icmp .eq 5, 3) := by decide +kernel
theorem dL_bars_26 : decode cL_bars 26 = .ok (.iconst 0, 1) := by decide +kernel
theorem dL_bars_27 : decode cL_bars 27 = .ok (.ireturn, 1) := by decide +kernel
theorem dL_bars_28 : decode cL_bars 28 = .ok (.iconst 1, 1) := by decide +kernel
theorem dL_bars_29 : decode cL_bars 29 = .ok (.iload_n 2, 1) := by decide +kernel
theorem dL_bars_30 : decode cL_bars 30 = .ok (.bipush 9, 2) := by decide +kernel
theorem dL_bars_32 : decode cL_bars 32 = .ok (.invokestatic 74, 3) := by decide +kernel
theorem dL_bars_35 : decode cL_bars 35 = .ok (.iadd, 1) := by decide +kernel
theorem dL_bars_36 : decode cL_bars 36 = .ok (.istore 4, 2) := by decide +kernel
theorem dL_bars_38 : decode cL_bars 38 = .ok (.aload_n 0, 1) := by decide +kernel
theorem dL_bars_39 : decode cL_bars 39 = .ok (.bipush 114, 2) := by decide +kernel
theorem dL_bars_41 : decode cL_bars 41 = .ok (.invokevirtual 77, 3) := by decide +kernel
theorem dL_bars_44 : decode cL_bars 44 = .ok (.pop, 1) := by decide +kernel
theorem dL_bars_45 : decode cL_bars 45 = .ok (.aload_n 0, 1) := by decide +kernel
theorem dL_bars_46 : decode cL_bars 46 = .ok (.bipush 48, 2) := by decide +kernel
theorem dL_bars_48 : decode cL_bars 48 = .ok (.iload 4, 2) := by decide +kernel
theorem dL_bars_50 : decode cL_bars 50 = .ok (.iadd, 1) := by decide +kernel
theorem dL_bars_51 : decode cL_bars 51 = .ok (.i2c, 1) := by decide +kernel
theorem dL_bars_52 : decode cL_bars 52 = .ok (.invokevirtual 77, 3) := by decide +kernel
theorem dL_bars_55 : decode cL_bars 55 = .ok (.pop, 1) := by decide +kernel
theorem dL_bars_56 : decode cL_bars 56 = .ok (.iload 4, 2) := by decide +kernel
theorem dL_bars_58 : decode cL_bars 58 = .ok (.bipush 10, 2) := by decide +kernel
theorem dL_bars_60 : decode cL_bars 60 = .ok (.if_icmp .ge 17, 3) := by decide +kernel
theorem dL_bars_63 : decode cL_bars 63 = .ok (.aload_n 0, 1) := by decide +kernel
theorem dL_bars_64 : decode cL_bars 64 = .ok (.iload_n 1, 1) := by decide +kernel
theorem dL_bars_65 : decode cL_bars 65 = .ok (.invokevirtual 70, 3) := by decide +kernel
theorem dL_bars_68 : decode cL_bars 68 = .ok (.bipush (-102), 2) := by decide +kernel
theorem dL_bars_70 : decode cL_bars 70 = .ok (.if_icmp .ne 7, 3) := by decide +kernel
theorem dL_bars_73 : decode cL_bars 73 = .ok (.iconst 1, 1) := by decide +kernel
theorem dL_bars_74 : decode cL_bars 74 = .ok (.goto 4, 3) := by decide +kernel
theorem dL_bars_77 : decode cL_bars 77 = .ok (.iconst 0, 1) := by decide +kernel
theorem dL_bars_78 : decode cL_bars 78 = .ok (.istore 5, 2) := by decide +kernel
theorem dL_bars_80 : decode cL_bars 80 = .ok (.aload_n 0, 1) := by decide +kernel
theorem dL_bars_81 : decode cL_bars 81 = .ok (.bipush 121, 2) := by decide +kernel
theorem dL_bars_83 : decode cL_bars 83 = .ok (.invokevirtual 77, 3) := by decide +kernel
theorem dL_bars_86 : decode cL_bars 86 = .ok (.pop, 1) := by decide +kernel
theorem dL_bars_87 : decode cL_bars 87 = .ok (.iconst 3, 1) := by decide +kernel
theorem dL_bars_88 : decode cL_bars 88 = .ok (.istore 6, 2) := by decide +kernel
theorem dL_bars_90 : decode cL_bars 90 = .ok (.bipush 10, 2) := by decide +kernel
theorem dL_bars_92 : decode cL_bars 92 = .ok (.iload 4, 2) := by decide +kernel
theorem dL_bars_94 : decode cL_bars 94 = .ok (.isub, 1) := by decide +kernel
theorem dL_bars_95 : decode cL_bars 95 = .ok (.iconst 1, 1) := by decide +kernel
theorem dL_bars_96 : decode cL_bars 96 = .ok (.if_icmp .le 17, 3) := by decide +kernel
theorem dL_bars_99 : decode cL_bars 99 = .ok (.aload_n 0, 1) := by decide +kernel
theorem dL_bars_100 : decode cL_bars 100 = .ok (.bipush 58, 2) := by decide +kernel
theorem dL_bars_102 : decode cL_bars 102 = .ok (.iload 4, 2) := by decide +kernel
theorem dL_bars_104 : decode cL_bars 104 = .ok (.isub, 1) := by decide +kernel
theorem dL_bars_105 : decode cL_bars 105 = .ok (.i2c, 1) := by decide +kernel
theorem dL_bars_106 : decode cL_bars 106 = .ok (.invokevirtual 77, 3) := by decide +kernel
theorem dL_bars_109 : decode cL_bars 109 = .ok (.pop, 1) := by decide +kernel
theorem dL_bars_110 : decode cL_bars 110 = .ok (.iconst 4, 1) := by decide +kernel
theorem dL_bars_111 : decode cL_bars 111 = .ok (.istore 6, 2) := by decide +kernel
theorem dL_bars_113 : decode cL_bars 113 = .ok (.iload 5, 2) := by decide +kernel
theorem dL_bars_115 : decode cL_bars 115 = .ok (.ifCond .eq 12, 3) := by decide +kernel
theorem dL_bars_118 : decode cL_bars 118 = .ok (.aload_n 0, 1) := by decide +kernel
theorem dL_bars_119 : decode cL_bars 119 = .ok (.iload_n 1, 1) := by decide +kernel
theorem dL_bars_120 : decode cL_bars 120 = .ok (.invokevirtual 70, 3) := by decide +kernel
theorem dL_bars_123 : decode cL_bars 123 = .ok (.iconst 2, 1) := by decide +kernel
theorem dL_bars_124 : decode cL_bars 124 = .ok (.if_icmp .eq 5, 3) := by decide +kernel
theorem dL_bars_127 : decode cL_bars 127 = .ok (.iconst 0, 1) := by decide +kernel
theorem dL_bars_128 : decode cL_bars 128 = .ok (.ireturn, 1) := by decide +kernel
theorem dL_bars_129 : decode cL_bars 129 = .ok (.aload_n 0, 1) := by decide +kernel
theorem dL_bars_130 : decode cL_bars 130 = .ok (.bipush 98, 2) := by decide +kernel
theorem dL_bars_132 : decode cL_bars 132 = .ok (.invokevirtual 77, 3) := by decide +kernel
theorem dL_bars_135 : decode cL_bars 135 = .ok (.pop, 1) := by decide +kernel
theorem dL_bars_136 : decode cL_bars 136 = .ok (.aload_n 0, 1) := by decide +kernel
theorem dL_bars_137 : decode cL_bars 137 = .ok (.iload_n 1, 1) := by decide +kernel
theorem dL_bars_138 : decode cL_bars 138 = .ok (.invokevirtual 70, 3) := by decide +kernel
theorem dL_bars_141 : decode cL_bars 141 = .ok (.bipush (-100), 2) := by decide +kernel
theorem dL_bars_143 : decode cL_bars 143 = .ok (.iload 6, 2) := by decide +kernel
theorem dL_bars_145 : decode cL_bars 145 = .ok (.isub, 1) := by decide +kernel
theorem dL_bars_146 : decode cL_bars 146 = .ok (.if_icmp .ne 7, 3) := by decide +kernel
theorem dL_bars_149 : decode cL_bars 149 = .ok (.iconst 1, 1) := by decide +kernel
theorem dL_bars_150 : decode cL_bars 150 = .ok (.goto 4, 3) := by decide +kernel
theorem dL_bars_153 : decode cL_bars 153 = .ok (.iconst 0, 1) := by decide +kernel
theorem dL_bars_154 : decode cL_bars 154 = .ok (.istore 7, 2) := by decide +kernel
theorem dL_bars_156 : decode cL_bars 156 = .ok (.aload_n 0, 1) := by decide +kernel
theorem dL_bars_157 : decode cL_bars 157 = .ok (.invokevirtual 66, 3) := by decide +kernel
theorem dL_bars_160 : decode cL_bars 160 = .ok (.pop, 1) := by decide +kernel
theorem dL_bars_161 : decode cL_bars 161 = .ok (.aload_n 0, 1) := by decide +kernel
theorem dL_bars_162 : decode cL_bars 162 = .ok (.bipush 107, 2) := by decide +kernel
theorem dL_bars_164 : decode cL_bars 164 = .ok (.invokevirtual 77, 3) := by decide +kernel
theorem dL_bars_167 : decode cL_bars 167 = .ok (.pop, 1) := by decide +kernel
theorem dL_bars_168 : decode cL_bars 168 = .ok (.aload_n 0, 1) := by decide +kernel
theorem dL_bars_169 : decode cL_bars 169 = .ok (.bipush 53, 2) := by decide +kernel
theorem dL_bars_171 : decode cL_bars 171 = .ok (.invokevirtual 77, 3) := by decide +kernel
theorem dL_bars_174 : decode cL_bars 174 = .ok (.pop, 1) := by decide +kernel
theorem dL_bars_175 : decode cL_bars 175 = .ok (.aload_n 0, 1) := by decide +kernel
theorem dL_bars_176 : decode cL_bars 176 = .ok (.bipush 109, 2) := by decide +kernel
theorem dL_bars_178 : decode cL_bars 178 = .ok (.invokevirtual 77, 3) := by decide +kernel
theorem dL_bars_181 : decode cL_bars 181 = .ok (.pop, 1) := by decide +kernel
theorem dL_bars_182 : decode cL_bars 182 = .ok (.aload_n 0, 1) := by decide +kernel
theorem dL_bars_183 : decode cL_bars 183 = .ok (.bipush 54, 2) := by decide +kernel
theorem dL_bars_185 : decode cL_bars 185 = .ok (.invokevirtual 77, 3) := by decide +kernel
theorem dL_bars_188 : decode cL_bars 188 = .ok (.pop, 1) := by decide +kernel
theorem dL_bars_189 : decode cL_bars 189 = .ok (.aload_n 0, 1) := by decide +kernel
theorem dL_bars_190 : decode cL_bars 190 = .ok (.iload_n 1, 1) := by decide +kernel
theorem dL_bars_191 : decode cL_bars 191 = .ok (.invokevirtual 70, 3) := by decide +kernel
theorem dL_bars_194 : decode cL_bars 194 = .ok (.bipush (-103), 2) := by decide +kernel
theorem dL_bars_196 : decode cL_bars 196 = .ok (.if_icmp .ne 7, 3) := by decide +kernel
theorem dL_bars_199 : decode cL_bars 199 = .ok (.iconst 1, 1) := by decide +kernel
theorem dL_bars_200 : decode cL_bars 200 = .ok (.goto 4, 3) := by decide +kernel
theorem dL_bars_203 : decode cL_bars 203 = .ok (.iconst 0, 1) := by decide +kernel
theorem dL_bars_204 : decode cL_bars 204 = .ok (.istore 8, 2) := by decide +kernel
theorem dL_bars_206 : decode cL_bars 206 = .ok (.aload_n 0, 1) := by decide +kernel
theorem dL_bars_207 : decode cL_bars 207 = .ok (.invokevirtual 66, 3) := by decide +kernel
theorem dL_bars_210 : decode cL_bars 210 = .ok (.pop, 1) := by decide +kernel
theorem dL_bars_211 : decode cL_bars 211 = .ok (.aload_n 0, 1) := by decide +kernel
theorem dL_bars_212 : decode cL_bars 212 = .ok (.iload_n 3, 1) := by decide +kernel
theorem dL_bars_213 : decode cL_bars 213 = .ok (.iconst 1, 1) := by decide +kernel
theorem dL_bars_214 : decode cL_bars 214 = .ok (.iand, 1) := by decide +kernel
theorem dL_bars_215 : decode cL_bars 215 = .ok (.ifCond .ne 8, 3) := by decide +kernel
theorem dL_bars_218 : decode cL_bars 218 = .ok (.bipush 51, 2) := by decide +kernel
theorem dL_bars_220 : decode cL_bars 220 = .ok (.goto 5, 3) := by decide +kernel
theorem dL_bars_223 : decode cL_bars 223 = .ok (.bipush 120, 2) := by decide +kernel
theorem dL_bars_225 : decode cL_bars 225 = .ok (.invokevirtual 77, 3) := by decide +kernel
theorem dL_bars_228 : decode cL_bars 228 = .ok (.pop, 1) := by decide +kernel
theorem dL_bars_229 : decode cL_bars 229 = .ok (.iload 7, 2) := by decide +kernel
theorem dL_bars_231 : decode cL_bars 231 = .ok (.ifCond .eq 32, 3) := by decide +kernel
theorem dL_bars_234 : decode cL_bars 234 = .ok (.iload 8, 2) := by decide +kernel
theorem dL_bars_236 : decode cL_bars 236 = .ok (.ifCond .eq 27, 3) := by decide +kernel
theorem dL_bars_239 : decode cL_bars 239 = .ok (.aload_n 0, 1) := by decide +kernel
theorem dL_bars_240 : decode cL_bars 240 = .ok (.iload_n 1, 1) := by decide +kernel
theorem dL_bars_241 : decode cL_bars 241 = .ok (.invokevirtual 70, 3) := by decide +kernel
theorem dL_bars_244 : decode cL_bars 244 = .ok (.bipush (-100), 2) := by decide +kernel
theorem dL_bars_246 : decode cL_bars 246 = .ok (.if_icmp .ne 17, 3) := by decide +kernel
theorem dL_bars_249 : decode cL_bars 249 = .ok (.aload_n 0, 1) := by decide +kernel
theorem dL_bars_250 : decode cL_bars 250 = .ok (.bipush 14, 2) := by decide +kernel
theorem dL_bars_252 : decode cL_bars 252 = .ok (.invokevirtual 35, 3) := by decide +kernel
theorem dL_bars_255 : decode cL_bars 255 = .ok (.iconst 1, 1) := by decide +kernel
theorem dL_bars_256 : decode cL_bars 256 = .ok (.if_icmp .ne 7, 3) := by decide +kernel
theorem dL_bars_259 : decode cL_bars 259 = .ok (.iconst 1, 1) := by decide +kernel
theorem dL_bars_260 : decode cL_bars 260 = .ok (.goto 4, 3) := by decide +kernel
theorem dL_bars_263 : decode cL_bars 263 = .ok (.iconst 0, 1) := by decide +kernel
theorem dL_bars_264 : decode cL_bars 264 = .ok (.ireturn, 1) := by decide +kernel
theorem dL_errors_0 : decode cL_errors 0 = .ok (.ldc 73, 2) := by decide +kernel
theorem dL_errors_2 : decode cL_errors 2 = .ok (.istore_n 1, 1) := by decide +kernel
theorem dL_errors_3 : decode cL_errors 3 = .ok (.ldc 41, 2) := by decide +kernel
theorem dL_errors_5 : decode cL_errors 5 = .ok (.istore_n 2, 1) := by decide +kernel
theorem dL_errors_6 : decode cL_errors 6 = .ok (.aload_n 0, 1) := by decide +kernel
theorem dL_errors_7 : decode cL_errors 7 = .ok (.bipush 8, 2) := by decide +kernel
theorem dL_errors_9 : decode cL_errors 9 = .ok (.iconst 0, 1) := by decide +kernel
theorem dL_errors_10 : decode cL_errors 10 = .ok (.iconst 0, 1) := by decide +kernel
theorem dL_errors_11 : decode cL_errors 11 = .ok (.iconst 0, 1) := by decide +kernel
theorem dL_errors_12 : decode cL_errors 12 = .ok (.iconst 0, 1) := by decide +kernel
theorem dL_errors_13 : decode cL_errors 13 = .ok (.invokevirtual 81, 3) := by decide +kernel
theorem dL_errors_16 : decode cL_errors 16 = .ok (.iload_n 1, 1) := by decide +kernel
theorem dL_errors_17 : decode cL_errors 17 = .ok (.if_icmp .ne 88, 3) := by decide +kernel
theorem dL_errors_20 : decode cL_errors 20 = .ok (.aload_n 0, 1) := by decide +kernel
theorem dL_errors_21 : decode cL_errors 21 = .ok (.iconst 0, 1) := by decide +kernel
theorem dL_errors_22 : decode cL_errors 22 = .ok (.bipush 10, 2) := by decide +kernel
theorem dL_errors_24 : decode cL_errors 24 = .ok (.iconst 0, 1) := by decide +kernel
theorem dL_errors_25 : decode cL_errors 25 = .ok (.iconst 0, 1) := by decide +kernel
theorem dL_errors_26 : decode cL_errors 26 = .ok (.iconst 0, 1) := by decide +kernel
theorem dL_errors_27 : decode cL_errors 27 = .ok (.invokevirtual 81, 3) := by decide +kernel
theorem dL_errors_30 : decode cL_errors 30 = .ok (.iload_n 1, 1) := by decide +kernel
theorem dL_errors_31 : decode cL_errors 31 = .ok (.if_icmp .ne 74, 3) := by decide +kernel
theorem dL_errors_34 : decode cL_errors 34 = .ok (.aload_n 0, 1) := by decide +kernel
theorem dL_errors_35 : decode cL_errors 35 = .ok (.iconst 0, 1) := by decide +kernel
theorem dL_errors_36 : decode cL_errors 36 = .ok (.iconst 0, 1) := by decide +kernel
theorem dL_errors_37 : decode cL_errors 37 = .ok (.sipush 201, 3) := by decide +kernel
theorem dL_errors_40 : decode cL_errors 40 = .ok (.iconst 0, 1) := by decide +kernel
theorem dL_errors_41 : decode cL_errors 41 = .ok (.iconst 0, 1) := by decide +kernel
theorem dL_errors_42 : decode cL_errors 42 = .ok (.invokevirtual 81, 3) := by decide +kernel
theorem dL_errors_45 : decode cL_errors 45 = .ok (.iload_n 2, 1) := by decide +kernel
theorem dL_errors_46 : decode cL_errors 46 = .ok (.if_icmp .ne 59, 3) := by decide +kernel
theorem dL_errors_49 : decode cL_errors 49 = .ok (.aload_n 0, 1) := by decide +kernel
theorem dL_errors_50 : decode cL_errors 50 = .ok (.iconst 0, 1) := by decide +kernel
theorem dL_errors_51 : decode cL_errors 51 = .ok (.iconst 0, 1) := by decide +kernel
theorem dL_errors_52 : decode cL_errors 52 = .ok (.iconst 0, 1) := by decide +kernel
theorem dL_errors_53 : decode cL_errors 53 = .ok (.bipush 61, 2) := by decide +kernel
theorem dL_errors_55 : decode cL_errors 55 = .ok (.iconst 0, 1) := by decide +kernel
theorem dL_errors_56 : decode cL_errors 56 = .ok (.invokevirtual 81, 3) := by decide +kernel
theorem dL_errors_59 : decode cL_errors 59 = .ok (.iload_n 2, 1) := by decide +kernel
theorem dL_errors_60 : decode cL_errors 60 = .ok (.if_icmp .ne 45, 3) := by decide +kernel
theorem dL_errors_63 : decode cL_errors 63 = .ok (.aload_n 0, 1) := by decide +kernel
theorem dL_errors_64 : decode cL_errors 64 = .ok (.iconst 0, 1) := by decide +kernel
theorem dL_errors_65 : decode cL_errors 65 = .ok (.iconst 0, 1) := by decide +kernel
theorem dL_errors_66 : decode cL_errors 66 = .ok (.iconst 0, 1) := by decide +kernel
theorem dL_errors_67 : decode cL_errors 67 = .ok (.iconst 0, 1) := by decide +kernel
theorem dL_errors_68 : decode cL_errors 68 = .ok (.bipush (-61), 2) := by decide +kernel
theorem dL_errors_70 : decode cL_errors 70 = .ok (.invokevirtual 81, 3) := by decide +kernel
theorem dL_errors_73 : decode cL_errors 73 = .ok (.iload_n 2, 1) := by decide +kernel
theorem dL_errors_74 : decode cL_errors 74 = .ok (.if_icmp .ne 31, 3) := by decide +kernel
theorem dL_errors_77 : decode cL_errors 77 = .ok (.aload_n 0, 1) := by decide +kernel
theorem dL_errors_78 : decode cL_errors 78 = .ok (.iconst (-1), 1) := by decide +kernel
theorem dL_errors_79 : decode cL_errors 79 = .ok (.iconst 0, 1) := by decide +kernel
theorem dL_errors_80 : decode cL_errors 80 = .ok (.iconst 0, 1) := by decide +kernel
theorem dL_errors_81 : decode cL_errors 81 = .ok (.iconst 0, 1) := by decide +kernel
theorem dL_errors_82 : decode cL_errors 82 = .ok (.invokevirtual 85, 3) := by decide +kernel
theorem dL_errors_85 : decode cL_errors 85 = .ok (.iload_n 1, 1) := by decide +kernel
theorem dL_errors_86 : decode cL_errors 86 = .ok (.if_icmp .ne 19, 3) := by decide +kernel
theorem dL_errors_89 : decode cL_errors 89 = .ok (.aload_n 0, 1) := by decide +kernel
theorem dL_errors_90 : decode cL_errors 90 = .ok (.iconst 0, 1) := by decide +kernel
theorem dL_errors_91 : decode cL_errors 91 = .ok (.iconst (-1), 1) := by decide +kernel
theorem dL_errors_92 : decode cL_errors 92 = .ok (.iconst 0, 1) := by decide +kernel
theorem dL_errors_93 : decode cL_errors 93 = .ok (.iconst 0, 1) := by decide +kernel
theorem dL_errors_94 : decode cL_errors 94 = .ok (.invokevirtual 85, 3) := by decide +kernel
theorem dL_errors_97 : decode cL_errors 97 = .ok (.iload_n 2, 1) := by decide +kernel
theorem dL_errors_98 : decode cL_errors 98 = .ok (.if_icmp .ne 7, 3) := by decide +kernel
theorem dL_errors_101 : decode cL_errors 101 = .ok (.iconst 1, 1) := by decide +kernel
theorem dL_errors_102 : decode cL_errors 102 = .ok (.goto 4, 3) := by decide +kernel
theorem dL_errors_105 : decode cL_errors 105 = .ok (.iconst 0, 1) := by decide +kernel
theorem dL_errors_106 : decode cL_errors 106 = .ok (.istore_n 3, 1) := by decide +kernel
theorem dL_errors_107 : decode cL_errors 107 = .ok (.iload_n 3, 1) := by decide +kernel
theorem dL_errors_108 : decode cL_errors 108 = .ok (.ifCond .eq 117, 3) := by decide +kernel
theorem dL_errors_111 : decode cL_errors 111 = .ok (.aload_n 0, 1) := by decide +kernel
theorem dL_errors_112 : decode cL_errors 112 = .ok (.bipush 8, 2) := by decide +kernel
theorem dL_errors_114 : decode cL_errors 114 = .ok (.iconst 0, 1) := by decide +kernel
theorem dL_errors_115 : decode cL_errors 115 = .ok (.iconst 0, 1) := by decide +kernel
theorem dL_errors_116 : decode cL_errors 116 = .ok (.iconst 0, 1) := by decide +kernel
theorem dL_errors_117 : decode cL_errors 117 = .ok (.iconst 0, 1) := by decide +kernel
theorem dL_errors_118 : decode cL_errors 118 = .ok (.invokevirtual 89, 3) := by decide +kernel
theorem dL_errors_121 : decode cL_errors 121 = .ok (.iload_n 1, 1) := by decide +kernel
theorem dL_errors_122 : decode cL_errors 122 = .ok (.if_icmp .ne 103, 3) := by decide +kernel
theorem dL_errors_125 : decode cL_errors 125 = .ok (.aload_n 0, 1) := by decide +kernel
theorem dL_errors_126 : decode cL_errors 126 = .ok (.iconst 0, 1) := by decide +kernel
theorem dL_errors_127 : decode cL_errors 127 = .ok (.iconst 5, 1) := by decide +kernel
theorem dL_errors_128 : decode cL_errors 128 = .ok (.iconst 0, 1) := by decide +kernel
theorem dL_errors_129 : decode cL_errors 129 = .ok (.iconst 0, 1) := by decide +kernel
theorem dL_errors_130 : decode cL_errors 130 = .ok (.iconst 0, 1) := by decide +kernel
theorem dL_errors_131 : decode cL_errors 131 = .ok (.invokevirtual 89, 3) := by decide +kernel
theorem dL_errors_134 : decode cL_errors 134 = .ok (.iload_n 2, 1) := by decide +kernel
theorem dL_errors_135 : decode cL_errors 135 = .ok (.if_icmp .ne 90, 3) := by decide +kernel
theorem dL_errors_138 : decode cL_errors 138 = .ok (.aload_n 0, 1) := by decide +kernel
theorem dL_errors_139 : decode cL_errors 139 = .ok (.iconst 0, 1) := by decide +kernel
theorem dL_errors_140 : decode cL_errors 140 = .ok (.iconst 0, 1) := by decide +kernel
theorem dL_errors_141 : decode cL_errors 141 = .ok (.bipush 41, 2) := by decide +kernel
theorem dL_errors_143 : decode cL_errors 143 = .ok (.iconst 0, 1) := by decide +kernel
theorem dL_errors_144 : decode cL_errors 144 = .ok (.iconst 0, 1) := by decide +kernel
theorem dL_errors_145 : decode cL_errors 145 = .ok (.invokevirtual 89, 3) := by decide +kernel
theorem dL_errors_148 : decode cL_errors 148 = .ok (.iload_n 2, 1) := by decide +kernel
theorem dL_errors_149 : decode cL_errors 149 = .ok (.if_icmp .ne 76, 3) := by decide +kernel
theorem dL_errors_152 : decode cL_errors 152 = .ok (.aload_n 0, 1) := by decide +kernel
theorem dL_errors_153 : decode cL_errors 153 = .ok (.iconst 0, 1) := by decide +kernel
theorem dL_errors_154 : decode cL_errors 154 = .ok (.iconst 0, 1) := by decide +kernel
theorem dL_errors_155 : decode cL_errors 155 = .ok (.iconst 0, 1) := by decide +kernel
theorem dL_errors_156 : decode cL_errors 156 = .ok (.iconst 4, 1) := by decide +kernel
theorem dL_errors_157 : decode cL_errors 157 = .ok (.iconst 0, 1) := by decide +kernel
theorem dL_errors_158 : decode cL_errors 158 = .ok (.invokevirtual 89, 3) := by decide +kernel
theorem dL_errors_161 : decode cL_errors 161 = .ok (.iload_n 2, 1) := by decide +kernel
theorem dL_errors_162 : decode cL_errors 162 = .ok (.if_icmp .ne 63, 3) := by decide +kernel
theorem dL_errors_165 : decode cL_errors 165 = .ok (.aload_n 0, 1) := by decide +kernel
theorem dL_errors_166 : decode cL_errors 166 = .ok (.iconst 0, 1) := by decide +kernel
theorem dL_errors_167 : decode cL_errors 167 = .ok (.iconst 0, 1) := by decide +kernel
theorem dL_errors_168 : decode cL_errors 168 = .ok (.iconst 0, 1) := by decide +kernel
theorem dL_errors_169 : decode cL_errors 169 = .ok (.iconst 0, 1) := by decide +kernel
theorem dL_errors_170 : decode cL_errors 170 = .ok (.bipush 10, 2) := by decide +kernel
theorem dL_errors_172 : decode cL_errors 172 = .ok (.invokevirtual 89, 3) := by decide +kernel
theorem dL_errors_175 : decode cL_errors 175 = .ok (.iload_n 2, 1) := by decide +kernel
theorem dL_errors_176 : decode cL_errors 176 = .ok (.if_icmp .ne 49, 3) := by decide +kernel
theorem dL_errors_179 : decode cL_errors 179 = .ok (.aload_n 0, 1) := by decide +kernel
theorem dL_errors_180 : decode cL_errors 180 = .ok (.bipush 8, 2) := by decide +kernel
theorem dL_errors_182 : decode cL_errors 182 = .ok (.iconst 1, 1) := by decide +kernel
theorem dL_errors_183 : decode cL_errors 183 = .ok (.invokevirtual 92, 3) := by decide +kernel
theorem dL_errors_186 : decode cL_errors 186 = .ok (.iload_n 1, 1) := by decide +kernel
theorem dL_errors_187 : decode cL_errors 187 = .ok (.if_icmp .ne 38, 3) := by decide +kernel
theorem dL_errors_190 : decode cL_errors 190 = .ok (.aload_n 0, 1) := by decide +kernel
theorem dL_errors_191 : decode cL_errors 191 = .ok (.iconst 2, 1) := by decide +kernel
theorem dL_errors_192 : decode cL_errors 192 = .ok (.invokevirtual 96, 3) := by decide +kernel
theorem dL_errors_195 : decode cL_errors 195 = .ok (.iload_n 2, 1) := by decide +kernel
theorem dL_errors_196 : decode cL_errors 196 = .ok (.if_icmp .ne 29, 3) := by decide +kernel
theorem dL_errors_199 : decode cL_errors 199 = .ok (.aload_n 0, 1) := by decide +kernel
theorem dL_errors_200 : decode cL_errors 200 = .ok (.bipush 8, 2) := by decide +kernel
theorem dL_errors_202 : decode cL_errors 202 = .ok (.iconst 0, 1) := by decide +kernel
theorem dL_errors_203 : decode cL_errors 203 = .ok (.invokevirtual 9, 3) := by decide +kernel
theorem dL_errors_206 : decode cL_errors 206 = .ok (.iload_n 1, 1) := by decide +kernel
theorem dL_errors_207 : decode cL_errors 207 = .ok (.if_icmp .ne 18, 3) := by decide +kernel
theorem dL_errors_210 : decode cL_errors 210 = .ok (.aload_n 0, 1) := by decide +kernel
theorem dL_errors_211 : decode cL_errors 211 = .ok (.iconst 0, 1) := by decide +kernel
theorem dL_errors_212 : decode cL_errors 212 = .ok (.bipush 112, 2) := by decide +kernel
theorem dL_errors_214 : decode cL_errors 214 = .ok (.invokevirtual 9, 3) := by decide +kernel
theorem dL_errors_217 : decode cL_errors 217 = .ok (.iload_n 2, 1) := by decide +kernel
theorem dL_errors_218 : decode cL_errors 218 = .ok (.if_icmp .ne 7, 3) := by decide +kernel
theorem dL_errors_221 : decode cL_errors 221 = .ok (.iconst 1, 1) := by decide +kernel
theorem dL_errors_222 : decode cL_errors 222 = .ok (.goto 4, 3) := by decide +kernel
theorem dL_errors_225 : decode cL_errors 225 = .ok (.iconst 0, 1) := by decide +kernel
theorem dL_errors_226 : decode cL_errors 226 = .ok (.istore_n 3, 1) := by decide +kernel
theorem dL_errors_227 : decode cL_errors 227 = .ok (.iload_n 3, 1) := by decide +kernel
theorem dL_errors_228 : decode cL_errors 228 = .ok (.ifCond .eq 101, 3) := by decide +kernel
theorem dL_errors_231 : decode cL_errors 231 = .ok (.aload_n 0, 1) := by decide +kernel
theorem dL_errors_232 : decode cL_errors 232 = .ok (.iconst 4, 1) := by decide +kernel
theorem dL_errors_233 : decode cL_errors 233 = .ok (.iconst 0, 1) := by decide +kernel
theorem dL_errors_234 : decode cL_errors 234 = .ok (.invokevirtual 99, 3) := by decide +kernel
theorem dL_errors_237 : decode cL_errors 237 = .ok (.iload_n 1, 1) := by decide +kernel
theorem dL_errors_238 : decode cL_errors 238 = .ok (.if_icmp .ne 91, 3) := by decide +kernel
theorem dL_errors_241 : decode cL_errors 241 = .ok (.aload_n 0, 1) := by decide +kernel
theorem dL_errors_242 : decode cL_errors 242 = .ok (.iconst 0, 1) := by decide +kernel
theorem dL_errors_243 : decode cL_errors 243 = .ok (.iconst 0, 1) := by decide +kernel
theorem dL_errors_244 : decode cL_errors 244 = .ok (.invokevirtual 99, 3) := by decide +kernel
theorem dL_errors_247 : decode cL_errors 247 = .ok (.iload_n 2, 1) := by decide +kernel
theorem dL_errors_248 : decode cL_errors 248 = .ok (.if_icmp .ne 81, 3) := by decide +kernel
theorem dL_errors_251 : decode cL_errors 251 = .ok (.aload_n 0, 1) := by decide +kernel
theorem dL_errors_252 : decode cL_errors 252 = .ok (.iconst 0, 1) := by decide +kernel
theorem dL_errors_253 : decode cL_errors 253 = .ok (.bipush 41, 2) := by decide +kernel
theorem dL_errors_255 : decode cL_errors 255 = .ok (.invokevirtual 99, 3) := by decide +kernel
theorem dL_errors_258 : decode cL_errors 258 = .ok (.iload_n 2, 1) := by decide +kernel
theorem dL_errors_259 : decode cL_errors 259 = .ok (.if_icmp .ne 70, 3) := by decide +kernel
theorem dL_errors_262 : decode cL_errors 262 = .ok (.aload_n 0, 1) := by decide +kernel
theorem dL_errors_263 : decode cL_errors 263 = .ok (.iconst 1, 1) := by decide +kernel
theorem dL_errors_264 : decode cL_errors 264 = .ok (.bipush 101, 2) := by decide +kernel
theorem dL_errors_266 : decode cL_errors 266 = .ok (.invokevirtual 99, 3) := by decide +kernel
theorem dL_errors_269 : decode cL_errors 269 = .ok (.iload_n 2, 1) := by decide +kernel
theorem dL_errors_270 : decode cL_errors 270 = .ok (.if_icmp .ne 59, 3) := by decide +kernel
theorem dL_errors_273 : decode cL_errors 273 = .ok (.aload_n 0, 1) := by decide +kernel
theorem dL_errors_274 : decode cL_errors 274 = .ok (.iconst 2, 1) := by decide +kernel
theorem dL_errors_275 : decode cL_errors 275 = .ok (.iconst 4, 1) := by decide +kernel
theorem dL_errors_276 : decode cL_errors 276 = .ok (.invokevirtual 99, 3) := by decide +kernel
theorem dL_errors_279 : decode cL_errors 279 = .ok (.iload_n 2, 1) := by decide +kernel
theorem dL_errors_280 : decode cL_errors 280 = .ok (.if_icmp .ne 49, 3) := by decide +kernel
theorem dL_errors_283 : decode cL_errors 283 = .ok (.aload_n 0, 1) := by decide +kernel
theorem dL_errors_284 : decode cL_errors 284 = .ok (.iconst 3, 1) := by decide +kernel
theorem dL_errors_285 : decode cL_errors 285 = .ok (.iconst 3, 1) := by decide +kernel
theorem dL_errors_286 : decode cL_errors 286 = .ok (.invokevirtual 99, 3) := by decide +kernel
theorem dL_errors_289 : decode cL_errors 289 = .ok (.iload_n 2, 1) := by decide +kernel
theorem dL_errors_290 : decode cL_errors 290 = .ok (.if_icmp .ne 39, 3) := by decide +kernel
theorem dL_errors_293 : decode cL_errors 293 = .ok (.aload_n 0, 1) := by decide +kernel
theorem dL_errors_294 : decode cL_errors 294 = .ok (.bipush 8, 2) := by decide +kernel
theorem dL_errors_296 : decode cL_errors 296 = .ok (.iconst 0, 1) := by decide +kernel
theorem dL_errors_297 : decode cL_errors 297 = .ok (.invokevirtual 38, 3) := by decide +kernel
theorem dL_errors_300 : decode cL_errors 300 = .ok (.iload_n 1, 1) := by decide +kernel
theorem dL_errors_301 : decode cL_errors 301 = .ok (.if_icmp .ne 28, 3) := by decide +kernel
theorem dL_errors_304 : decode cL_errors 304 = .ok (.aload_n 0, 1) := by decide +kernel
theorem dL_errors_305 : decode cL_errors 305 = .ok (.iconst 0, 1) := by decide +kernel
theorem dL_errors_306 : decode cL_errors 306 = .ok (.bipush 10, 2) := by decide +kernel
theorem dL_errors_308 : decode cL_errors 308 = .ok (.invokevirtual 52, 3) := by decide +kernel
theorem dL_errors_311 : decode cL_errors 311 = .ok (.iload_n 1, 1) := by decide +kernel
theorem dL_errors_312 : decode cL_errors 312 = .ok (.if_icmp .ne 17, 3) := by decide +kernel
theorem dL_errors_315 : decode cL_errors 315 = .ok (.aload_n 0, 1) := by decide +kernel
theorem dL_errors_316 : decode cL_errors 316 = .ok (.iconst (-1), 1) := by decide +kernel
theorem dL_errors_317 : decode cL_errors 317 = .ok (.iconst 0, 1) := by decide +kernel
theorem dL_errors_318 : decode cL_errors 318 = .ok (.invokevirtual 49, 3) := by decide +kernel
theorem dL_errors_321 : decode cL_errors 321 = .ok (.iload_n 1, 1) := by decide +kernel
theorem dL_errors_322 : decode cL_errors 322 = .ok (.if_icmp .ne 7, 3) := by decide +kernel
theorem dL_errors_325 : decode cL_errors 325 = .ok (.iconst 1, 1) := by decide +kernel
theorem dL_errors_326 : decode cL_errors 326 = .ok (.goto 4, 3) := by decide +kernel
theorem dL_errors_329 : decode cL_errors 329 = .ok (.iconst 0, 1) := by decide +kernel
theorem dL_errors_330 : decode cL_errors 330 = .ok (.istore_n 3, 1) := by decide +kernel
theorem dL_errors_331 : decode cL_errors 331 = .ok (.iload_n 3, 1) := by decide +kernel
theorem dL_errors_332 : decode cL_errors 332 = .ok (.ifCond .eq 51, 3) := by decide +kernel
theorem dL_errors_335 : decode cL_errors 335 = .ok (.aload_n 0, 1) := by decide +kernel
theorem dL_errors_336 : decode cL_errors 336 = .ok (.iconst 0, 1) := by decide +kernel
theorem dL_errors_337 : decode cL_errors 337 = .ok (.bipush 10, 2) := by decide +kernel
theorem dL_errors_339 : decode cL_errors 339 = .ok (.iconst 0, 1) := by decide +kernel
theorem dL_errors_340 : decode cL_errors 340 = .ok (.invokevirtual 55, 3) := by decide +kernel
theorem dL_errors_343 : decode cL_errors 343 = .ok (.iload_n 1, 1) := by decide +kernel
theorem dL_errors_344 : decode cL_errors 344 = .ok (.if_icmp .ne 39, 3) := by decide +kernel
theorem dL_errors_347 : decode cL_errors 347 = .ok (.aload_n 0, 1) := by decide +kernel
theorem dL_errors_348 : decode cL_errors 348 = .ok (.iconst 0, 1) := by decide +kernel
theorem dL_errors_349 : decode cL_errors 349 = .ok (.iconst 0, 1) := by decide +kernel
theorem dL_errors_350 : decode cL_errors 350 = .ok (.iconst 2, 1) := by decide +kernel
theorem dL_errors_351 : decode cL_errors 351 = .ok (.invokevirtual 55, 3) := by decide +kernel
theorem dL_errors_354 : decode cL_errors 354 = .ok (.iload_n 2, 1) := by decide +kernel
theorem dL_errors_355 : decode cL_errors 355 = .ok (.if_icmp .ne 28, 3) := by decide +kernel
theorem dL_errors_358 : decode cL_errors 358 = .ok (.aload_n 0, 1) := by decide +kernel
theorem dL_errors_359 : decode cL_errors 359 = .ok (.bipush 8, 2) := by decide +kernel
theorem dL_errors_361 : decode cL_errors 361 = .ok (.iconst 0, 1) := by decide +kernel
theorem dL_errors_362 : decode cL_errors 362 = .ok (.invokevirtual 63, 3) := by decide +kernel
theorem dL_errors_365 : decode cL_errors 365 = .ok (.iload_n 1, 1) := by decide +kernel
theorem dL_errors_366 : decode cL_errors 366 = .ok (.if_icmp .ne 17, 3) := by decide +kernel
theorem dL_errors_369 : decode cL_errors 369 = .ok (.aload_n 0, 1) := by decide +kernel
theorem dL_errors_370 : decode cL_errors 370 = .ok (.bipush 19, 2) := by decide +kernel
theorem dL_errors_372 : decode cL_errors 372 = .ok (.invokevirtual 35, 3) := by decide +kernel
theorem dL_errors_375 : decode cL_errors 375 = .ok (.iload_n 2, 1) := by decide +kernel
theorem dL_errors_376 : decode cL_errors 376 = .ok (.if_icmp .ne 7, 3) := by decide +kernel
theorem dL_errors_379 : decode cL_errors 379 = .ok (.iconst 1, 1) := by decide +kernel
theorem dL_errors_380 : decode cL_errors 380 = .ok (.goto 4, 3) := by decide +kernel
theorem dL_errors_383 : decode cL_errors 383 = .ok (.iconst 0, 1) := by decide +kernel
theorem dL_errors_384 : decode cL_errors 384 = .ok (.ireturn, 1) := by decide +kernel
theorem dL_law_0 : decode cL_law 0 = .ok (.new 10, 3) := by decide +kernel
theorem dL_law_3 : decode cL_law 3 = .ok (.dup, 1) := by decide +kernel
theorem dL_law_4 : decode cL_law 4 = .ok (.invokespecial 102, 3) := by decide +kernel
theorem dL_law_7 : decode cL_law 7 = .ok (.astore_n 1, 1) := by decide +kernel
theorem dL_law_8 : decode cL_law 8 = .ok (.bipush 40, 2) := by decide +kernel
theorem dL_law_10 : decode cL_law 10 = .ok (.newarray .int, 2) := by decide +kernel
theorem dL_law_12 : decode cL_law 12 = .ok (.astore_n 2, 1) := by decide +kernel
theorem dL_law_13 : decode cL_law 13 = .ok (.bipush 40, 2) := by decide +kernel
theorem dL_law_15 : decode cL_law 15 = .ok (.newarray .int, 2) := by decide +kernel
theorem dL_law_17 : decode cL_law 17 = .ok (.astore_n 3, 1) := by decide +kernel
theorem dL_law_18 : decode cL_law 18 = .ok (.aload_n 1, 1) := by decide +kernel
theorem dL_law_19 : decode cL_law 19 = .ok (.iconst 0, 1) := by decide +kernel
theorem dL_law_20 : decode cL_law 20 = .ok (.iconst 0, 1) := by decide +kernel
theorem dL_law_21 : decode cL_law 21 = .ok (.invokevirtual 38, 3) := by decide +kernel
theorem dL_law_24 : decode cL_law 24 = .ok (.ldc 21, 2) := by decide +kernel
theorem dL_law_26 : decode cL_law 26 = .ok (.if_icmp .ne 65, 3) := by decide +kernel
theorem dL_law_29 : decode cL_law 29 = .ok (.aload_n 1, 1) := by decide +kernel
theorem dL_law_30 : decode cL_law 30 = .ok (.iconst 0, 1) := by decide +kernel
theorem dL_law_31 : decode cL_law 31 = .ok (.iconst 0, 1) := by decide +kernel
theorem dL_law_32 : decode cL_law 32 = .ok (.invokevirtual 52, 3) := by decide +kernel
theorem dL_law_35 : decode cL_law 35 = .ok (.ldc 21, 2) := by decide +kernel
theorem dL_law_37 : decode cL_law 37 = .ok (.if_icmp .ne 54, 3) := by decide +kernel
theorem dL_law_40 : decode cL_law 40 = .ok (.aload_n 1, 1) := by decide +kernel
theorem dL_law_41 : decode cL_law 41 = .ok (.iconst 0, 1) := by decide +kernel
theorem dL_law_42 : decode cL_law 42 = .ok (.iconst 0, 1) := by decide +kernel
theorem dL_law_43 : decode cL_law 43 = .ok (.invokevirtual 49, 3) := by decide +kernel
theorem dL_law_46 : decode cL_law 46 = .ok (.ldc 21, 2) := by decide +kernel
theorem dL_law_48 : decode cL_law 48 = .ok (.if_icmp .ne 43, 3) := by decide +kernel
theorem dL_law_51 : decode cL_law 51 = .ok (.aload_n 1, 1) := by decide +kernel
theorem dL_law_52 : decode cL_law 52 = .ok (.iconst 0, 1) := by decide +kernel
theorem dL_law_53 : decode cL_law 53 = .ok (.iconst 0, 1) := by decide +kernel
theorem dL_law_54 : decode cL_law 54 = .ok (.invokevirtual 63, 3) := by decide +kernel
theorem dL_law_57 : decode cL_law 57 = .ok (.ldc 21, 2) := by decide +kernel
theorem dL_law_59 : decode cL_law 59 = .ok (.if_icmp .ne 32, 3) := by decide +kernel
theorem dL_law_62 : decode cL_law 62 = .ok (.aload_n 1, 1) := by decide +kernel
theorem dL_law_63 : decode cL_law 63 = .ok (.iconst 1, 1) := by decide +kernel
theorem dL_law_64 : decode cL_law 64 = .ok (.invokevirtual 35, 3) := by decide +kernel
theorem dL_law_67 : decode cL_law 67 = .ok (.ldc 21, 2) := by decide +kernel
theorem dL_law_69 : decode cL_law 69 = .ok (.if_icmp .ne 22, 3) := by decide +kernel
theorem dL_law_72 : decode cL_law 72 = .ok (.aload_n 1, 1) := by decide +kernel
theorem dL_law_73 : decode cL_law 73 = .ok (.bipush 8, 2) := by decide +kernel
theorem dL_law_75 : decode cL_law 75 = .ok (.invokevirtual 35, 3) := by decide +kernel
theorem dL_law_78 : decode cL_law 78 = .ok (.ldc 21, 2) := by decide +kernel
theorem dL_law_80 : decode cL_law 80 = .ok (.if_icmp .ne 11, 3) := by decide +kernel
theorem dL_law_83 : decode cL_law 83 = .ok (.aload_n 1, 1) := by decide +kernel
theorem dL_law_84 : decode cL_law 84 = .ok (.iconst 0, 1) := by decide +kernel
theorem dL_law_85 : decode cL_law 85 = .ok (.invokevirtual 35, 3) := by decide +kernel
theorem dL_law_88 : decode cL_law 88 = .ok (.ifCond .eq 5, 3) := by decide +kernel
theorem dL_law_91 : decode cL_law 91 = .ok (.iconst 0, 1) := by decide +kernel
theorem dL_law_92 : decode cL_law 92 = .ok (.ireturn, 1) := by decide +kernel
theorem dL_law_93 : decode cL_law 93 = .ok (.iconst 0, 1) := by decide +kernel
theorem dL_law_94 : decode cL_law 94 = .ok (.istore 4, 2) := by decide +kernel
theorem dL_law_96 : decode cL_law 96 = .ok (.iconst 0, 1) := by decide +kernel
theorem dL_law_97 : decode cL_law 97 = .ok (.istore 5, 2) := by decide +kernel
theorem dL_law_99 : decode cL_law 99 = .ok (.iload 5, 2) := by decide +kernel
theorem dL_law_101 : decode cL_law 101 = .ok (.bipush 40, 2) := by decide +kernel
theorem dL_law_103 : decode cL_law 103 = .ok (.if_icmp .ge 562, 3) := by decide +kernel
theorem dL_law_106 : decode cL_law 106 = .ok (.aload_n 0, 1) := by decide +kernel
theorem dL_law_107 : decode cL_law 107 = .ok (.iconst 2, 1) := by decide +kernel
theorem dL_law_108 : decode cL_law 108 = .ok (.iload 5, 2) := by decide +kernel
theorem dL_law_110 : decode cL_law 110 = .ok (.imul, 1) := by decide +kernel
theorem dL_law_111 : decode cL_law 111 = .ok (.invokestatic 103, 3) := by decide +kernel
theorem dL_law_114 : decode cL_law 114 = .ok (.istore 6, 2) := by decide +kernel
theorem dL_law_116 : decode cL_law 116 = .ok (.aload_n 0, 1) := by decide +kernel
theorem dL_law_117 : decode cL_law 117 = .ok (.iconst 2, 1) := by decide +kernel
theorem dL_law_118 : decode cL_law 118 = .ok (.iload 5, 2) := by decide +kernel
theorem dL_law_120 : decode cL_law 120 = .ok (.imul, 1) := by decide +kernel
theorem dL_law_121 : decode cL_law 121 = .ok (.iconst 1, 1) := by decide +kernel
theorem dL_law_122 : decode cL_law 122 = .ok (.iadd, 1) := by decide +kernel
theorem dL_law_123 : decode cL_law 123 = .ok (.invokestatic 103, 3) := by decide +kernel
theorem dL_law_126 : decode cL_law 126 = .ok (.istore 7, 2) := by decide +kernel
theorem dL_law_128 : decode cL_law 128 = .ok (.iload 6, 2) := by decide +kernel
theorem dL_law_130 : decode cL_law 130 = .ok (.bipush 12, 2) := by decide +kernel
theorem dL_law_132 : decode cL_law 132 = .ok (.invokestatic 74, 3) := by decide +kernel
theorem dL_law_135 : decode cL_law 135 = .ok (.istore 8, 2) := by decide +kernel
theorem dL_law_137 : decode cL_law 137 = .ok (.iload 6, 2) := by decide +kernel
theorem dL_law_139 : decode cL_law 139 = .ok (.iconst 4, 1) := by decide +kernel
theorem dL_law_140 : decode cL_law 140 = .ok (.ishr, 1) := by decide +kernel
theorem dL_law_141 : decode cL_law 141 = .ok (.istore 6, 2) := by decide +kernel
theorem dL_law_143 : decode cL_law 143 = .ok (.iload 6, 2) := by decide +kernel
theorem dL_law_145 : decode cL_law 145 = .ok (.bipush 8, 2) := by decide +kernel
theorem dL_law_147 : decode cL_law 147 = .ok (.invokestatic 74, 3) := by decide +kernel
theorem dL_law_150 : decode cL_law 150 = .ok (.istore 9, 2) := by decide +kernel
theorem dL_law_152 : decode cL_law 152 = .ok (.iload 8, 2) := by decide +kernel
theorem dL_law_154 : decode cL_law 154 = .ok (.iconst 3, 1) := by decide +kernel
theorem dL_law_155 : decode cL_law 155 = .ok (.if_icmp .ge 57, 3) := by decide +kernel
theorem dL_law_158 : decode cL_law 158 = .ok (.aload_n 1, 1) := by decide +kernel
theorem dL_law_159 : decode cL_law 159 = .ok (.iload 9, 2) := by decide +kernel
theorem dL_law_161 : decode cL_law 161 = .ok (.iload 6, 2) := by decide +kernel
theorem dL_law_163 : decode cL_law 163 = .ok (.iconst 3, 1) := by decide +kernel
theorem dL_law_164 : decode cL_law 164 = .ok (.ishr, 1) := by decide +kernel
theorem dL_law_165 : decode cL_law 165 = .ok (.bipush 10, 2) := by decide +kernel
theorem dL_law_167 : decode cL_law 167 = .ok (.invokestatic 74, 3) := by decide +kernel
theorem dL_law_170 : decode cL_law 170 = .ok (.iload 7, 2) := by decide +kernel
theorem dL_law_172 : decode cL_law 172 = .ok (.sipush 201, 3) := by decide +kernel
theorem dL_law_175 : decode cL_law 175 = .ok (.invokestatic 74, 3) := by decide +kernel
theorem dL_law_178 : decode cL_law 178 = .ok (.iload 7, 2) := by decide +kernel
theorem dL_law_180 : decode cL_law 180 = .ok (.bipush 8, 2) := by decide +kernel
theorem dL_law_182 : decode cL_law 182 = .ok (.ishr, 1) := by decide +kernel
theorem dL_law_183 : decode cL_law 183 = .ok (.bipush 121, 2) := by decide +kernel
theorem dL_law_185 : decode cL_law 185 = .ok (.invokestatic 74, 3) := by decide +kernel
theorem dL_law_188 : decode cL_law 188 = .ok (.bipush 60, 2) := by decide +kernel
theorem dL_law_190 : decode cL_law 190 = .ok (.isub, 1) := by decide +kernel
theorem dL_law_191 : decode cL_law 191 = .ok (.iload 7, 2) := by decide +kernel
theorem dL_law_193 : decode cL_law 193 = .ok (.bipush 15, 2) := by decide +kernel
theorem dL_law_195 : decode cL_law 195 = .ok (.ishr, 1) := by decide +kernel
theorem dL_law_196 : decode cL_law 196 = .ok (.bipush 121, 2) := by decide +kernel
theorem dL_law_198 : decode cL_law 198 = .ok (.invokestatic 74, 3) := by decide +kernel
theorem dL_law_201 : decode cL_law 201 = .ok (.bipush 60, 2) := by decide +kernel
theorem dL_law_203 : decode cL_law 203 = .ok (.isub, 1) := by decide +kernel
theorem dL_law_204 : decode cL_law 204 = .ok (.invokevirtual 81, 3) := by decide +kernel
theorem dL_law_207 : decode cL_law 207 = .ok (.ifCond .ge 452, 3) := by decide +kernel
theorem dL_law_210 : decode cL_law 210 = .ok (.iconst 0, 1) := by decide +kernel
theorem dL_law_211 : decode cL_law 211 = .ok (.ireturn, 1) := by decide +kernel
theorem dL_law_212 : decode cL_law 212 = .ok (.iload 8, 2) := by decide +kernel
theorem dL_law_214 : decode cL_law 214 = .ok (.iconst 5, 1) := by decide +kernel
theorem dL_law_215 : decode cL_law 215 = .ok (.if_icmp .ge 72, 3) := by decide +kernel
theorem dL_law_218 : decode cL_law 218 = .ok (.iload 7, 2) := by decide +kernel
theorem dL_law_220 : decode cL_law 220 = .ok (.sipush 201, 3) := by decide +kernel
theorem dL_law_223 : decode cL_law 223 = .ok (.invokestatic 74, 3) := by decide +kernel
theorem dL_law_226 : decode cL_law 226 = .ok (.istore 10, 2) := by decide +kernel
theorem dL_law_228 : decode cL_law 228 = .ok (.iload 7, 2) := by decide +kernel
theorem dL_law_230 : decode cL_law 230 = .ok (.bipush 8, 2) := by decide +kernel
theorem dL_law_232 : decode cL_law 232 = .ok (.ishr, 1) := by decide +kernel
theorem dL_law_233 : decode cL_law 233 = .ok (.bipush 121, 2) := by decide +kernel
theorem dL_law_235 : decode cL_law 235 = .ok (.invokestatic 74, 3) := by decide +kernel
theorem dL_law_238 : decode cL_law 238 = .ok (.bipush 60, 2) := by decide +kernel
theorem dL_law_240 : decode cL_law 240 = .ok (.isub, 1) := by decide +kernel
theorem dL_law_241 : decode cL_law 241 = .ok (.istore 11, 2) := by decide +kernel
theorem dL_law_243 : decode cL_law 243 = .ok (.aload_n 1, 1) := by decide +kernel
theorem dL_law_244 : decode cL_law 244 = .ok (.iload 9, 2) := by decide +kernel
theorem dL_law_246 : decode cL_law 246 = .ok (.iload 10, 2) := by decide +kernel
theorem dL_law_248 : decode cL_law 248 = .ok (.iload 11, 2) := by decide +kernel
theorem dL_law_250 : decode cL_law 250 = .ok (.iconst 5, 1) := by decide +kernel
theorem dL_law_251 : decode cL_law 251 = .ok (.invokevirtual 85, 3) := by decide +kernel
theorem dL_law_254 : decode cL_law 254 = .ok (.istore 12, 2) := by decide +kernel
theorem dL_law_256 : decode cL_law 256 = .ok (.iload 12, 2) := by decide +kernel
theorem dL_law_258 : decode cL_law 258 = .ok (.ifCond .lt 24, 3) := by decide +kernel
theorem dL_law_261 : decode cL_law 261 = .ok (.iload 12, 2) := by decide +kernel
theorem dL_law_263 : decode cL_law 263 = .ok (.bipush 10, 2) := by decide +kernel
theorem dL_law_265 : decode cL_law 265 = .ok (.if_icmp .gt 17, 3) := by decide +kernel
theorem dL_law_268 : decode cL_law 268 = .ok (.aload_n 1, 1) := by decide +kernel
theorem dL_law_269 : decode cL_law 269 = .ok (.iload 9, 2) := by decide +kernel
theorem dL_law_271 : decode cL_law 271 = .ok (.iload 10, 2) := by decide +kernel
theorem dL_law_273 : decode cL_law 273 = .ok (.iload 11, 2) := by decide +kernel
theorem dL_law_275 : decode cL_law 275 = .ok (.iconst 5, 1) := by decide +kernel
theorem dL_law_276 : decode cL_law 276 = .ok (.invokevirtual 85, 3) := by decide +kernel
theorem dL_law_279 : decode cL_law 279 = .ok (.ifCond .eq 5, 3) := by decide +kernel
theorem dL_law_282 : decode cL_law 282 = .ok (.iconst 0, 1) := by decide +kernel
theorem dL_law_283 : decode cL_law 283 = .ok (.ireturn, 1) := by decide +kernel
theorem dL_law_284 : decode cL_law 284 = .ok (.goto 375, 3) := by decide +kernel
theorem dL_law_287 : decode cL_law 287 = .ok (.iload 8, 2) := by decide +kernel
theorem dL_law_289 : decode cL_law 289 = .ok (.bipush 7, 2) := by decide +kernel
theorem dL_law_291 : decode cL_law 291 = .ok (.if_icmp .ge 120, 3) := by decide +kernel
theorem dL_law_294 : decode cL_law 294 = .ok (.aload_n 1, 1) := by decide +kernel
theorem dL_law_295 : decode cL_law 295 = .ok (.iload 9, 2) := by decide +kernel
theorem dL_law_297 : decode cL_law 297 = .ok (.iconst 0, 1) := by decide +kernel
theorem dL_law_298 : decode cL_law 298 = .ok (.invokevirtual 92, 3) := by decide +kernel
theorem dL_law_301 : decode cL_law 301 = .ok (.iconst 1, 1) := by decide +kernel
theorem dL_law_302 : decode cL_law 302 = .ok (.if_icmp .ne 7, 3) := by decide +kernel
theorem dL_law_305 : decode cL_law 305 = .ok (.iconst 1, 1) := by decide +kernel
theorem dL_law_306 : decode cL_law 306 = .ok (.goto 4, 3) := by decide +kernel
theorem dL_law_309 : decode cL_law 309 = .ok (.iconst 0, 1) := by decide +kernel
theorem dL_law_310 : decode cL_law 310 = .ok (.istore 10, 2) := by decide +kernel
theorem dL_law_312 : decode cL_law 312 = .ok (.aload_n 1, 1) := by decide +kernel
theorem dL_law_313 : decode cL_law 313 = .ok (.iload 9, 2) := by decide +kernel
theorem dL_law_315 : decode cL_law 315 = .ok (.iload 10, 2) := by decide +kernel
theorem dL_law_317 : decode cL_law 317 = .ok (.invokevirtual 92, 3) := by decide +kernel
theorem dL_law_320 : decode cL_law 320 = .ok (.ifCond .ne 86, 3) := by decide +kernel
theorem dL_law_323 : decode cL_law 323 = .ok (.aload_n 1, 1) := by decide +kernel
theorem dL_law_324 : decode cL_law 324 = .ok (.iload 9, 2) := by decide +kernel
theorem dL_law_326 : decode cL_law 326 = .ok (.iload 7, 2) := by decide +kernel
theorem dL_law_328 : decode cL_law 328 = .ok (.bipush 9, 2) := by decide +kernel
theorem dL_law_330 : decode cL_law 330 = .ok (.invokestatic 74, 3) := by decide +kernel
theorem dL_law_333 : decode cL_law 333 = .ok (.iconst 4, 1) := by decide +kernel
theorem dL_law_334 : decode cL_law 334 = .ok (.isub, 1) := by decide +kernel
theorem dL_law_335 : decode cL_law 335 = .ok (.iload 7, 2) := by decide +kernel
theorem dL_law_337 : decode cL_law 337 = .ok (.iconst 4, 1) := by decide +kernel
theorem dL_law_338 : decode cL_law 338 = .ok (.ishr, 1) := by decide +kernel
theorem dL_law_339 : decode cL_law 339 = .ok (.bipush 41, 2) := by decide +kernel
theorem dL_law_341 : decode cL_law 341 = .ok (.invokestatic 74, 3) := by decide +kernel
theorem dL_law_344 : decode cL_law 344 = .ok (.iload 7, 2) := by decide +kernel
theorem dL_law_346 : decode cL_law 346 = .ok (.bipush 10, 2) := by decide +kernel
theorem dL_law_348 : decode cL_law 348 = .ok (.ishr, 1) := by decide +kernel
theorem dL_law_349 : decode cL_law 349 = .ok (.iconst 4, 1) := by decide +kernel
theorem dL_law_350 : decode cL_law 350 = .ok (.invokestatic 74, 3) := by decide +kernel
theorem dL_law_353 : decode cL_law 353 = .ok (.iload 6, 2) := by decide +kernel
theorem dL_law_355 : decode cL_law 355 = .ok (.bipush 64, 2) := by decide +kernel
theorem dL_law_357 : decode cL_law 357 = .ok (.iand, 1) := by decide +kernel
theorem dL_law_358 : decode cL_law 358 = .ok (.ifCond .ne 7, 3) := by decide +kernel
theorem dL_law_361 : decode cL_law 361 = .ok (.iconst 0, 1) := by decide +kernel
theorem dL_law_362 : decode cL_law 362 = .ok (.goto 13, 3) := by decide +kernel
theorem dL_law_365 : decode cL_law 365 = .ok (.iload 7, 2) := by decide +kernel
theorem dL_law_367 : decode cL_law 367 = .ok (.bipush 12, 2) := by decide +kernel
theorem dL_law_369 : decode cL_law 369 = .ok (.ishr, 1) := by decide +kernel
theorem dL_law_370 : decode cL_law 370 = .ok (.bipush 10, 2) := by decide +kernel
theorem dL_law_372 : decode cL_law 372 = .ok (.invokestatic 74, 3) := by decide +kernel
theorem dL_law_375 : decode cL_law 375 = .ok (.invokevirtual 89, 3) := by decide +kernel
theorem dL_law_378 : decode cL_law 378 = .ok (.bipush (-4), 2) := by decide +kernel
theorem dL_law_380 : decode cL_law 380 = .ok (.if_icmp .lt 26, 3) := by decide +kernel
theorem dL_law_383 : decode cL_law 383 = .ok (.aload_n 1, 1) := by decide +kernel
theorem dL_law_384 : decode cL_law 384 = .ok (.iload 9, 2) := by decide +kernel
theorem dL_law_386 : decode cL_law 386 = .ok (.iload 6, 2) := by decide +kernel
theorem dL_law_388 : decode cL_law 388 = .ok (.sipush 896, 3) := by decide +kernel
theorem dL_law_391 : decode cL_law 391 = .ok (.iand, 1) := by decide +kernel
theorem dL_law_392 : decode cL_law 392 = .ok (.ifCond .ne 7, 3) := by decide +kernel
theorem dL_law_395 : decode cL_law 395 = .ok (.iconst 1, 1) := by decide +kernel
theorem dL_law_396 : decode cL_law 396 = .ok (.goto 4, 3) := by decide +kernel
theorem dL_law_399 : decode cL_law 399 = .ok (.iconst 0, 1) := by decide +kernel
theorem dL_law_400 : decode cL_law 400 = .ok (.invokevirtual 92, 3) := by decide +kernel
theorem dL_law_403 : decode cL_law 403 = .ok (.ifCond .eq 5, 3) := by decide +kernel
theorem dL_law_406 : decode cL_law 406 = .ok (.iconst 0, 1) := by decide +kernel
theorem dL_law_407 : decode cL_law 407 = .ok (.ireturn, 1) := by decide +kernel
theorem dL_law_408 : decode cL_law 408 = .ok (.goto 251, 3) := by decide +kernel
theorem dL_law_411 : decode cL_law 411 = .ok (.iload 8, 2) := by decide +kernel
theorem dL_law_413 : decode cL_law 413 = .ok (.bipush 7, 2) := by decide +kernel
theorem dL_law_415 : decode cL_law 415 = .ok (.if_icmp .ne 42, 3) := by decide +kernel
theorem dL_law_418 : decode cL_law 418 = .ok (.aload_n 1, 1) := by decide +kernel
theorem dL_law_419 : decode cL_law 419 = .ok (.bipush 13, 2) := by decide +kernel
theorem dL_law_421 : decode cL_law 421 = .ok (.invokevirtual 35, 3) := by decide +kernel
theorem dL_law_424 : decode cL_law 424 = .ok (.istore 10, 2) := by decide +kernel
theorem dL_law_426 : decode cL_law 426 = .ok (.aload_n 1, 1) := by decide +kernel
theorem dL_law_427 : decode cL_law 427 = .ok (.iload 7, 2) := by decide +kernel
theorem dL_law_429 : decode cL_law 429 = .ok (.iconst 1, 1) := by decide +kernel
theorem dL_law_430 : decode cL_law 430 = .ok (.iand, 1) := by decide +kernel
theorem dL_law_431 : decode cL_law 431 = .ok (.invokevirtual 96, 3) := by decide +kernel
theorem dL_law_434 : decode cL_law 434 = .ok (.iload 10, 2) := by decide +kernel
theorem dL_law_436 : decode cL_law 436 = .ok (.if_icmp .ne 16, 3) := by decide +kernel
theorem dL_law_439 : decode cL_law 439 = .ok (.aload_n 1, 1) := by decide +kernel
theorem dL_law_440 : decode cL_law 440 = .ok (.bipush 13, 2) := by decide +kernel
theorem dL_law_442 : decode cL_law 442 = .ok (.invokevirtual 35, 3) := by decide +kernel
theorem dL_law_445 : decode cL_law 445 = .ok (.iload 7, 2) := by decide +kernel
theorem dL_law_447 : decode cL_law 447 = .ok (.iconst 1, 1) := by decide +kernel
theorem dL_law_448 : decode cL_law 448 = .ok (.iand, 1) := by decide +kernel
theorem dL_law_449 : decode cL_law 449 = .ok (.if_icmp .eq 5, 3) := by decide +kernel
theorem dL_law_452 : decode cL_law 452 = .ok (.iconst 0, 1) := by decide +kernel
theorem dL_law_453 : decode cL_law 453 = .ok (.ireturn, 1) := by decide +kernel
theorem dL_law_454 : decode cL_law 454 = .ok (.goto 205, 3) := by decide +kernel
theorem dL_law_457 : decode cL_law 457 = .ok (.iload 8, 2) := by decide +kernel
theorem dL_law_459 : decode cL_law 459 = .ok (.bipush 8, 2) := by decide +kernel
theorem dL_law_461 : decode cL_law 461 = .ok (.if_icmp .ne 110, 3) := by decide +kernel
theorem dL_law_464 : decode cL_law 464 = .ok (.iload 6, 2) := by decide +kernel
theorem dL_law_466 : decode cL_law 466 = .ok (.iconst 4, 1) := by decide +kernel
theorem dL_law_467 : decode cL_law 467 = .ok (.invokestatic 74, 3) := by decide +kernel
theorem dL_law_470 : decode cL_law 470 = .ok (.istore 10, 2) := by decide +kernel
theorem dL_law_472 : decode cL_law 472 = .ok (.aload_n 1, 1) := by decide +kernel
theorem dL_law_473 : decode cL_law 473 = .ok (.bipush 15, 2) := by decide +kernel
theorem dL_law_475 : decode cL_law 475 = .ok (.iload 10, 2) := by decide +kernel
theorem dL_law_477 : decode cL_law 477 = .ok (.iadd, 1) := by decide +kernel
theorem dL_law_478 : decode cL_law 478 = .ok (.invokevirtual 35, 3) := by decide +kernel
theorem dL_law_481 : decode cL_law 481 = .ok (.istore 11, 2) := by decide +kernel
theorem dL_law_483 : decode cL_law 483 = .ok (.iload 10, 2) := by decide +kernel
theorem dL_law_485 : decode cL_law 485 = .ok (.ifCond .ne 15, 3) := by decide +kernel
theorem dL_law_488 : decode cL_law 488 = .ok (.iconst 1, 1) := by decide +kernel
theorem dL_law_489 : decode cL_law 489 = .ok (.iload 7, 2) := by decide +kernel
theorem dL_law_491 : decode cL_law 491 = .ok (.bipush 40, 2) := by decide +kernel
theorem dL_law_493 : decode cL_law 493 = .ok (.invokestatic 74, 3) := by decide +kernel
theorem dL_law_496 : decode cL_law 496 = .ok (.iadd, 1) := by decide +kernel
theorem dL_law_497 : decode cL_law 497 = .ok (.goto 40, 3) := by decide +kernel
theorem dL_law_500 : decode cL_law 500 = .ok (.iload 10, 2) := by decide +kernel
theorem dL_law_502 : decode cL_law 502 = .ok (.iconst 1, 1) := by decide +kernel
theorem dL_law_503 : decode cL_law 503 = .ok (.if_icmp .ne 13, 3) := by decide +kernel
theorem dL_law_506 : decode cL_law 506 = .ok (.iload 7, 2) := by decide +kernel
theorem dL_law_508 : decode cL_law 508 = .ok (.bipush 101, 2) := by decide +kernel
theorem dL_law_510 : decode cL_law 510 = .ok (.invokestatic 74, 3) := by decide +kernel
theorem dL_law_513 : decode cL_law 513 = .ok (.goto 24, 3) := by decide +kernel
theorem dL_law_516 : decode cL_law 516 = .ok (.iload 10, 2) := by decide +kernel
theorem dL_law_518 : decode cL_law 518 = .ok (.iconst 2, 1) := by decide +kernel
theorem dL_law_519 : decode cL_law 519 = .ok (.if_icmp .ne 12, 3) := by decide +kernel
theorem dL_law_522 : decode cL_law 522 = .ok (.iload 7, 2) := by decide +kernel
theorem dL_law_524 : decode cL_law 524 = .ok (.iconst 4, 1) := by decide +kernel
theorem dL_law_525 : decode cL_law 525 = .ok (.invokestatic 74, 3) := by decide +kernel
theorem dL_law_528 : decode cL_law 528 = .ok (.goto 9, 3) := by decide +kernel
theorem dL_law_531 : decode cL_law 531 = .ok (.iload 7, 2) := by decide +kernel
theorem dL_law_533 : decode cL_law 533 = .ok (.iconst 3, 1) := by decide +kernel
theorem dL_law_534 : decode cL_law 534 = .ok (.invokestatic 74, 3) := by decide +kernel
theorem dL_law_537 : decode cL_law 537 = .ok (.istore 12, 2) := by decide +kernel
theorem dL_law_539 : decode cL_law 539 = .ok (.aload_n 1, 1) := by decide +kernel
theorem dL_law_540 : decode cL_law 540 = .ok (.iload 10, 2) := by decide +kernel
theorem dL_law_542 : decode cL_law 542 = .ok (.iload 12, 2) := by decide +kernel
theorem dL_law_544 : decode cL_law 544 = .ok (.invokevirtual 99, 3) := by decide +kernel
theorem dL_law_547 : decode cL_law 547 = .ok (.iload 11, 2) := by decide +kernel
theorem dL_law_549 : decode cL_law 549 = .ok (.if_icmp .ne 17, 3) := by decide +kernel
theorem dL_law_552 : decode cL_law 552 = .ok (.aload_n 1, 1) := by decide +kernel
theorem dL_law_553 : decode cL_law 553 = .ok (.bipush 15, 2) := by decide +kernel
theorem dL_law_555 : decode cL_law 555 = .ok (.iload 10, 2) := by decide +kernel
theorem dL_law_557 : decode cL_law 557 = .ok (.iadd, 1) := by decide +kernel
theorem dL_law_558 : decode cL_law 558 = .ok (.invokevirtual 35, 3) := by decide +kernel
theorem dL_law_561 : decode cL_law 561 = .ok (.iload 12, 2) := by decide +kernel
theorem dL_law_563 : decode cL_law 563 = .ok (.if_icmp .eq 5, 3) := by decide +kernel
theorem dL_law_566 : decode cL_law 566 = .ok (.iconst 0, 1) := by decide +kernel
theorem dL_law_567 : decode cL_law 567 = .ok (.ireturn, 1) := by decide +kernel
theorem dL_law_568 : decode cL_law 568 = .ok (.goto 91, 3) := by decide +kernel
theorem dL_law_571 : decode cL_law 571 = .ok (.iload 8, 2) := by decide +kernel
theorem dL_law_573 : decode cL_law 573 = .ok (.bipush 9, 2) := by decide +kernel
theorem dL_law_575 : decode cL_law 575 = .ok (.if_icmp .ne 20, 3) := by decide +kernel
theorem dL_law_578 : decode cL_law 578 = .ok (.aload_n 1, 1) := by decide +kernel
theorem dL_law_579 : decode cL_law 579 = .ok (.iload 9, 2) := by decide +kernel
theorem dL_law_581 : decode cL_law 581 = .ok (.iload 6, 2) := by decide +kernel
theorem dL_law_583 : decode cL_law 583 = .ok (.iconst 3, 1) := by decide +kernel
theorem dL_law_584 : decode cL_law 584 = .ok (.ishr, 1) := by decide +kernel
theorem dL_law_585 : decode cL_law 585 = .ok (.iload 7, 2) := by decide +kernel
theorem dL_law_587 : decode cL_law 587 = .ok (.invokestatic 107, 3) := by decide +kernel
end
section
/-! decode rows, part 4 -/
theorem dL_law_590 : decode cL_law 590 = .ok (.ifCond .ne 69, 3) := by decide +kernel
theorem dL_law_593 : decode cL_law 593 = .ok (.iconst 0, 1) := by decide +kernel
theorem dL_law_594 : decode cL_law 594 = .ok (.ireturn, 1) := by decide +kernel
theorem dL_law_595 : decode cL_law 595 = .ok (.aload_n 1, 1) := by decide +kernel
theorem dL_law_596 : decode cL_law 596 = .ok (.invokevirtual 110, 3) := by decide +kernel
theorem dL_law_599 : decode cL_law 599 = .ok (.istore 10, 2) := by decide +kernel
theorem dL_law_601 : decode cL_law 601 = .ok (.iinc 4 1, 3) := by decide +kernel
theorem dL_law_604 : decode cL_law 604 = .ok (.aload_n 1, 1) := by decide +kernel
theorem dL_law_605 : decode cL_law 605 = .ok (.iconst 0, 1) := by decide +kernel
theorem dL_law_606 : decode cL_law 606 = .ok (.invokevirtual 35, 3) := by decide +kernel
theorem dL_law_609 : decode cL_law 609 = .ok (.iload 4, 2) := by decide +kernel
theorem dL_law_611 : decode cL_law 611 = .ok (.if_icmp .ne 40, 3) := by decide +kernel
theorem dL_law_614 : decode cL_law 614 = .ok (.aload_n 1, 1) := by decide +kernel
theorem dL_law_615 : decode cL_law 615 = .ok (.iload 10, 2) := by decide +kernel
theorem dL_law_617 : decode cL_law 617 = .ok (.invokestatic 113, 3) := by decide +kernel
theorem dL_law_620 : decode cL_law 620 = .ok (.ifCond .eq 31, 3) := by decide +kernel
theorem dL_law_623 : decode cL_law 623 = .ok (.aload_n 1, 1) := by decide +kernel
theorem dL_law_624 : decode cL_law 624 = .ok (.invokestatic 117, 3) := by decide +kernel
theorem dL_law_627 : decode cL_law 627 = .ok (.ifCond .eq 24, 3) := by decide +kernel
theorem dL_law_630 : decode cL_law 630 = .ok (.iload 4, 2) := by decide +kernel
theorem dL_law_632 : decode cL_law 632 = .ok (.iconst 1, 1) := by decide +kernel
theorem dL_law_633 : decode cL_law 633 = .ok (.if_icmp .le 20, 3) := by decide +kernel
theorem dL_law_636 : decode cL_law 636 = .ok (.aload_n 1, 1) := by decide +kernel
theorem dL_law_637 : decode cL_law 637 = .ok (.aload_n 2, 1) := by decide +kernel
theorem dL_law_638 : decode cL_law 638 = .ok (.aload_n 3, 1) := by decide +kernel
theorem dL_law_639 : decode cL_law 639 = .ok (.aload_n 1, 1) := by decide +kernel
theorem dL_law_640 : decode cL_law 640 = .ok (.bipush 16, 2) := by decide +kernel
theorem dL_law_642 : decode cL_law 642 = .ok (.invokevirtual 35, 3) := by decide +kernel
theorem dL_law_645 : decode cL_law 645 = .ok (.invokestatic 121, 3) := by decide +kernel
theorem dL_law_648 : decode cL_law 648 = .ok (.ifCond .ne 5, 3) := by decide +kernel
theorem dL_law_651 : decode cL_law 651 = .ok (.iconst 0, 1) := by decide +kernel
theorem dL_law_652 : decode cL_law 652 = .ok (.ireturn, 1) := by decide +kernel
theorem dL_law_653 : decode cL_law 653 = .ok (.aload_n 1, 1) := by decide +kernel
theorem dL_law_654 : decode cL_law 654 = .ok (.aload_n 2, 1) := by decide +kernel
theorem dL_law_655 : decode cL_law 655 = .ok (.aload_n 3, 1) := by decide +kernel
theorem dL_law_656 : decode cL_law 656 = .ok (.invokestatic 124, 3) := by decide +kernel
theorem dL_law_659 : decode cL_law 659 = .ok (.iinc 5 1, 3) := by decide +kernel
theorem dL_law_662 : decode cL_law 662 = .ok (.goto (-563), 3) := by decide +kernel
theorem dL_law_665 : decode cL_law 665 = .ok (.aload_n 1, 1) := by decide +kernel
theorem dL_law_666 : decode cL_law 666 = .ok (.invokestatic 128, 3) := by decide +kernel
theorem dL_law_669 : decode cL_law 669 = .ok (.ireturn, 1) := by decide +kernel
end
section
/-! values up to the bits of a NaN -/
abbrev Sg : Type := Nat → Nat → Int32
abbrev Fl : Type := Nat → Nat → UInt32
abbrev KT : Type := Sg → Fl → Nat → List (Nat × Value) → List Value → Prop
def alV (v w : Value) : Prop := match w with
  | .float b => ∃ a, v = .float a ∧ alike32 a b = true
  | .double b => ∃ a, v = .double a ∧ alike64 a b = true
  | w => v = w
theorem alV_rf (w : Value) : alV w w := by
  cases w <;> first | rfl | exact ⟨_, rfl, alike32_refl _⟩ | exact ⟨_, rfl, alike64_refl _⟩
theorem alV_cat {v w : Value} (h : alV v w) : v.category = w.category := by
  cases w <;> first | (obtain ⟨a, rfl, -⟩ := h; rfl) | (cases h; rfl)
def alS : List Value → List Value → Prop
  | [], [] => True
  | v :: vs, w :: ws => alV v w ∧ alS vs ws
  | _, _ => False
theorem alS_rf : ∀ l : List Value, alS l l
  | [] => True.intro
  | v :: vs => ⟨alV_rf v, alS_rf vs⟩
theorem alS_cons {x : List Value} {w : Value} {ws : List Value} (h : alS x (w :: ws)) : ∃ v vs, x = v :: vs ∧ alV v w ∧ alS vs ws := by
  cases x with
  | nil => exact h.elim
  | cons v vs => exact ⟨v, vs, rfl, h.1, h.2⟩
theorem alS_nil {x : List Value} (h : alS x []) : x = [] := by
  cases x with
  | nil => rfl
  | cons v vs => exact h.elim
theorem alS_int {x : List Value} {a : Int32} {ws : List Value} (h : alS x (.int a :: ws)) : ∃ vs, x = .int a :: vs ∧ alS vs ws := by
  obtain ⟨v, vs, rfl, h1, h2⟩ := alS_cons h
  cases (h1 : v = .int a)
  exact ⟨vs, rfl, h2⟩
theorem alS_ref {x : List Value} {a : Nat} {ws : List Value} (h : alS x (.ref a :: ws)) : ∃ vs, x = .ref a :: vs ∧ alS vs ws := by
  obtain ⟨v, vs, rfl, h1, h2⟩ := alS_cons h
  cases (h1 : v = .ref a)
  exact ⟨vs, rfl, h2⟩
theorem alS_flt {x : List Value} {b : UInt32} {ws : List Value} (h : alS x (.float b :: ws)) : ∃ a vs, x = .float a :: vs ∧ alike32 a b = true ∧ alS vs ws := by
  obtain ⟨v, vs, rfl, ⟨a, rfl, h1⟩, h2⟩ := alS_cons h
  exact ⟨a, vs, rfl, h1, h2⟩
theorem alS_long {x : List Value} {a : Int64} {ws : List Value} (h : alS x (.long a :: ws)) : ∃ vs, x = .long a :: vs ∧ alS vs ws := by
  obtain ⟨v, vs, rfl, h1, h2⟩ := alS_cons h
  cases (h1 : v = .long a)
  exact ⟨vs, rfl, h2⟩
theorem alS_dbl {x : List Value} {b : UInt64} {ws : List Value} (h : alS x (.double b :: ws)) : ∃ a vs, x = .double a :: vs ∧ alike64 a b = true ∧ alS vs ws := by
  obtain ⟨v, vs, rfl, ⟨a, rfl, h1⟩, h2⟩ := alS_cons h
  exact ⟨a, vs, rfl, h1, h2⟩
theorem alS_app : ∀ {a0 a b0 b : List Value}, alS a0 a → alS b0 b → alS (a0 ++ b0) (a ++ b)
  | [], [], _, _, _, h => h
  | _ :: _, _ :: _, _, _, h1, h2 => ⟨h1.1, alS_app h1.2 h2⟩
  | [], _ :: _, _, _, h1, _ => h1.elim
  | _ :: _, [], _, _, h1, _ => h1.elim
theorem alS_split : ∀ {x a b : List Value}, alS x (a ++ b) → ∃ a0 b0, x = a0 ++ b0 ∧ alS a0 a ∧ alS b0 b
  | x, [], b, h => ⟨[], x, rfl, True.intro, h⟩
  | x, w :: a, b, h => by
    obtain ⟨v, vs, rfl, h1, h2⟩ := alS_cons (ws := a ++ b) h
    obtain ⟨a0, b0, rfl, h3, h4⟩ := alS_split h2
    exact ⟨v :: a0, b0, rfl, ⟨h1, h3⟩, h4⟩
theorem alS_rev : ∀ {x y : List Value}, alS x y → alS x.reverse y.reverse
  | [], [], h => h
  | v :: vs, w :: ws, h => by
    rw [List.reverse_cons, List.reverse_cons]
    exact alS_app (alS_rev h.2) ⟨h.1, True.intro⟩
  | [], _ :: _, h => h.elim
  | _ :: _, [], h => h.elim
theorem alS_len : ∀ {x y : List Value}, alS x y → x.length = y.length
  | [], [], _ => rfl
  | v :: vs, w :: ws, h => by rw [List.length_cons, List.length_cons, alS_len h.2]
  | [], _ :: _, h => h.elim
  | _ :: _, [], h => h.elim
theorem alS_cat : ∀ {x y : List Value}, alS x y → (x.map fun v => v.category) = (y.map fun v => v.category)
  | [], [], _ => rfl
  | v :: vs, w :: ws, h => by rw [List.map_cons, List.map_cons, alV_cat h.1, alS_cat h.2]
  | [], _ :: _, h => h.elim
  | _ :: _, [], h => h.elim
theorem alS_sl : ∀ {x y : List Value}, alS x y → (lg_sl x).length = (lg_sl y).length
  | [], [], _ => rfl
  | v :: vs, w :: ws, h => by
    have e := alS_sl h.2
    have c := alV_cat h.1
    by_cases h2 : w.category = 2
    · simp only [lg_sl, List.flatMap_cons, List.length_append, c, h2] at e ⊢
      simp [e]
    · simp only [lg_sl, List.flatMap_cons, List.length_append, c, h2] at e ⊢
      simp [e]
  | [], _ :: _, h => h.elim
  | _ :: _, [], h => h.elim
def alL : List (Nat × Value) → List (Nat × Value) → Prop
  | [], [] => True
  | v :: vs, w :: ws => (v.1 = w.1 ∧ alV v.2 w.2) ∧ alL vs ws
  | _, _ => False
theorem alL_args : ∀ {x y : List Value} (i : Nat), alS x y → alL (lv_args i x) (lv_args i y)
  | [], [], _, _ => True.intro
  | v :: vs, w :: ws, i, h => ⟨⟨rfl, h.1⟩, by rw [alV_cat h.1]; exact alL_args _ h.2⟩
  | [], _ :: _, _, h => h.elim
  | _ :: _, [], _, h => h.elim
theorem alL_at : ∀ {x y : List (Nat × Value)} (j : Nat) {i : Nat} {w : Value}, alL x y → y[j]? = some (i, w) → ∃ v, x[j]? = some (i, v) ∧ alV v w
  | [], [], _, _, _, _, h => by simp at h
  | v :: vs, w :: ws, 0, i, z, h, e => by
    simp only [List.getElem?_cons_zero, Option.some.injEq] at e
    subst e
    obtain ⟨a, b⟩ := v
    cases (h.1.1 : a = i)
    exact ⟨b, rfl, h.1.2⟩
  | v :: vs, w :: ws, j + 1, i, z, h, e => by
    simp only [List.getElem?_cons_succ] at e ⊢
    exact alL_at j h.2 e
  | [], _ :: _, _, _, _, h, _ => h.elim
  | _ :: _, [], _, _, _, h, _ => h.elim
theorem alL_filter {f : Nat × Value → Bool} (hf : ∀ (i : Nat) (v w : Value), v.category = w.category → f (i, v) = f (i, w)) : ∀ {x y : List (Nat × Value)}, alL x y → alL (x.filter f) (y.filter f)
  | [], [], _ => True.intro
  | (i, v) :: vs, (j, w) :: ws, h => by
    have ih := alL_filter hf h.2
    have e : i = j := h.1.1
    subst e
    have e2 := hf i v w (alV_cat h.1.2)
    by_cases hc : f (i, w) = true
    · rw [List.filter_cons_of_pos hc, List.filter_cons_of_pos (e2.trans hc)]
      exact ⟨⟨rfl, h.1.2⟩, ih⟩
    · rw [List.filter_cons_of_neg hc, List.filter_cons_of_neg (by rw [e2]; exact hc)]
      exact ih
  | [], _ :: _, h => h.elim
  | _ :: _, [], h => h.elim
theorem alL_pick {x y : List (Nat × Value)} (h : alL x y) : ∀ ks : List Nat, alL (lv_pick x ks) (lv_pick y ks)
  | [] => True.intro
  | k :: ks => by
    have ih := alL_pick h ks
    cases hy : y[k]? with
    | none =>
      have hx : x[k]? = none := by
        have : ∀ {x y : List (Nat × Value)}, alL x y → x.length = y.length := by
          intro x
          induction x with
          | nil => intro y h; cases y with
            | nil => rfl
            | cons a b => exact h.elim
          | cons c d ih => intro y h; cases y with
            | nil => exact h.elim
            | cons a b => rw [List.length_cons, List.length_cons, ih h.2]
        rw [List.getElem?_eq_none_iff] at hy ⊢
        rw [this h]
        exact hy
      simp only [lv_pick, List.filterMap_cons, hx, hy]
      exact ih
    | some w =>
      obtain ⟨i, w⟩ := w
      obtain ⟨v, hx, hv⟩ := alL_at k h hy
      simp only [lv_pick, List.filterMap_cons, hx, hy]
      exact ⟨⟨rfl, hv⟩, ih⟩
/-! floats: an operation looks at its operands' data alone -/
theorem fp_nan32 {x : UInt32} (h : isNaN32 x = true) : FP.Core.decode FP.Core.b32 x.toNat = .nan := by
  have h1 := isNaN32_iff.mp h
  have h2 : x.toNat &&& 0x7fffffff = x.toNat % 2 ^ 31 := Nat.and_two_pow_sub_one_eq_mod x.toNat 31
  rw [h2] at h1
  have hE : FP.Core.fieldE FP.Core.b32 x.toNat = 255 := by
    show x.toNat / 2 ^ 23 % 2 ^ 8 = 255
    omega
  have hT : FP.Core.fieldT FP.Core.b32 x.toNat ≠ 0 := by
    show x.toNat % 2 ^ 23 ≠ 0
    have hE' : x.toNat / 2 ^ 23 % 2 ^ 8 = 255 := hE
    omega
  unfold FP.Core.decode
  rw [if_pos (by rw [hE]; rfl), if_neg hT]
theorem fp_al32 {x y : UInt32} (h : alike32 x y = true) : FP.Core.decode FP.Core.b32 x.toNat = FP.Core.decode FP.Core.b32 y.toNat := by
  simp only [alike32, Bool.or_eq_true, Bool.and_eq_true, decide_eq_true_eq] at h
  rcases h with rfl | ⟨h1, h2⟩
  · rfl
  · rw [fp_nan32 h1, fp_nan32 h2]
theorem fp_nan64 {x : UInt64} (h : isNaN64 x = true) : FP.Core.decode FP.Core.b64 x.toNat = .nan := by
  have h1 : (0x7ff0000000000000 : Nat) < x.toNat &&& 0x7fffffffffffffff := isNaN64_iff.mp h
  have h2 : x.toNat &&& 0x7fffffffffffffff = x.toNat % 2 ^ 63 := Nat.and_two_pow_sub_one_eq_mod x.toNat 63
  rw [h2] at h1
  have hE : FP.Core.fieldE FP.Core.b64 x.toNat = 2047 := by
    show x.toNat / 2 ^ 52 % 2 ^ 11 = 2047
    omega
  have hT : FP.Core.fieldT FP.Core.b64 x.toNat ≠ 0 := by
    show x.toNat % 2 ^ 52 ≠ 0
    have hE' : x.toNat / 2 ^ 52 % 2 ^ 11 = 2047 := hE
    omega
  unfold FP.Core.decode
  rw [if_pos (by rw [hE]; rfl), if_neg hT]
theorem fp_al64 {x y : UInt64} (h : alike64 x y = true) : FP.Core.decode FP.Core.b64 x.toNat = FP.Core.decode FP.Core.b64 y.toNat := by
  simp only [alike64, Bool.or_eq_true, Bool.and_eq_true, decide_eq_true_eq] at h
  rcases h with rfl | ⟨h1, h2⟩
  · rfl
  · rw [fp_nan64 h1, fp_nan64 h2]
theorem al32_tr {x y z : UInt32} (h1 : alike32 x y = true) (h2 : alike32 y z = true) : alike32 x z = true := by
  simp only [alike32, Bool.or_eq_true, Bool.and_eq_true, decide_eq_true_eq] at h1 h2 ⊢
  rcases h1 with rfl | ⟨h1, h3⟩
  · exact h2
  · rcases h2 with rfl | ⟨h2, h4⟩
    · exact Or.inr ⟨h1, h3⟩
    · exact Or.inr ⟨h1, h4⟩
theorem al64_tr {x y z : UInt64} (h1 : alike64 x y = true) (h2 : alike64 y z = true) : alike64 x z = true := by
  simp only [alike64, Bool.or_eq_true, Bool.and_eq_true, decide_eq_true_eq] at h1 h2 ⊢
  rcases h1 with rfl | ⟨h1, h3⟩
  · exact h2
  · rcases h2 with rfl | ⟨h2, h4⟩
    · exact Or.inr ⟨h1, h3⟩
    · exact Or.inr ⟨h1, h4⟩
theorem fp_add {a b x y : UInt32} (h1 : alike32 a x = true) (h2 : alike32 b y = true) : FP.fadd a b = FP.fadd x y := by
  show FP.Core.fadd a b = FP.Core.fadd x y
  unfold FP.Core.fadd FP.Core.add
  rw [fp_al32 h1, fp_al32 h2]
theorem fp_sub {a b x y : UInt32} (h1 : alike32 a x = true) (h2 : alike32 b y = true) : FP.fsub a b = FP.fsub x y := by
  show FP.Core.fsub a b = FP.Core.fsub x y
  unfold FP.Core.fsub FP.Core.sub
  rw [fp_al32 h1, fp_al32 h2]
theorem fp_mul {a b x y : UInt32} (h1 : alike32 a x = true) (h2 : alike32 b y = true) : FP.fmul a b = FP.fmul x y := by
  show FP.Core.fmul a b = FP.Core.fmul x y
  unfold FP.Core.fmul FP.Core.mul
  rw [fp_al32 h1, fp_al32 h2]
theorem fp_div {a b x y : UInt32} (h1 : alike32 a x = true) (h2 : alike32 b y = true) : FP.fdiv a b = FP.fdiv x y := by
  show FP.Core.fdiv a b = FP.Core.fdiv x y
  unfold FP.Core.fdiv FP.Core.div
  rw [fp_al32 h1, fp_al32 h2]
theorem fp_cmp {a b x y : UInt32} (h1 : alike32 a x = true) (h2 : alike32 b y = true) : FP.fcmp a b = FP.fcmp x y := by
  show FP.Core.fcmp a b = FP.Core.fcmp x y
  unfold FP.Core.fcmp FP.Core.cmp
  rw [fp_al32 h1, fp_al32 h2]
theorem fp_dcmp {a b x y : UInt64} (h1 : alike64 a x = true) (h2 : alike64 b y = true) : FP.dcmp a b = FP.dcmp x y := by
  show FP.Core.dcmp a b = FP.Core.dcmp x y
  unfold FP.Core.dcmp FP.Core.cmp
  rw [fp_al64 h1, fp_al64 h2]
theorem fp_f2i {a x : UInt32} (h1 : alike32 a x = true) : FP.f2i a = FP.f2i x := by
  show FP.Core.f2i a = FP.Core.f2i x
  unfold FP.Core.f2i
  rw [fp_al32 h1]
theorem fp_f2d {a x : UInt32} (h1 : alike32 a x = true) : alike64 (FP.f2d a) (FP.f2d x) = true := by
  simp only [alike32, Bool.or_eq_true, Bool.and_eq_true, decide_eq_true_eq] at h1
  rcases h1 with rfl | ⟨h1, h2⟩
  · exact alike64_refl _
  · have key : ∀ z : UInt32, isNaN32 z = true → isNaN64 (FP.f2d z) = true := by
      intro z hz
      have e : FP.Core.fIsNaN z = true := by
        show decide (FP.Core.decode FP.Core.b32 z.toNat = .nan) = true
        rw [fp_nan32 hz]
        rfl
      unfold FP.f2d
      rw [if_pos e]
      unfold FP.nanF2D
      exact isNaN64_or_left (isNaN64_or_right (by decide))
    simp only [alike64, key a h1, key x h2, Bool.and_self, Bool.or_true]
def alF (φ0 φ : Fl) : Prop := ∀ k j, alike32 (φ0 k j) (φ k j) = true
theorem alF_up {φ0 φ : Fl} (h : alF φ0 φ) (k j : Nat) {x y : UInt32} (hx : alike32 x y = true) : alF (va_up φ0 k (vf_upd (φ0 k) j x)) (va_up φ k (vf_upd (φ k) j y)) := by
  intro a b
  unfold va_up
  by_cases h1 : a = k
  · subst h1
    rw [if_pos rfl, if_pos rfl]
    unfold vf_upd
    by_cases h2 : b = j
    · rw [if_pos h2, if_pos h2]; exact hx
    · rw [if_neg h2, if_neg h2]; exact h a b
  · rw [if_neg h1, if_neg h1]; exact h a b

/-! words -/
def lw_all : List Cond := lw_tbl.filter goodWord
def isNestW : Cond → Bool
  | .fieldLinkNest .. => true
  | .methodLinkNest .. => true
  | _ => false
def lw_nest : List Cond := lw_tbl.filter isNestW
theorem lw_all_tbl {w : Cond} (h : w ∈ lw_all) : w ∈ lw_tbl := (List.mem_filter.mp h).1
theorem lw_all_good : GoodIn lw_all lw_all := fun _ h => ⟨h, good_of_word (List.mem_filter.mp h).2⟩
theorem lw_in {w : Cond} (i : Nat) (h : lw_tbl[i]? = some w) (hg : goodWord w = true) : w ∈ lw_all := List.mem_filter.mpr ⟨List.mem_of_getElem? h, hg⟩
theorem lw_inN {w : Cond} (i : Nat) (h : lw_tbl[i]? = some w) (hg : isNestW w = true) : w ∈ lw_nest := List.mem_filter.mpr ⟨List.mem_of_getElem? h, hg⟩
def NW (U : State) : Prop := ∀ w ∈ lw_nest, va_Nw w U
theorem NW.warm {s U : State} (hW : s.WarmedH U.vm) (h : NW s) : NW U := by
  intro w hw
  have h1 := h w hw
  have h2 := (List.mem_filter.mp hw).2
  cases w <;> first | exact va_Nw.warmF hW h1 | exact va_Nw.warmM hW h1 | cases h2
theorem NW.same {u U : State} (e : u.vm = U.vm) (h : NW u) : NW U := by
  intro w hw
  have h1 := h w hw
  have h2 := (List.mem_filter.mp hw).2
  cases w <;> first | exact va_Nw.same rfl e h1 | cases h2
end
section
/-! the words, by their places -/
theorem se_X7_noiseAt : Cond.selects "CompositeDecoder$Picture" yX7_noiseAt yX7_noiseAt ∈ lw_all := lw_in 0 (by decide +kernel) (by decide +kernel)
theorem se_X7_levelAt : Cond.selects "CompositeDecoder$Picture" yX7_levelAt yX7_levelAt ∈ lw_all := lw_in 1 (by decide +kernel) (by decide +kernel)
theorem se_X7_burstAt : Cond.selects "CompositeDecoder$Picture" yX7_burstAt yX7_burstAt ∈ lw_all := lw_in 2 (by decide +kernel) (by decide +kernel)
theorem se_X7_signOf : Cond.selects "CompositeDecoder$Picture" yX7_signOf yX7_signOf ∈ lw_all := lw_in 3 (by decide +kernel) (by decide +kernel)
theorem se_X4_steer : Cond.selects "CompositeDecoder$LineFinder" yX4_steer yX4_steer ∈ lw_all := lw_in 4 (by decide +kernel) (by decide +kernel)
theorem se_X1_sumUp : Cond.selects "CompositeDecoder$Bursts" yX1_sumUp yX1_sumUp ∈ lw_all := lw_in 5 (by decide +kernel) (by decide +kernel)
theorem se_X1_countPair : Cond.selects "CompositeDecoder$Bursts" yX1_countPair yX1_countPair ∈ lw_all := lw_in 6 (by decide +kernel) (by decide +kernel)
theorem se_X3_sumUp : Cond.selects "CompositeDecoder$Combs" yX3_sumUp yX3_sumUp ∈ lw_all := lw_in 7 (by decide +kernel) (by decide +kernel)
theorem se_X3_wayFor : Cond.selects "CompositeDecoder$Combs" yX3_wayFor yX3_wayFor ∈ lw_all := lw_in 8 (by decide +kernel) (by decide +kernel)
theorem se_X3_isNear : Cond.selects "CompositeDecoder$Combs" yX3_isNear yX3_isNear ∈ lw_all := lw_in 9 (by decide +kernel) (by decide +kernel)
theorem se_X3_splitSegment : Cond.selects "CompositeDecoder$Combs" yX3_splitSegment yX3_splitSegment ∈ lw_all := lw_in 10 (by decide +kernel) (by decide +kernel)
theorem se_X2_turnSegment : Cond.selects "CompositeDecoder$Colors" yX2_turnSegment yX2_turnSegment ∈ lw_all := lw_in 11 (by decide +kernel) (by decide +kernel)
theorem se_X2_mixSegment : Cond.selects "CompositeDecoder$Colors" yX2_mixSegment yX2_mixSegment ∈ lw_all := lw_in 12 (by decide +kernel) (by decide +kernel)
theorem se_X5_kindOf : Cond.selects "CompositeDecoder$Movement" yX5_kindOf yX5_kindOf ∈ lw_all := lw_in 13 (by decide +kernel) (by decide +kernel)
theorem se_X5_hasChanged : Cond.selects "CompositeDecoder$Movement" yX5_hasChanged yX5_hasChanged ∈ lw_all := lw_in 14 (by decide +kernel) (by decide +kernel)
theorem se_X10_countOfNow : Cond.selects "CompositeDecoder" yX10_countOfNow yX10_countOfNow ∈ lw_all := lw_in 15 (by decide +kernel) (by decide +kernel)
theorem se_X10_countOfDecoding : Cond.selects "CompositeDecoder" yX10_countOfDecoding yX10_countOfDecoding ∈ lw_all := lw_in 16 (by decide +kernel) (by decide +kernel)
theorem se_X10_wrongLumas : Cond.selects "CompositeDecoder" yX10_wrongLumas yX10_wrongLumas ∈ lw_all := lw_in 17 (by decide +kernel) (by decide +kernel)
theorem se_X10_lumaDifferences : Cond.selects "CompositeDecoder" yX10_lumaDifferences yX10_lumaDifferences ∈ lw_all := lw_in 18 (by decide +kernel) (by decide +kernel)
theorem se_X0_repeatBar : Cond.selects "CompositeDecoder$BarText" yX0_repeatBar yX0_repeatBar ∈ lw_all := lw_in 19 (by decide +kernel) (by decide +kernel)
theorem in_L : Cond.initialized "CompositeDecoderLaw" ∈ lw_all := lw_in 20 (by decide +kernel) (by decide +kernel)
theorem in_X10 : Cond.initialized "CompositeDecoder" ∈ lw_all := lw_in 21 (by decide +kernel) (by decide +kernel)
theorem in_X7 : Cond.initialized "CompositeDecoder$Picture" ∈ lw_all := lw_in 22 (by decide +kernel) (by decide +kernel)
theorem in_X0 : Cond.initialized "CompositeDecoder$BarText" ∈ lw_all := lw_in 23 (by decide +kernel) (by decide +kernel)
theorem in_X8 : Cond.initialized "CompositeDecoder$Settings" ∈ lw_all := lw_in 24 (by decide +kernel) (by decide +kernel)
theorem in_X9 : Cond.initialized "CompositeDecoder$Signal" ∈ lw_all := lw_in 25 (by decide +kernel) (by decide +kernel)
theorem in_X4 : Cond.initialized "CompositeDecoder$LineFinder" ∈ lw_all := lw_in 26 (by decide +kernel) (by decide +kernel)
theorem in_X1 : Cond.initialized "CompositeDecoder$Bursts" ∈ lw_all := lw_in 27 (by decide +kernel) (by decide +kernel)
theorem in_X6 : Cond.initialized "CompositeDecoder$PhaseReference" ∈ lw_all := lw_in 28 (by decide +kernel) (by decide +kernel)
theorem in_X3 : Cond.initialized "CompositeDecoder$Combs" ∈ lw_all := lw_in 29 (by decide +kernel) (by decide +kernel)
theorem in_X2 : Cond.initialized "CompositeDecoder$Colors" ∈ lw_all := lw_in 30 (by decide +kernel) (by decide +kernel)
theorem in_X5 : Cond.initialized "CompositeDecoder$Movement" ∈ lw_all := lw_in 31 (by decide +kernel) (by decide +kernel)
theorem in_J9 : Cond.initialized "java/lang/Math" ∈ lw_all := lw_in 32 (by decide +kernel) (by decide +kernel)
theorem in_J10 : Cond.initialized "java/lang/System" ∈ lw_all := lw_in 33 (by decide +kernel) (by decide +kernel)
theorem cl_L_10 : Cond.classLink "CompositeDecoderLaw" 10 "CompositeDecoder" ∈ lw_all := lw_in 34 (by decide +kernel) (by decide +kernel)
theorem it_X10 : Cond.instantiable "CompositeDecoder" 11 ∈ lw_all := lw_in 35 (by decide +kernel) (by decide +kernel)
theorem ml_L_102 : Cond.methodLink "CompositeDecoderLaw" 102 yX10_init ∈ lw_all := lw_in 36 (by decide +kernel) (by decide +kernel)
theorem im_X10_init : Cond.instanceMethod yX10_init ∈ lw_all := lw_in 37 (by decide +kernel) (by decide +kernel)
theorem co_X10_init : Cond.code yX10_init cX10_init 1 none ∈ lw_all := lw_in 38 (by decide +kernel) (by decide +kernel)
theorem ml_X10_1 : Cond.methodLink "CompositeDecoder" 1 objectInit ∈ lw_all := lw_in 39 (by decide +kernel) (by decide +kernel)
theorem im_objectInit : Cond.instanceMethod objectInit ∈ lw_all := lw_in 40 (by decide +kernel) (by decide +kernel)
theorem co_objectInit : Cond.code objectInit ⟨#[0xb1]⟩ 1 none ∈ lw_all := lw_in 41 (by decide +kernel) (by decide +kernel)
theorem cl_X10_7 : Cond.classLink "CompositeDecoder" 7 "CompositeDecoder$Picture" ∈ lw_all := lw_in 42 (by decide +kernel) (by decide +kernel)
theorem it_X7 : Cond.instantiable "CompositeDecoder$Picture" 9 ∈ lw_all := lw_in 43 (by decide +kernel) (by decide +kernel)
theorem ml_X10_9 : Cond.methodLink "CompositeDecoder" 9 yX7_init ∈ lw_all := lw_in 44 (by decide +kernel) (by decide +kernel)
theorem im_X7_init : Cond.instanceMethod yX7_init ∈ lw_all := lw_in 45 (by decide +kernel) (by decide +kernel)
theorem co_X7_init : Cond.code yX7_init cX7_init 2 none ∈ lw_all := lw_in 46 (by decide +kernel) (by decide +kernel)
theorem ml_X7_3 : Cond.methodLink "CompositeDecoder$Picture" 3 objectInit ∈ lw_all := lw_in 47 (by decide +kernel) (by decide +kernel)
theorem fl_X7_9 : Cond.fieldLink "CompositeDecoder$Picture" 9 "CompositeDecoder$Picture" "lumas" "[I" ∈ lw_all := lw_in 48 (by decide +kernel) (by decide +kernel)
theorem fl_X10_93 : Cond.fieldLinkNest "CompositeDecoder" 93 "CompositeDecoder$Picture" "lumas" "[I" "CompositeDecoder" ∈ lw_nest := lw_inN 49 (by decide +kernel) (by decide +kernel)
theorem fl_X7_15 : Cond.fieldLink "CompositeDecoder$Picture" 15 "CompositeDecoder$Picture" "us" "[I" ∈ lw_all := lw_in 50 (by decide +kernel) (by decide +kernel)
theorem fl_X7_18 : Cond.fieldLink "CompositeDecoder$Picture" 18 "CompositeDecoder$Picture" "vs" "[I" ∈ lw_all := lw_in 51 (by decide +kernel) (by decide +kernel)
theorem fl_X7_21 : Cond.fieldLink "CompositeDecoder$Picture" 21 "CompositeDecoder$Picture" "jitters" "[I" ∈ lw_all := lw_in 52 (by decide +kernel) (by decide +kernel)
theorem fl_X10_108 : Cond.fieldLinkNest "CompositeDecoder" 108 "CompositeDecoder$Picture" "jitters" "[I" "CompositeDecoder" ∈ lw_nest := lw_inN 53 (by decide +kernel) (by decide +kernel)
theorem fl_X7_24 : Cond.fieldLink "CompositeDecoder$Picture" 24 "CompositeDecoder$Picture" "amplitudes" "[I" ∈ lw_all := lw_in 54 (by decide +kernel) (by decide +kernel)
theorem fl_X10_111 : Cond.fieldLinkNest "CompositeDecoder" 111 "CompositeDecoder$Picture" "amplitudes" "[I" "CompositeDecoder" ∈ lw_nest := lw_inN 55 (by decide +kernel) (by decide +kernel)
theorem fl_X7_27 : Cond.fieldLink "CompositeDecoder$Picture" 27 "CompositeDecoder$Picture" "phases" "[I" ∈ lw_all := lw_in 56 (by decide +kernel) (by decide +kernel)
theorem fl_X10_114 : Cond.fieldLinkNest "CompositeDecoder" 114 "CompositeDecoder$Picture" "phases" "[I" "CompositeDecoder" ∈ lw_nest := lw_inN 57 (by decide +kernel) (by decide +kernel)
theorem fl_X7_30 : Cond.fieldLink "CompositeDecoder$Picture" 30 "CompositeDecoder$Picture" "noises" "[I" ∈ lw_all := lw_in 58 (by decide +kernel) (by decide +kernel)
theorem fl_X10_116 : Cond.fieldLinkNest "CompositeDecoder" 116 "CompositeDecoder$Picture" "noises" "[I" "CompositeDecoder" ∈ lw_nest := lw_inN 59 (by decide +kernel) (by decide +kernel)
theorem fl_X7_33 : Cond.fieldLink "CompositeDecoder$Picture" 33 "CompositeDecoder$Picture" "missing" "[Z" ∈ lw_all := lw_in 60 (by decide +kernel) (by decide +kernel)
theorem fl_X10_119 : Cond.fieldLinkNest "CompositeDecoder" 119 "CompositeDecoder$Picture" "missing" "[Z" "CompositeDecoder" ∈ lw_nest := lw_inN 61 (by decide +kernel) (by decide +kernel)
theorem fl_X7_69 : Cond.fieldLink "CompositeDecoder$Picture" 69 "CompositeDecoder$Picture" "standard" "I" ∈ lw_all := lw_in 62 (by decide +kernel) (by decide +kernel)
theorem fl_X10_127 : Cond.fieldLinkNest "CompositeDecoder" 127 "CompositeDecoder$Picture" "standard" "I" "CompositeDecoder" ∈ lw_nest := lw_inN 63 (by decide +kernel) (by decide +kernel)
theorem ac_int : Cond.arrayClass .int ∈ lw_all := lw_in 83 (by decide +kernel) (by decide +kernel)
theorem ac_boolean : Cond.arrayClass .boolean ∈ lw_all := lw_in 84 (by decide +kernel) (by decide +kernel)
theorem cl_X10_16 : Cond.classLink "CompositeDecoder" 16 "CompositeDecoder$BarText" ∈ lw_all := lw_in 85 (by decide +kernel) (by decide +kernel)
theorem it_X0 : Cond.instantiable "CompositeDecoder$BarText" 4 ∈ lw_all := lw_in 86 (by decide +kernel) (by decide +kernel)
theorem ml_X10_18 : Cond.methodLinkNest "CompositeDecoder" 18 yX0_init "CompositeDecoder" ∈ lw_nest := lw_inN 87 (by decide +kernel) (by decide +kernel)
theorem im_X0_init : Cond.instanceMethod yX0_init ∈ lw_all := lw_in 88 (by decide +kernel) (by decide +kernel)
theorem co_X0_init : Cond.code yX0_init cX0_init 1 none ∈ lw_all := lw_in 89 (by decide +kernel) (by decide +kernel)
theorem ml_X0_3 : Cond.methodLink "CompositeDecoder$BarText" 3 objectInit ∈ lw_all := lw_in 90 (by decide +kernel) (by decide +kernel)
theorem fl_X0_11 : Cond.fieldLink "CompositeDecoder$BarText" 11 "CompositeDecoder$BarText" "characters" "[C" ∈ lw_all := lw_in 91 (by decide +kernel) (by decide +kernel)
theorem fl_X0_19 : Cond.fieldLink "CompositeDecoder$BarText" 19 "CompositeDecoder$BarText" "used" "I" ∈ lw_all := lw_in 92 (by decide +kernel) (by decide +kernel)
theorem fl_X10_135 : Cond.fieldLinkNest "CompositeDecoder" 135 "CompositeDecoder$BarText" "used" "I" "CompositeDecoder" ∈ lw_nest := lw_inN 93 (by decide +kernel) (by decide +kernel)
theorem fl_X0_15 : Cond.fieldLink "CompositeDecoder$BarText" 15 "CompositeDecoder$BarText" "bars" "[I" ∈ lw_all := lw_in 94 (by decide +kernel) (by decide +kernel)
theorem fl_X0_23 : Cond.fieldLink "CompositeDecoder$BarText" 23 "CompositeDecoder$BarText" "letters" "I" ∈ lw_all := lw_in 95 (by decide +kernel) (by decide +kernel)
theorem fl_X10_147 : Cond.fieldLinkNest "CompositeDecoder" 147 "CompositeDecoder$BarText" "letters" "I" "CompositeDecoder" ∈ lw_nest := lw_inN 96 (by decide +kernel) (by decide +kernel)
theorem ac_char : Cond.arrayClass .char ∈ lw_all := lw_in 106 (by decide +kernel) (by decide +kernel)
theorem cl_X10_23 : Cond.classLink "CompositeDecoder" 23 "CompositeDecoder$Settings" ∈ lw_all := lw_in 107 (by decide +kernel) (by decide +kernel)
theorem it_X8 : Cond.instantiable "CompositeDecoder$Settings" 1 ∈ lw_all := lw_in 108 (by decide +kernel) (by decide +kernel)
theorem ml_X10_25 : Cond.methodLinkNest "CompositeDecoder" 25 yX8_init "CompositeDecoder" ∈ lw_nest := lw_inN 109 (by decide +kernel) (by decide +kernel)
theorem im_X8_init : Cond.instanceMethod yX8_init ∈ lw_all := lw_in 110 (by decide +kernel) (by decide +kernel)
theorem co_X8_init : Cond.code yX8_init cX8_init 1 none ∈ lw_all := lw_in 111 (by decide +kernel) (by decide +kernel)
theorem ml_X8_1 : Cond.methodLink "CompositeDecoder$Settings" 1 objectInit ∈ lw_all := lw_in 112 (by decide +kernel) (by decide +kernel)
theorem fl_X8_9 : Cond.fieldLink "CompositeDecoder$Settings" 9 "CompositeDecoder$Settings" "values" "[I" ∈ lw_all := lw_in 113 (by decide +kernel) (by decide +kernel)
theorem fl_X10_156 : Cond.fieldLinkNest "CompositeDecoder" 156 "CompositeDecoder$Settings" "values" "[I" "CompositeDecoder" ∈ lw_nest := lw_inN 114 (by decide +kernel) (by decide +kernel)
theorem cl_X10_30 : Cond.classLink "CompositeDecoder" 30 "CompositeDecoder$Signal" ∈ lw_all := lw_in 118 (by decide +kernel) (by decide +kernel)
theorem it_X9 : Cond.instantiable "CompositeDecoder$Signal" 1 ∈ lw_all := lw_in 119 (by decide +kernel) (by decide +kernel)
theorem ml_X10_32 : Cond.methodLinkNest "CompositeDecoder" 32 yX9_init "CompositeDecoder" ∈ lw_nest := lw_inN 120 (by decide +kernel) (by decide +kernel)
theorem im_X9_init : Cond.instanceMethod yX9_init ∈ lw_all := lw_in 121 (by decide +kernel) (by decide +kernel)
theorem co_X9_init : Cond.code yX9_init cX9_init 1 none ∈ lw_all := lw_in 122 (by decide +kernel) (by decide +kernel)
theorem ml_X9_3 : Cond.methodLink "CompositeDecoder$Signal" 3 objectInit ∈ lw_all := lw_in 123 (by decide +kernel) (by decide +kernel)
theorem cl_X9_9 : Cond.classLink "CompositeDecoder$Signal" 9 "[[I" ∈ lw_all := lw_in 124 (by decide +kernel) (by decide +kernel)
theorem fl_X9_11 : Cond.fieldLink "CompositeDecoder$Signal" 11 "CompositeDecoder$Signal" "rows" "[[I" ∈ lw_all := lw_in 126 (by decide +kernel) (by decide +kernel)
theorem cl_X10_37 : Cond.classLink "CompositeDecoder" 37 "CompositeDecoder$LineFinder" ∈ lw_all := lw_in 130 (by decide +kernel) (by decide +kernel)
theorem it_X4 : Cond.instantiable "CompositeDecoder$LineFinder" 8 ∈ lw_all := lw_in 131 (by decide +kernel) (by decide +kernel)
theorem ml_X10_39 : Cond.methodLinkNest "CompositeDecoder" 39 yX4_init "CompositeDecoder" ∈ lw_nest := lw_inN 132 (by decide +kernel) (by decide +kernel)
theorem im_X4_init : Cond.instanceMethod yX4_init ∈ lw_all := lw_in 133 (by decide +kernel) (by decide +kernel)
theorem co_X4_init : Cond.code yX4_init cX4_init 1 none ∈ lw_all := lw_in 134 (by decide +kernel) (by decide +kernel)
theorem ml_X4_3 : Cond.methodLink "CompositeDecoder$LineFinder" 3 objectInit ∈ lw_all := lw_in 135 (by decide +kernel) (by decide +kernel)
theorem fl_X4_9 : Cond.fieldLink "CompositeDecoder$LineFinder" 9 "CompositeDecoder$LineFinder" "pulses" "[I" ∈ lw_all := lw_in 136 (by decide +kernel) (by decide +kernel)
theorem fl_X10_215 : Cond.fieldLinkNest "CompositeDecoder" 215 "CompositeDecoder$LineFinder" "pulses" "[I" "CompositeDecoder" ∈ lw_nest := lw_inN 137 (by decide +kernel) (by decide +kernel)
theorem fl_X4_15 : Cond.fieldLink "CompositeDecoder$LineFinder" 15 "CompositeDecoder$LineFinder" "starts" "[I" ∈ lw_all := lw_in 138 (by decide +kernel) (by decide +kernel)
theorem fl_X10_167 : Cond.fieldLinkNest "CompositeDecoder" 167 "CompositeDecoder$LineFinder" "starts" "[I" "CompositeDecoder" ∈ lw_nest := lw_inN 139 (by decide +kernel) (by decide +kernel)
theorem fl_X4_18 : Cond.fieldLink "CompositeDecoder$LineFinder" 18 "CompositeDecoder$LineFinder" "positions" "[I" ∈ lw_all := lw_in 140 (by decide +kernel) (by decide +kernel)
theorem fl_X10_230 : Cond.fieldLinkNest "CompositeDecoder" 230 "CompositeDecoder$LineFinder" "positions" "[I" "CompositeDecoder" ∈ lw_nest := lw_inN 141 (by decide +kernel) (by decide +kernel)
theorem fl_X4_21 : Cond.fieldLink "CompositeDecoder$LineFinder" 21 "CompositeDecoder$LineFinder" "locked" "[Z" ∈ lw_all := lw_in 142 (by decide +kernel) (by decide +kernel)
theorem fl_X10_207 : Cond.fieldLinkNest "CompositeDecoder" 207 "CompositeDecoder$LineFinder" "locked" "[Z" "CompositeDecoder" ∈ lw_nest := lw_inN 143 (by decide +kernel) (by decide +kernel)
theorem fl_X4_25 : Cond.fieldLink "CompositeDecoder$LineFinder" 25 "CompositeDecoder$LineFinder" "position" "I" ∈ lw_all := lw_in 144 (by decide +kernel) (by decide +kernel)
theorem fl_X4_29 : Cond.fieldLink "CompositeDecoder$LineFinder" 29 "CompositeDecoder$LineFinder" "hits" "I" ∈ lw_all := lw_in 145 (by decide +kernel) (by decide +kernel)
theorem fl_X4_32 : Cond.fieldLink "CompositeDecoder$LineFinder" 32 "CompositeDecoder$LineFinder" "misses" "I" ∈ lw_all := lw_in 146 (by decide +kernel) (by decide +kernel)
theorem fl_X4_35 : Cond.fieldLink "CompositeDecoder$LineFinder" 35 "CompositeDecoder$LineFinder" "isLocked" "Z" ∈ lw_all := lw_in 147 (by decide +kernel) (by decide +kernel)
theorem cl_X10_44 : Cond.classLink "CompositeDecoder" 44 "CompositeDecoder$Bursts" ∈ lw_all := lw_in 165 (by decide +kernel) (by decide +kernel)
theorem it_X1 : Cond.instantiable "CompositeDecoder$Bursts" 6 ∈ lw_all := lw_in 166 (by decide +kernel) (by decide +kernel)
theorem ml_X10_46 : Cond.methodLinkNest "CompositeDecoder" 46 yX1_init "CompositeDecoder" ∈ lw_nest := lw_inN 167 (by decide +kernel) (by decide +kernel)
theorem im_X1_init : Cond.instanceMethod yX1_init ∈ lw_all := lw_in 168 (by decide +kernel) (by decide +kernel)
theorem co_X1_init : Cond.code yX1_init cX1_init 1 none ∈ lw_all := lw_in 169 (by decide +kernel) (by decide +kernel)
theorem ml_X1_3 : Cond.methodLink "CompositeDecoder$Bursts" 3 objectInit ∈ lw_all := lw_in 170 (by decide +kernel) (by decide +kernel)
theorem fl_X1_9 : Cond.fieldLink "CompositeDecoder$Bursts" 9 "CompositeDecoder$Bursts" "sines" "[I" ∈ lw_all := lw_in 171 (by decide +kernel) (by decide +kernel)
theorem fl_X6_24 : Cond.fieldLinkNest "CompositeDecoder$PhaseReference" 24 "CompositeDecoder$Bursts" "sines" "[I" "CompositeDecoder" ∈ lw_nest := lw_inN 172 (by decide +kernel) (by decide +kernel)
theorem fl_X10_218 : Cond.fieldLinkNest "CompositeDecoder" 218 "CompositeDecoder$Bursts" "sines" "[I" "CompositeDecoder" ∈ lw_nest := lw_inN 173 (by decide +kernel) (by decide +kernel)
theorem fl_X1_15 : Cond.fieldLink "CompositeDecoder$Bursts" 15 "CompositeDecoder$Bursts" "cosines" "[I" ∈ lw_all := lw_in 174 (by decide +kernel) (by decide +kernel)
theorem fl_X6_31 : Cond.fieldLinkNest "CompositeDecoder$PhaseReference" 31 "CompositeDecoder$Bursts" "cosines" "[I" "CompositeDecoder" ∈ lw_nest := lw_inN 175 (by decide +kernel) (by decide +kernel)
theorem fl_X10_221 : Cond.fieldLinkNest "CompositeDecoder" 221 "CompositeDecoder$Bursts" "cosines" "[I" "CompositeDecoder" ∈ lw_nest := lw_inN 176 (by decide +kernel) (by decide +kernel)
theorem fl_X1_18 : Cond.fieldLink "CompositeDecoder$Bursts" 18 "CompositeDecoder$Bursts" "good" "[Z" ∈ lw_all := lw_in 177 (by decide +kernel) (by decide +kernel)
theorem fl_X6_18 : Cond.fieldLinkNest "CompositeDecoder$PhaseReference" 18 "CompositeDecoder$Bursts" "good" "[Z" "CompositeDecoder" ∈ lw_nest := lw_inN 178 (by decide +kernel) (by decide +kernel)
theorem fl_X10_224 : Cond.fieldLinkNest "CompositeDecoder" 224 "CompositeDecoder$Bursts" "good" "[Z" "CompositeDecoder" ∈ lw_nest := lw_inN 179 (by decide +kernel) (by decide +kernel)
theorem fl_X1_22 : Cond.fieldLink "CompositeDecoder$Bursts" 22 "CompositeDecoder$Bursts" "colorOn" "[Z" ∈ lw_all := lw_in 180 (by decide +kernel) (by decide +kernel)
theorem fl_X2_24 : Cond.fieldLinkNest "CompositeDecoder$Colors" 24 "CompositeDecoder$Bursts" "colorOn" "[Z" "CompositeDecoder" ∈ lw_nest := lw_inN 181 (by decide +kernel) (by decide +kernel)
theorem fl_X10_227 : Cond.fieldLinkNest "CompositeDecoder" 227 "CompositeDecoder$Bursts" "colorOn" "[Z" "CompositeDecoder" ∈ lw_nest := lw_inN 182 (by decide +kernel) (by decide +kernel)
theorem fl_X1_25 : Cond.fieldLink "CompositeDecoder$Bursts" 25 "CompositeDecoder$Bursts" "turnedPairs" "I" ∈ lw_all := lw_in 183 (by decide +kernel) (by decide +kernel)
theorem fl_X10_257 : Cond.fieldLinkNest "CompositeDecoder" 257 "CompositeDecoder$Bursts" "turnedPairs" "I" "CompositeDecoder" ∈ lw_nest := lw_inN 184 (by decide +kernel) (by decide +kernel)
theorem fl_X1_29 : Cond.fieldLink "CompositeDecoder$Bursts" 29 "CompositeDecoder$Bursts" "steadyPairs" "I" ∈ lw_all := lw_in 185 (by decide +kernel) (by decide +kernel)
theorem fl_X10_260 : Cond.fieldLinkNest "CompositeDecoder" 260 "CompositeDecoder$Bursts" "steadyPairs" "I" "CompositeDecoder" ∈ lw_nest := lw_inN 186 (by decide +kernel) (by decide +kernel)
theorem cl_X10_51 : Cond.classLink "CompositeDecoder" 51 "CompositeDecoder$PhaseReference" ∈ lw_all := lw_in 200 (by decide +kernel) (by decide +kernel)
theorem it_X6 : Cond.instantiable "CompositeDecoder$PhaseReference" 2 ∈ lw_all := lw_in 201 (by decide +kernel) (by decide +kernel)
theorem ml_X10_53 : Cond.methodLinkNest "CompositeDecoder" 53 yX6_init "CompositeDecoder" ∈ lw_nest := lw_inN 202 (by decide +kernel) (by decide +kernel)
theorem im_X6_init : Cond.instanceMethod yX6_init ∈ lw_all := lw_in 203 (by decide +kernel) (by decide +kernel)
theorem co_X6_init : Cond.code yX6_init cX6_init 1 none ∈ lw_all := lw_in 204 (by decide +kernel) (by decide +kernel)
theorem ml_X6_3 : Cond.methodLink "CompositeDecoder$PhaseReference" 3 objectInit ∈ lw_all := lw_in 205 (by decide +kernel) (by decide +kernel)
theorem fl_X6_9 : Cond.fieldLink "CompositeDecoder$PhaseReference" 9 "CompositeDecoder$PhaseReference" "sines" "[F" ∈ lw_all := lw_in 206 (by decide +kernel) (by decide +kernel)
theorem fl_X2_30 : Cond.fieldLinkNest "CompositeDecoder$Colors" 30 "CompositeDecoder$PhaseReference" "sines" "[F" "CompositeDecoder" ∈ lw_nest := lw_inN 207 (by decide +kernel) (by decide +kernel)
theorem fl_X6_15 : Cond.fieldLink "CompositeDecoder$PhaseReference" 15 "CompositeDecoder$PhaseReference" "cosines" "[F" ∈ lw_all := lw_in 208 (by decide +kernel) (by decide +kernel)
theorem fl_X2_35 : Cond.fieldLinkNest "CompositeDecoder$Colors" 35 "CompositeDecoder$PhaseReference" "cosines" "[F" "CompositeDecoder" ∈ lw_nest := lw_inN 209 (by decide +kernel) (by decide +kernel)
theorem ac_float : Cond.arrayClass .float ∈ lw_all := lw_in 215 (by decide +kernel) (by decide +kernel)
theorem cl_X10_58 : Cond.classLink "CompositeDecoder" 58 "CompositeDecoder$Combs" ∈ lw_all := lw_in 216 (by decide +kernel) (by decide +kernel)
theorem it_X3 : Cond.instantiable "CompositeDecoder$Combs" 5 ∈ lw_all := lw_in 217 (by decide +kernel) (by decide +kernel)
theorem ml_X10_60 : Cond.methodLinkNest "CompositeDecoder" 60 yX3_init "CompositeDecoder" ∈ lw_nest := lw_inN 218 (by decide +kernel) (by decide +kernel)
theorem im_X3_init : Cond.instanceMethod yX3_init ∈ lw_all := lw_in 219 (by decide +kernel) (by decide +kernel)
theorem co_X3_init : Cond.code yX3_init cX3_init 1 none ∈ lw_all := lw_in 220 (by decide +kernel) (by decide +kernel)
theorem ml_X3_3 : Cond.methodLink "CompositeDecoder$Combs" 3 objectInit ∈ lw_all := lw_in 221 (by decide +kernel) (by decide +kernel)
theorem fl_X3_9 : Cond.fieldLink "CompositeDecoder$Combs" 9 "CompositeDecoder$Combs" "sums" "[I" ∈ lw_all := lw_in 222 (by decide +kernel) (by decide +kernel)
theorem fl_X3_15 : Cond.fieldLink "CompositeDecoder$Combs" 15 "CompositeDecoder$Combs" "lumas" "[I" ∈ lw_all := lw_in 223 (by decide +kernel) (by decide +kernel)
theorem fl_X10_196 : Cond.fieldLinkNest "CompositeDecoder" 196 "CompositeDecoder$Combs" "lumas" "[I" "CompositeDecoder" ∈ lw_nest := lw_inN 224 (by decide +kernel) (by decide +kernel)
theorem fl_X3_18 : Cond.fieldLink "CompositeDecoder$Combs" 18 "CompositeDecoder$Combs" "ways" "[I" ∈ lw_all := lw_in 225 (by decide +kernel) (by decide +kernel)
theorem fl_X10_233 : Cond.fieldLinkNest "CompositeDecoder" 233 "CompositeDecoder$Combs" "ways" "[I" "CompositeDecoder" ∈ lw_nest := lw_inN 226 (by decide +kernel) (by decide +kernel)
theorem fl_X3_21 : Cond.fieldLink "CompositeDecoder$Combs" 21 "CompositeDecoder$Combs" "sines" "[I" ∈ lw_all := lw_in 227 (by decide +kernel) (by decide +kernel)
theorem fl_X2_50 : Cond.fieldLinkNest "CompositeDecoder$Colors" 50 "CompositeDecoder$Combs" "sines" "[I" "CompositeDecoder" ∈ lw_nest := lw_inN 228 (by decide +kernel) (by decide +kernel)
theorem fl_X3_24 : Cond.fieldLink "CompositeDecoder$Combs" 24 "CompositeDecoder$Combs" "cosines" "[I" ∈ lw_all := lw_in 229 (by decide +kernel) (by decide +kernel)
theorem fl_X2_56 : Cond.fieldLinkNest "CompositeDecoder$Colors" 56 "CompositeDecoder$Combs" "cosines" "[I" "CompositeDecoder" ∈ lw_nest := lw_inN 230 (by decide +kernel) (by decide +kernel)
theorem cl_X10_65 : Cond.classLink "CompositeDecoder" 65 "CompositeDecoder$Colors" ∈ lw_all := lw_in 242 (by decide +kernel) (by decide +kernel)
theorem it_X2 : Cond.instantiable "CompositeDecoder$Colors" 4 ∈ lw_all := lw_in 243 (by decide +kernel) (by decide +kernel)
theorem ml_X10_67 : Cond.methodLinkNest "CompositeDecoder" 67 yX2_init "CompositeDecoder" ∈ lw_nest := lw_inN 244 (by decide +kernel) (by decide +kernel)
theorem im_X2_init : Cond.instanceMethod yX2_init ∈ lw_all := lw_in 245 (by decide +kernel) (by decide +kernel)
theorem co_X2_init : Cond.code yX2_init cX2_init 1 none ∈ lw_all := lw_in 246 (by decide +kernel) (by decide +kernel)
theorem ml_X2_3 : Cond.methodLink "CompositeDecoder$Colors" 3 objectInit ∈ lw_all := lw_in 247 (by decide +kernel) (by decide +kernel)
theorem fl_X2_9 : Cond.fieldLink "CompositeDecoder$Colors" 9 "CompositeDecoder$Colors" "rawUs" "[F" ∈ lw_all := lw_in 248 (by decide +kernel) (by decide +kernel)
theorem fl_X2_15 : Cond.fieldLink "CompositeDecoder$Colors" 15 "CompositeDecoder$Colors" "rawVs" "[F" ∈ lw_all := lw_in 249 (by decide +kernel) (by decide +kernel)
theorem fl_X2_18 : Cond.fieldLink "CompositeDecoder$Colors" 18 "CompositeDecoder$Colors" "us" "[F" ∈ lw_all := lw_in 250 (by decide +kernel) (by decide +kernel)
theorem fl_X10_236 : Cond.fieldLinkNest "CompositeDecoder" 236 "CompositeDecoder$Colors" "us" "[F" "CompositeDecoder" ∈ lw_nest := lw_inN 251 (by decide +kernel) (by decide +kernel)
theorem fl_X2_21 : Cond.fieldLink "CompositeDecoder$Colors" 21 "CompositeDecoder$Colors" "vs" "[F" ∈ lw_all := lw_in 252 (by decide +kernel) (by decide +kernel)
theorem fl_X10_240 : Cond.fieldLinkNest "CompositeDecoder" 240 "CompositeDecoder$Colors" "vs" "[F" "CompositeDecoder" ∈ lw_nest := lw_inN 253 (by decide +kernel) (by decide +kernel)
theorem cl_X10_72 : Cond.classLink "CompositeDecoder" 72 "CompositeDecoder$Movement" ∈ lw_all := lw_in 263 (by decide +kernel) (by decide +kernel)
theorem it_X5 : Cond.instantiable "CompositeDecoder$Movement" 3 ∈ lw_all := lw_in 264 (by decide +kernel) (by decide +kernel)
theorem ml_X10_74 : Cond.methodLinkNest "CompositeDecoder" 74 yX5_init "CompositeDecoder" ∈ lw_nest := lw_inN 265 (by decide +kernel) (by decide +kernel)
theorem im_X5_init : Cond.instanceMethod yX5_init ∈ lw_all := lw_in 266 (by decide +kernel) (by decide +kernel)
theorem co_X5_init : Cond.code yX5_init cX5_init 1 none ∈ lw_all := lw_in 267 (by decide +kernel) (by decide +kernel)
theorem ml_X5_3 : Cond.methodLink "CompositeDecoder$Movement" 3 objectInit ∈ lw_all := lw_in 268 (by decide +kernel) (by decide +kernel)
theorem fl_X5_9 : Cond.fieldLink "CompositeDecoder$Movement" 9 "CompositeDecoder$Movement" "lumasBefore" "[I" ∈ lw_all := lw_in 269 (by decide +kernel) (by decide +kernel)
theorem fl_X5_15 : Cond.fieldLink "CompositeDecoder$Movement" 15 "CompositeDecoder$Movement" "changed" "[Z" ∈ lw_all := lw_in 270 (by decide +kernel) (by decide +kernel)
theorem fl_X5_19 : Cond.fieldLink "CompositeDecoder$Movement" 19 "CompositeDecoder$Movement" "kinds" "[I" ∈ lw_all := lw_in 271 (by decide +kernel) (by decide +kernel)
theorem fl_X10_248 : Cond.fieldLinkNest "CompositeDecoder" 248 "CompositeDecoder$Movement" "kinds" "[I" "CompositeDecoder" ∈ lw_nest := lw_inN 272 (by decide +kernel) (by decide +kernel)
theorem fl_X10_10 : Cond.fieldLink "CompositeDecoder" 10 "CompositeDecoder" "picture" "LCompositeDecoder$Picture;" ∈ lw_all := lw_in 280 (by decide +kernel) (by decide +kernel)
theorem fl_X10_19 : Cond.fieldLink "CompositeDecoder" 19 "CompositeDecoder" "text" "LCompositeDecoder$BarText;" ∈ lw_all := lw_in 281 (by decide +kernel) (by decide +kernel)
theorem fl_X10_26 : Cond.fieldLink "CompositeDecoder" 26 "CompositeDecoder" "settings" "LCompositeDecoder$Settings;" ∈ lw_all := lw_in 282 (by decide +kernel) (by decide +kernel)
theorem fl_X10_33 : Cond.fieldLink "CompositeDecoder" 33 "CompositeDecoder" "signal" "LCompositeDecoder$Signal;" ∈ lw_all := lw_in 283 (by decide +kernel) (by decide +kernel)
theorem fl_X10_40 : Cond.fieldLink "CompositeDecoder" 40 "CompositeDecoder" "finder" "LCompositeDecoder$LineFinder;" ∈ lw_all := lw_in 284 (by decide +kernel) (by decide +kernel)
theorem fl_X10_47 : Cond.fieldLink "CompositeDecoder" 47 "CompositeDecoder" "bursts" "LCompositeDecoder$Bursts;" ∈ lw_all := lw_in 285 (by decide +kernel) (by decide +kernel)
theorem fl_X10_54 : Cond.fieldLink "CompositeDecoder" 54 "CompositeDecoder" "phases" "LCompositeDecoder$PhaseReference;" ∈ lw_all := lw_in 286 (by decide +kernel) (by decide +kernel)
theorem fl_X10_61 : Cond.fieldLink "CompositeDecoder" 61 "CompositeDecoder" "combs" "LCompositeDecoder$Combs;" ∈ lw_all := lw_in 287 (by decide +kernel) (by decide +kernel)
theorem fl_X10_68 : Cond.fieldLink "CompositeDecoder" 68 "CompositeDecoder" "colors" "LCompositeDecoder$Colors;" ∈ lw_all := lw_in 288 (by decide +kernel) (by decide +kernel)
theorem fl_X10_75 : Cond.fieldLink "CompositeDecoder" 75 "CompositeDecoder" "movement" "LCompositeDecoder$Movement;" ∈ lw_all := lw_in 289 (by decide +kernel) (by decide +kernel)
theorem fl_X10_200 : Cond.fieldLink "CompositeDecoder" 200 "CompositeDecoder" "decodings" "I" ∈ lw_all := lw_in 290 (by decide +kernel) (by decide +kernel)
theorem ml_L_81 : Cond.methodLink "CompositeDecoderLaw" 81 yX10_setSegment ∈ lw_all := lw_in 314 (by decide +kernel) (by decide +kernel)
theorem im_X10_setSegment : Cond.instanceMethod yX10_setSegment ∈ lw_all := lw_in 315 (by decide +kernel) (by decide +kernel)
theorem se_X10_setSegment : Cond.selects "CompositeDecoder" yX10_setSegment yX10_setSegment ∈ lw_all := lw_in 316 (by decide +kernel) (by decide +kernel)
theorem co_X10_setSegment : Cond.code yX10_setSegment cX10_setSegment 8 (some .int) ∈ lw_all := lw_in 317 (by decide +kernel) (by decide +kernel)
theorem ml_X10_79 : Cond.methodLink "CompositeDecoder" 79 yX10_isPlace ∈ lw_all := lw_in 318 (by decide +kernel) (by decide +kernel)
theorem sm_X10_isPlace : Cond.static yX10_isPlace ∈ lw_all := lw_in 319 (by decide +kernel) (by decide +kernel)
end
section
/-! the words, by their places -/
theorem co_X10_isPlace : Cond.code yX10_isPlace cX10_isPlace 2 (some .boolean) ∈ lw_all := lw_in 320 (by decide +kernel) (by decide +kernel)
theorem ml_X10_101 : Cond.methodLink "CompositeDecoder" 101 yX10_isLine ∈ lw_all := lw_in 321 (by decide +kernel) (by decide +kernel)
theorem sm_X10_isLine : Cond.static yX10_isLine ∈ lw_all := lw_in 322 (by decide +kernel) (by decide +kernel)
theorem co_X10_isLine : Cond.code yX10_isLine cX10_isLine 1 (some .boolean) ∈ lw_all := lw_in 323 (by decide +kernel) (by decide +kernel)
theorem ml_X10_105 : Cond.methodLink "CompositeDecoder" 105 yX10_isWithin ∈ lw_all := lw_in 324 (by decide +kernel) (by decide +kernel)
theorem sm_X10_isWithin : Cond.static yX10_isWithin ∈ lw_all := lw_in 325 (by decide +kernel) (by decide +kernel)
theorem co_X10_isWithin : Cond.code yX10_isWithin cX10_isWithin 3 (some .boolean) ∈ lw_all := lw_in 326 (by decide +kernel) (by decide +kernel)
theorem kc_X10_83 : Cond.constant "CompositeDecoder" 83 (-100001) ∈ lw_all := lw_in 327 (by decide +kernel) (by decide +kernel)
theorem ml_X10_84 : Cond.methodLink "CompositeDecoder" 84 yX10_isPaint ∈ lw_all := lw_in 328 (by decide +kernel) (by decide +kernel)
theorem sm_X10_isPaint : Cond.static yX10_isPaint ∈ lw_all := lw_in 329 (by decide +kernel) (by decide +kernel)
theorem co_X10_isPaint : Cond.code yX10_isPaint cX10_isPaint 3 (some .boolean) ∈ lw_all := lw_in 330 (by decide +kernel) (by decide +kernel)
theorem kc_X10_88 : Cond.constant "CompositeDecoder" 88 (-100002) ∈ lw_all := lw_in 331 (by decide +kernel) (by decide +kernel)
theorem ml_X10_89 : Cond.methodLink "CompositeDecoder" 89 yX10_placeOf ∈ lw_all := lw_in 332 (by decide +kernel) (by decide +kernel)
theorem sm_X10_placeOf : Cond.static yX10_placeOf ∈ lw_all := lw_in 333 (by decide +kernel) (by decide +kernel)
theorem co_X10_placeOf : Cond.code yX10_placeOf cX10_placeOf 2 (some .int) ∈ lw_all := lw_in 334 (by decide +kernel) (by decide +kernel)
theorem ml_X10_97 : Cond.methodLink "CompositeDecoder" 97 yX7_paint ∈ lw_all := lw_in 335 (by decide +kernel) (by decide +kernel)
theorem im_X7_paint : Cond.instanceMethod yX7_paint ∈ lw_all := lw_in 336 (by decide +kernel) (by decide +kernel)
theorem se_X7_paint : Cond.selects "CompositeDecoder$Picture" yX7_paint yX7_paint ∈ lw_all := lw_in 337 (by decide +kernel) (by decide +kernel)
theorem co_X7_paint : Cond.code yX7_paint cX7_paint 6 (some .boolean) ∈ lw_all := lw_in 338 (by decide +kernel) (by decide +kernel)
theorem ml_L_85 : Cond.methodLink "CompositeDecoderLaw" 85 yX10_fill ∈ lw_all := lw_in 339 (by decide +kernel) (by decide +kernel)
theorem im_X10_fill : Cond.instanceMethod yX10_fill ∈ lw_all := lw_in 340 (by decide +kernel) (by decide +kernel)
theorem se_X10_fill : Cond.selects "CompositeDecoder" yX10_fill yX10_fill ∈ lw_all := lw_in 341 (by decide +kernel) (by decide +kernel)
theorem co_X10_fill : Cond.code yX10_fill cX10_fill 7 (some .int) ∈ lw_all := lw_in 342 (by decide +kernel) (by decide +kernel)
theorem ml_L_89 : Cond.methodLink "CompositeDecoderLaw" 89 yX10_setLine ∈ lw_all := lw_in 343 (by decide +kernel) (by decide +kernel)
theorem im_X10_setLine : Cond.instanceMethod yX10_setLine ∈ lw_all := lw_in 344 (by decide +kernel) (by decide +kernel)
theorem se_X10_setLine : Cond.selects "CompositeDecoder" yX10_setLine yX10_setLine ∈ lw_all := lw_in 345 (by decide +kernel) (by decide +kernel)
theorem co_X10_setLine : Cond.code yX10_setLine cX10_setLine 7 (some .int) ∈ lw_all := lw_in 346 (by decide +kernel) (by decide +kernel)
theorem ml_L_92 : Cond.methodLink "CompositeDecoderLaw" 92 yX10_miss ∈ lw_all := lw_in 347 (by decide +kernel) (by decide +kernel)
theorem im_X10_miss : Cond.instanceMethod yX10_miss ∈ lw_all := lw_in 348 (by decide +kernel) (by decide +kernel)
theorem se_X10_miss : Cond.selects "CompositeDecoder" yX10_miss yX10_miss ∈ lw_all := lw_in 349 (by decide +kernel) (by decide +kernel)
theorem co_X10_miss : Cond.code yX10_miss cX10_miss 4 (some .int) ∈ lw_all := lw_in 350 (by decide +kernel) (by decide +kernel)
theorem ml_X10_123 : Cond.methodLink "CompositeDecoder" 123 yX10_oneIf ∈ lw_all := lw_in 351 (by decide +kernel) (by decide +kernel)
theorem sm_X10_oneIf : Cond.static yX10_oneIf ∈ lw_all := lw_in 352 (by decide +kernel) (by decide +kernel)
theorem co_X10_oneIf : Cond.code yX10_oneIf cX10_oneIf 1 (some .int) ∈ lw_all := lw_in 353 (by decide +kernel) (by decide +kernel)
theorem ml_L_96 : Cond.methodLink "CompositeDecoderLaw" 96 yX10_setStandard ∈ lw_all := lw_in 354 (by decide +kernel) (by decide +kernel)
theorem im_X10_setStandard : Cond.instanceMethod yX10_setStandard ∈ lw_all := lw_in 355 (by decide +kernel) (by decide +kernel)
theorem se_X10_setStandard : Cond.selects "CompositeDecoder" yX10_setStandard yX10_setStandard ∈ lw_all := lw_in 356 (by decide +kernel) (by decide +kernel)
theorem co_X10_setStandard : Cond.code yX10_setStandard cX10_setStandard 3 (some .int) ∈ lw_all := lw_in 357 (by decide +kernel) (by decide +kernel)
theorem ml_L_99 : Cond.methodLink "CompositeDecoderLaw" 99 yX10_set ∈ lw_all := lw_in 358 (by decide +kernel) (by decide +kernel)
theorem im_X10_set : Cond.instanceMethod yX10_set ∈ lw_all := lw_in 359 (by decide +kernel) (by decide +kernel)
theorem se_X10_set : Cond.selects "CompositeDecoder" yX10_set yX10_set ∈ lw_all := lw_in 360 (by decide +kernel) (by decide +kernel)
theorem co_X10_set : Cond.code yX10_set cX10_set 4 (some .int) ∈ lw_all := lw_in 361 (by decide +kernel) (by decide +kernel)
theorem ml_X10_153 : Cond.methodLink "CompositeDecoder" 153 yX8_allows ∈ lw_all := lw_in 362 (by decide +kernel) (by decide +kernel)
theorem im_X8_allows : Cond.instanceMethod yX8_allows ∈ lw_all := lw_in 363 (by decide +kernel) (by decide +kernel)
theorem se_X8_allows : Cond.selects "CompositeDecoder$Settings" yX8_allows yX8_allows ∈ lw_all := lw_in 364 (by decide +kernel) (by decide +kernel)
theorem co_X8_allows : Cond.code yX8_allows cX8_allows 3 (some .boolean) ∈ lw_all := lw_in 365 (by decide +kernel) (by decide +kernel)
theorem fl_X8_13 : Cond.fieldLink "CompositeDecoder$Settings" 13 "CompositeDecoder$Settings" "LOWEST" "[I" ∈ lw_all := lw_in 366 (by decide +kernel) (by decide +kernel)
theorem fl_X8_16 : Cond.fieldLink "CompositeDecoder$Settings" 16 "CompositeDecoder$Settings" "HIGHEST" "[I" ∈ lw_all := lw_in 368 (by decide +kernel) (by decide +kernel)
theorem ml_X8_19 : Cond.methodLinkNest "CompositeDecoder$Settings" 19 yX10_isWithin "CompositeDecoder" ∈ lw_nest := lw_inN 370 (by decide +kernel) (by decide +kernel)
theorem ml_L_110 : Cond.methodLink "CompositeDecoderLaw" 110 yX10_decode ∈ lw_all := lw_in 371 (by decide +kernel) (by decide +kernel)
theorem im_X10_decode : Cond.instanceMethod yX10_decode ∈ lw_all := lw_in 372 (by decide +kernel) (by decide +kernel)
theorem se_X10_decode : Cond.selects "CompositeDecoder" yX10_decode yX10_decode ∈ lw_all := lw_in 373 (by decide +kernel) (by decide +kernel)
theorem co_X10_decode : Cond.code yX10_decode cX10_decode 2 (some .int) ∈ lw_all := lw_in 374 (by decide +kernel) (by decide +kernel)
theorem ml_X10_159 : Cond.methodLink "CompositeDecoder" 159 yX9_sendFrom ∈ lw_all := lw_in 375 (by decide +kernel) (by decide +kernel)
theorem im_X9_sendFrom : Cond.instanceMethod yX9_sendFrom ∈ lw_all := lw_in 376 (by decide +kernel) (by decide +kernel)
theorem se_X9_sendFrom : Cond.selects "CompositeDecoder$Signal" yX9_sendFrom yX9_sendFrom ∈ lw_all := lw_in 377 (by decide +kernel) (by decide +kernel)
theorem co_X9_sendFrom : Cond.code yX9_sendFrom cX9_sendFrom 5 none ∈ lw_all := lw_in 378 (by decide +kernel) (by decide +kernel)
theorem ml_X9_16 : Cond.methodLink "CompositeDecoder$Signal" 16 yX7_sampleAt ∈ lw_all := lw_in 379 (by decide +kernel) (by decide +kernel)
theorem im_X7_sampleAt : Cond.instanceMethod yX7_sampleAt ∈ lw_all := lw_in 380 (by decide +kernel) (by decide +kernel)
theorem se_X7_sampleAt : Cond.selects "CompositeDecoder$Picture" yX7_sampleAt yX7_sampleAt ∈ lw_all := lw_in 381 (by decide +kernel) (by decide +kernel)
theorem co_X7_sampleAt : Cond.code yX7_sampleAt cX7_sampleAt 5 (some .int) ∈ lw_all := lw_in 382 (by decide +kernel) (by decide +kernel)
theorem ml_X7_37 : Cond.methodLinkNest "CompositeDecoder$Picture" 37 yX10_turnAt "CompositeDecoder" ∈ lw_nest := lw_inN 383 (by decide +kernel) (by decide +kernel)
theorem sm_X10_turnAt : Cond.static yX10_turnAt ∈ lw_all := lw_in 384 (by decide +kernel) (by decide +kernel)
theorem co_X10_turnAt : Cond.code yX10_turnAt cX10_turnAt 2 (some .int) ∈ lw_all := lw_in 385 (by decide +kernel) (by decide +kernel)
theorem ml_X7_41 : Cond.methodLink "CompositeDecoder$Picture" 41 yX7_noiseAt ∈ lw_all := lw_in 386 (by decide +kernel) (by decide +kernel)
theorem im_X7_noiseAt : Cond.instanceMethod yX7_noiseAt ∈ lw_all := lw_in 388 (by decide +kernel) (by decide +kernel)
theorem co_X7_noiseAt : Cond.code yX7_noiseAt cX7_noiseAt 3 (some .int) ∈ lw_all := lw_in 389 (by decide +kernel) (by decide +kernel)
theorem ml_X7_48 : Cond.methodLink "CompositeDecoder$Picture" 48 yJ9_floorMod_7cf53 ∈ lw_all := lw_in 390 (by decide +kernel) (by decide +kernel)
theorem sm_J9_floorMod_7cf53 : Cond.static yJ9_floorMod_7cf53 ∈ lw_all := lw_in 391 (by decide +kernel) (by decide +kernel)
theorem co_J9_floorMod_7cf53 : Cond.code yJ9_floorMod_7cf53 cJ9_floorMod_7cf53 3 (some .int) ∈ lw_all := lw_in 392 (by decide +kernel) (by decide +kernel)
theorem ml_X7_44 : Cond.methodLink "CompositeDecoder$Picture" 44 yX7_levelAt ∈ lw_all := lw_in 393 (by decide +kernel) (by decide +kernel)
theorem im_X7_levelAt : Cond.instanceMethod yX7_levelAt ∈ lw_all := lw_in 395 (by decide +kernel) (by decide +kernel)
theorem co_X7_levelAt : Cond.code yX7_levelAt cX7_levelAt 6 (some .int) ∈ lw_all := lw_in 396 (by decide +kernel) (by decide +kernel)
theorem ml_X7_53 : Cond.methodLink "CompositeDecoder$Picture" 53 yX7_burstAt ∈ lw_all := lw_in 397 (by decide +kernel) (by decide +kernel)
theorem im_X7_burstAt : Cond.instanceMethod yX7_burstAt ∈ lw_all := lw_in 399 (by decide +kernel) (by decide +kernel)
theorem co_X7_burstAt : Cond.code yX7_burstAt cX7_burstAt 4 (some .int) ∈ lw_all := lw_in 400 (by decide +kernel) (by decide +kernel)
theorem fl_X7_59 : Cond.fieldLinkNest "CompositeDecoder$Picture" 59 "CompositeDecoder" "SINE" "[I" "CompositeDecoder" ∈ lw_nest := lw_inN 401 (by decide +kernel) (by decide +kernel)
theorem ml_X7_62 : Cond.methodLink "CompositeDecoder$Picture" 62 yX7_signOf ∈ lw_all := lw_in 403 (by decide +kernel) (by decide +kernel)
theorem im_X7_signOf : Cond.instanceMethod yX7_signOf ∈ lw_all := lw_in 405 (by decide +kernel) (by decide +kernel)
theorem co_X7_signOf : Cond.code yX7_signOf cX7_signOf 2 (some .int) ∈ lw_all := lw_in 406 (by decide +kernel) (by decide +kernel)
theorem fl_X7_66 : Cond.fieldLinkNest "CompositeDecoder$Picture" 66 "CompositeDecoder" "COSINE" "[I" "CompositeDecoder" ∈ lw_nest := lw_inN 407 (by decide +kernel) (by decide +kernel)
theorem ml_X7_56 : Cond.methodLinkNest "CompositeDecoder$Picture" 56 yX10_placeOf "CompositeDecoder" ∈ lw_nest := lw_inN 409 (by decide +kernel) (by decide +kernel)
theorem ml_X10_163 : Cond.methodLink "CompositeDecoder" 163 yX4_find ∈ lw_all := lw_in 410 (by decide +kernel) (by decide +kernel)
theorem im_X4_find : Cond.instanceMethod yX4_find ∈ lw_all := lw_in 411 (by decide +kernel) (by decide +kernel)
theorem se_X4_find : Cond.selects "CompositeDecoder$LineFinder" yX4_find yX4_find ∈ lw_all := lw_in 412 (by decide +kernel) (by decide +kernel)
theorem co_X4_find : Cond.code yX4_find cX4_find 4 none ∈ lw_all := lw_in 413 (by decide +kernel) (by decide +kernel)
theorem ml_X4_39 : Cond.methodLink "CompositeDecoder$LineFinder" 39 yX9_pulseOf ∈ lw_all := lw_in 414 (by decide +kernel) (by decide +kernel)
theorem im_X9_pulseOf : Cond.instanceMethod yX9_pulseOf ∈ lw_all := lw_in 415 (by decide +kernel) (by decide +kernel)
theorem se_X9_pulseOf : Cond.selects "CompositeDecoder$Signal" yX9_pulseOf yX9_pulseOf ∈ lw_all := lw_in 416 (by decide +kernel) (by decide +kernel)
theorem co_X9_pulseOf : Cond.code yX9_pulseOf cX9_pulseOf 4 (some .int) ∈ lw_all := lw_in 417 (by decide +kernel) (by decide +kernel)
theorem ml_X9_22 : Cond.methodLink "CompositeDecoder$Signal" 22 yX9_at ∈ lw_all := lw_in 418 (by decide +kernel) (by decide +kernel)
theorem im_X9_at : Cond.instanceMethod yX9_at ∈ lw_all := lw_in 419 (by decide +kernel) (by decide +kernel)
theorem se_X9_at : Cond.selects "CompositeDecoder$Signal" yX9_at yX9_at ∈ lw_all := lw_in 420 (by decide +kernel) (by decide +kernel)
theorem co_X9_at : Cond.code yX9_at cX9_at 3 (some .int) ∈ lw_all := lw_in 421 (by decide +kernel) (by decide +kernel)
theorem ml_X4_45 : Cond.methodLink "CompositeDecoder$LineFinder" 45 yX4_steer ∈ lw_all := lw_in 422 (by decide +kernel) (by decide +kernel)
theorem im_X4_steer : Cond.instanceMethod yX4_steer ∈ lw_all := lw_in 424 (by decide +kernel) (by decide +kernel)
theorem co_X4_steer : Cond.code yX4_steer cX4_steer 3 none ∈ lw_all := lw_in 425 (by decide +kernel) (by decide +kernel)
theorem ml_X4_55 : Cond.methodLinkNest "CompositeDecoder$LineFinder" 55 yX10_isWithin "CompositeDecoder" ∈ lw_nest := lw_inN 426 (by decide +kernel) (by decide +kernel)
theorem ml_X4_49 : Cond.methodLink "CompositeDecoder$LineFinder" 49 yJ9_floorDiv_7cf53 ∈ lw_all := lw_in 427 (by decide +kernel) (by decide +kernel)
theorem sm_J9_floorDiv_7cf53 : Cond.static yJ9_floorDiv_7cf53 ∈ lw_all := lw_in 428 (by decide +kernel) (by decide +kernel)
theorem co_J9_floorDiv_7cf53 : Cond.code yJ9_floorDiv_7cf53 cJ9_floorDiv_7cf53 3 (some .int) ∈ lw_all := lw_in 429 (by decide +kernel) (by decide +kernel)
theorem ml_X10_170 : Cond.methodLink "CompositeDecoder" 170 yX8_threshold ∈ lw_all := lw_in 430 (by decide +kernel) (by decide +kernel)
theorem im_X8_threshold : Cond.instanceMethod yX8_threshold ∈ lw_all := lw_in 431 (by decide +kernel) (by decide +kernel)
theorem se_X8_threshold : Cond.selects "CompositeDecoder$Settings" yX8_threshold yX8_threshold ∈ lw_all := lw_in 432 (by decide +kernel) (by decide +kernel)
theorem co_X8_threshold : Cond.code yX8_threshold cX8_threshold 1 (some .int) ∈ lw_all := lw_in 433 (by decide +kernel) (by decide +kernel)
theorem ml_X10_173 : Cond.methodLink "CompositeDecoder" 173 yX1_measure ∈ lw_all := lw_in 434 (by decide +kernel) (by decide +kernel)
theorem im_X1_measure : Cond.instanceMethod yX1_measure ∈ lw_all := lw_in 435 (by decide +kernel) (by decide +kernel)
theorem se_X1_measure : Cond.selects "CompositeDecoder$Bursts" yX1_measure yX1_measure ∈ lw_all := lw_in 436 (by decide +kernel) (by decide +kernel)
theorem co_X1_measure : Cond.code yX1_measure cX1_measure 6 none ∈ lw_all := lw_in 437 (by decide +kernel) (by decide +kernel)
theorem ml_X1_32 : Cond.methodLink "CompositeDecoder$Bursts" 32 yX1_sumUp ∈ lw_all := lw_in 438 (by decide +kernel) (by decide +kernel)
theorem im_X1_sumUp : Cond.instanceMethod yX1_sumUp ∈ lw_all := lw_in 440 (by decide +kernel) (by decide +kernel)
theorem co_X1_sumUp : Cond.code yX1_sumUp cX1_sumUp 9 none ∈ lw_all := lw_in 441 (by decide +kernel) (by decide +kernel)
theorem ml_X1_46 : Cond.methodLink "CompositeDecoder$Bursts" 46 yX9_at ∈ lw_all := lw_in 442 (by decide +kernel) (by decide +kernel)
theorem ml_X1_52 : Cond.methodLinkNest "CompositeDecoder$Bursts" 52 yX10_turnAt "CompositeDecoder" ∈ lw_nest := lw_inN 443 (by decide +kernel) (by decide +kernel)
theorem fl_X1_55 : Cond.fieldLinkNest "CompositeDecoder$Bursts" 55 "CompositeDecoder" "SINE" "[I" "CompositeDecoder" ∈ lw_nest := lw_inN 444 (by decide +kernel) (by decide +kernel)
theorem fl_X1_58 : Cond.fieldLinkNest "CompositeDecoder$Bursts" 58 "CompositeDecoder" "COSINE" "[I" "CompositeDecoder" ∈ lw_nest := lw_inN 445 (by decide +kernel) (by decide +kernel)
theorem ml_X1_36 : Cond.methodLink "CompositeDecoder$Bursts" 36 yJ9_abs_0f7a4 ∈ lw_all := lw_in 446 (by decide +kernel) (by decide +kernel)
theorem sm_J9_abs_0f7a4 : Cond.static yJ9_abs_0f7a4 ∈ lw_all := lw_in 447 (by decide +kernel) (by decide +kernel)
theorem co_J9_abs_0f7a4 : Cond.code yJ9_abs_0f7a4 cJ9_abs_0f7a4 1 (some .int) ∈ lw_all := lw_in 448 (by decide +kernel) (by decide +kernel)
theorem ml_X1_42 : Cond.methodLink "CompositeDecoder$Bursts" 42 yX1_countPair ∈ lw_all := lw_in 449 (by decide +kernel) (by decide +kernel)
theorem im_X1_countPair : Cond.instanceMethod yX1_countPair ∈ lw_all := lw_in 451 (by decide +kernel) (by decide +kernel)
theorem co_X1_countPair : Cond.code yX1_countPair cX1_countPair 5 none ∈ lw_all := lw_in 452 (by decide +kernel) (by decide +kernel)
theorem ml_X10_177 : Cond.methodLink "CompositeDecoder" 177 yX1_guessedStandard ∈ lw_all := lw_in 453 (by decide +kernel) (by decide +kernel)
theorem im_X1_guessedStandard : Cond.instanceMethod yX1_guessedStandard ∈ lw_all := lw_in 454 (by decide +kernel) (by decide +kernel)
theorem se_X1_guessedStandard : Cond.selects "CompositeDecoder$Bursts" yX1_guessedStandard yX1_guessedStandard ∈ lw_all := lw_in 455 (by decide +kernel) (by decide +kernel)
theorem co_X1_guessedStandard : Cond.code yX1_guessedStandard cX1_guessedStandard 1 (some .int) ∈ lw_all := lw_in 456 (by decide +kernel) (by decide +kernel)
theorem ml_X1_61 : Cond.methodLinkNest "CompositeDecoder$Bursts" 61 yX10_oneIf "CompositeDecoder" ∈ lw_nest := lw_inN 457 (by decide +kernel) (by decide +kernel)
theorem ml_X10_180 : Cond.methodLink "CompositeDecoder" 180 yX8_standardTaken ∈ lw_all := lw_in 458 (by decide +kernel) (by decide +kernel)
theorem im_X8_standardTaken : Cond.instanceMethod yX8_standardTaken ∈ lw_all := lw_in 459 (by decide +kernel) (by decide +kernel)
theorem se_X8_standardTaken : Cond.selects "CompositeDecoder$Settings" yX8_standardTaken yX8_standardTaken ∈ lw_all := lw_in 460 (by decide +kernel) (by decide +kernel)
theorem co_X8_standardTaken : Cond.code yX8_standardTaken cX8_standardTaken 2 (some .int) ∈ lw_all := lw_in 461 (by decide +kernel) (by decide +kernel)
theorem ml_X10_184 : Cond.methodLink "CompositeDecoder" 184 yX6_follow ∈ lw_all := lw_in 462 (by decide +kernel) (by decide +kernel)
theorem im_X6_follow : Cond.instanceMethod yX6_follow ∈ lw_all := lw_in 463 (by decide +kernel) (by decide +kernel)
theorem se_X6_follow : Cond.selects "CompositeDecoder$PhaseReference" yX6_follow yX6_follow ∈ lw_all := lw_in 464 (by decide +kernel) (by decide +kernel)
theorem co_X6_follow : Cond.code yX6_follow cX6_follow 9 none ∈ lw_all := lw_in 465 (by decide +kernel) (by decide +kernel)
theorem ml_X6_27 : Cond.methodLink "CompositeDecoder$PhaseReference" 27 yX6_aimOf ∈ lw_all := lw_in 466 (by decide +kernel) (by decide +kernel)
theorem sm_X6_aimOf : Cond.static yX6_aimOf ∈ lw_all := lw_in 467 (by decide +kernel) (by decide +kernel)
theorem co_X6_aimOf : Cond.code yX6_aimOf cX6_aimOf 3 (some .float) ∈ lw_all := lw_in 468 (by decide +kernel) (by decide +kernel)
theorem kf_X6_33 : Cond.constantFloat "CompositeDecoder$PhaseReference" 33 (1048576000) ∈ lw_all := lw_in 469 (by decide +kernel) (by decide +kernel)
theorem ml_X10_188 : Cond.methodLink "CompositeDecoder" 188 yX3_separate ∈ lw_all := lw_in 470 (by decide +kernel) (by decide +kernel)
theorem im_X3_separate : Cond.instanceMethod yX3_separate ∈ lw_all := lw_in 471 (by decide +kernel) (by decide +kernel)
theorem se_X3_separate : Cond.selects "CompositeDecoder$Combs" yX3_separate yX3_separate ∈ lw_all := lw_in 472 (by decide +kernel) (by decide +kernel)
theorem co_X3_separate : Cond.code yX3_separate cX3_separate 10 none ∈ lw_all := lw_in 473 (by decide +kernel) (by decide +kernel)
theorem ml_X3_27 : Cond.methodLink "CompositeDecoder$Combs" 27 yX8_comb ∈ lw_all := lw_in 474 (by decide +kernel) (by decide +kernel)
theorem im_X8_comb : Cond.instanceMethod yX8_comb ∈ lw_all := lw_in 475 (by decide +kernel) (by decide +kernel)
theorem se_X8_comb : Cond.selects "CompositeDecoder$Settings" yX8_comb yX8_comb ∈ lw_all := lw_in 476 (by decide +kernel) (by decide +kernel)
theorem co_X8_comb : Cond.code yX8_comb cX8_comb 1 (some .int) ∈ lw_all := lw_in 477 (by decide +kernel) (by decide +kernel)
theorem ml_X3_33 : Cond.methodLink "CompositeDecoder$Combs" 33 yX8_limit ∈ lw_all := lw_in 478 (by decide +kernel) (by decide +kernel)
theorem im_X8_limit : Cond.instanceMethod yX8_limit ∈ lw_all := lw_in 479 (by decide +kernel) (by decide +kernel)
theorem se_X8_limit : Cond.selects "CompositeDecoder$Settings" yX8_limit yX8_limit ∈ lw_all := lw_in 480 (by decide +kernel) (by decide +kernel)
theorem co_X8_limit : Cond.code yX8_limit cX8_limit 1 (some .int) ∈ lw_all := lw_in 481 (by decide +kernel) (by decide +kernel)
theorem ml_X3_36 : Cond.methodLink "CompositeDecoder$Combs" 36 yX3_sumUp ∈ lw_all := lw_in 482 (by decide +kernel) (by decide +kernel)
theorem im_X3_sumUp : Cond.instanceMethod yX3_sumUp ∈ lw_all := lw_in 484 (by decide +kernel) (by decide +kernel)
theorem co_X3_sumUp : Cond.code yX3_sumUp cX3_sumUp 6 none ∈ lw_all := lw_in 485 (by decide +kernel) (by decide +kernel)
theorem ml_X3_40 : Cond.methodLinkNest "CompositeDecoder$Combs" 40 yX10_placeOf "CompositeDecoder" ∈ lw_nest := lw_inN 486 (by decide +kernel) (by decide +kernel)
theorem ml_X3_52 : Cond.methodLink "CompositeDecoder$Combs" 52 yX9_sumFrom ∈ lw_all := lw_in 487 (by decide +kernel) (by decide +kernel)
theorem im_X9_sumFrom : Cond.instanceMethod yX9_sumFrom ∈ lw_all := lw_in 488 (by decide +kernel) (by decide +kernel)
theorem se_X9_sumFrom : Cond.selects "CompositeDecoder$Signal" yX9_sumFrom yX9_sumFrom ∈ lw_all := lw_in 489 (by decide +kernel) (by decide +kernel)
theorem co_X9_sumFrom : Cond.code yX9_sumFrom cX9_sumFrom 5 (some .int) ∈ lw_all := lw_in 490 (by decide +kernel) (by decide +kernel)
theorem ml_X3_44 : Cond.methodLink "CompositeDecoder$Combs" 44 yX3_wayFor ∈ lw_all := lw_in 491 (by decide +kernel) (by decide +kernel)
theorem im_X3_wayFor : Cond.instanceMethod yX3_wayFor ∈ lw_all := lw_in 493 (by decide +kernel) (by decide +kernel)
theorem co_X3_wayFor : Cond.code yX3_wayFor cX3_wayFor 7 (some .int) ∈ lw_all := lw_in 494 (by decide +kernel) (by decide +kernel)
theorem ml_X3_57 : Cond.methodLink "CompositeDecoder$Combs" 57 yX3_isNear ∈ lw_all := lw_in 495 (by decide +kernel) (by decide +kernel)
theorem im_X3_isNear : Cond.instanceMethod yX3_isNear ∈ lw_all := lw_in 497 (by decide +kernel) (by decide +kernel)
theorem co_X3_isNear : Cond.code yX3_isNear cX3_isNear 4 (some .boolean) ∈ lw_all := lw_in 498 (by decide +kernel) (by decide +kernel)
theorem ml_X3_61 : Cond.methodLinkNest "CompositeDecoder$Combs" 61 yX10_isWithin "CompositeDecoder" ∈ lw_nest := lw_inN 499 (by decide +kernel) (by decide +kernel)
theorem ml_X3_64 : Cond.methodLink "CompositeDecoder$Combs" 64 yJ9_abs_0f7a4 ∈ lw_all := lw_in 500 (by decide +kernel) (by decide +kernel)
theorem ml_X3_48 : Cond.methodLink "CompositeDecoder$Combs" 48 yX3_splitSegment ∈ lw_all := lw_in 501 (by decide +kernel) (by decide +kernel)
theorem im_X3_splitSegment : Cond.instanceMethod yX3_splitSegment ∈ lw_all := lw_in 503 (by decide +kernel) (by decide +kernel)
theorem co_X3_splitSegment : Cond.code yX3_splitSegment cX3_splitSegment 13 none ∈ lw_all := lw_in 504 (by decide +kernel) (by decide +kernel)
theorem ml_X3_70 : Cond.methodLink "CompositeDecoder$Combs" 70 yX3_chromaAt ∈ lw_all := lw_in 505 (by decide +kernel) (by decide +kernel)
theorem sm_X3_chromaAt : Cond.static yX3_chromaAt ∈ lw_all := lw_in 506 (by decide +kernel) (by decide +kernel)
theorem co_X3_chromaAt : Cond.code yX3_chromaAt cX3_chromaAt 6 (some .int) ∈ lw_all := lw_in 507 (by decide +kernel) (by decide +kernel)
theorem ml_X3_86 : Cond.methodLink "CompositeDecoder$Combs" 86 yX3_sampleAt ∈ lw_all := lw_in 508 (by decide +kernel) (by decide +kernel)
theorem sm_X3_sampleAt : Cond.static yX3_sampleAt ∈ lw_all := lw_in 509 (by decide +kernel) (by decide +kernel)
theorem co_X3_sampleAt : Cond.code yX3_sampleAt cX3_sampleAt 4 (some .int) ∈ lw_all := lw_in 510 (by decide +kernel) (by decide +kernel)
theorem ml_X3_90 : Cond.methodLinkNest "CompositeDecoder$Combs" 90 yX10_isLine "CompositeDecoder" ∈ lw_nest := lw_inN 511 (by decide +kernel) (by decide +kernel)
theorem ml_X3_94 : Cond.methodLink "CompositeDecoder$Combs" 94 yX9_at ∈ lw_all := lw_in 512 (by decide +kernel) (by decide +kernel)
theorem ml_X3_74 : Cond.methodLinkNest "CompositeDecoder$Combs" 74 yX10_turnAt "CompositeDecoder" ∈ lw_nest := lw_inN 513 (by decide +kernel) (by decide +kernel)
theorem fl_X3_77 : Cond.fieldLinkNest "CompositeDecoder$Combs" 77 "CompositeDecoder" "SINE" "[I" "CompositeDecoder" ∈ lw_nest := lw_inN 514 (by decide +kernel) (by decide +kernel)
theorem fl_X3_80 : Cond.fieldLinkNest "CompositeDecoder$Combs" 80 "CompositeDecoder" "COSINE" "[I" "CompositeDecoder" ∈ lw_nest := lw_inN 515 (by decide +kernel) (by decide +kernel)
theorem ml_X3_83 : Cond.methodLink "CompositeDecoder$Combs" 83 yJ9_floorDiv_7cf53 ∈ lw_all := lw_in 516 (by decide +kernel) (by decide +kernel)
theorem ml_X10_192 : Cond.methodLink "CompositeDecoder" 192 yX2_turn ∈ lw_all := lw_in 517 (by decide +kernel) (by decide +kernel)
theorem im_X2_turn : Cond.instanceMethod yX2_turn ∈ lw_all := lw_in 518 (by decide +kernel) (by decide +kernel)
theorem se_X2_turn : Cond.selects "CompositeDecoder$Colors" yX2_turn yX2_turn ∈ lw_all := lw_in 519 (by decide +kernel) (by decide +kernel)
theorem co_X2_turn : Cond.code yX2_turn cX2_turn 12 none ∈ lw_all := lw_in 520 (by decide +kernel) (by decide +kernel)
theorem ml_X2_38 : Cond.methodLinkNest "CompositeDecoder$Colors" 38 yX10_placeOf "CompositeDecoder" ∈ lw_nest := lw_inN 521 (by decide +kernel) (by decide +kernel)
theorem ml_X2_42 : Cond.methodLink "CompositeDecoder$Colors" 42 yX2_turnSegment ∈ lw_all := lw_in 522 (by decide +kernel) (by decide +kernel)
theorem im_X2_turnSegment : Cond.instanceMethod yX2_turnSegment ∈ lw_all := lw_in 524 (by decide +kernel) (by decide +kernel)
theorem co_X2_turnSegment : Cond.code yX2_turnSegment cX2_turnSegment 11 none ∈ lw_all := lw_in 525 (by decide +kernel) (by decide +kernel)
end
section
/-! the words, by their places -/
theorem kf_X2_55 : Cond.constantFloat "CompositeDecoder$Colors" 55 (1098907648) ∈ lw_all := lw_in 526 (by decide +kernel) (by decide +kernel)
theorem kf_X2_58 : Cond.constantFloat "CompositeDecoder$Colors" 58 (1117782016) ∈ lw_all := lw_in 527 (by decide +kernel) (by decide +kernel)
theorem ml_X2_46 : Cond.methodLink "CompositeDecoder$Colors" 46 yX2_mixSegment ∈ lw_all := lw_in 528 (by decide +kernel) (by decide +kernel)
theorem im_X2_mixSegment : Cond.instanceMethod yX2_mixSegment ∈ lw_all := lw_in 530 (by decide +kernel) (by decide +kernel)
theorem co_X2_mixSegment : Cond.code yX2_mixSegment cX2_mixSegment 4 none ∈ lw_all := lw_in 531 (by decide +kernel) (by decide +kernel)
theorem kf_X2_59 : Cond.constantFloat "CompositeDecoder$Colors" 59 (1056964608) ∈ lw_all := lw_in 532 (by decide +kernel) (by decide +kernel)
theorem ml_X10_197 : Cond.methodLink "CompositeDecoder" 197 yX8_limit ∈ lw_all := lw_in 533 (by decide +kernel) (by decide +kernel)
theorem ml_X10_203 : Cond.methodLink "CompositeDecoder" 203 yX5_watch ∈ lw_all := lw_in 534 (by decide +kernel) (by decide +kernel)
theorem im_X5_watch : Cond.instanceMethod yX5_watch ∈ lw_all := lw_in 535 (by decide +kernel) (by decide +kernel)
theorem se_X5_watch : Cond.selects "CompositeDecoder$Movement" yX5_watch yX5_watch ∈ lw_all := lw_in 536 (by decide +kernel) (by decide +kernel)
theorem co_X5_watch : Cond.code yX5_watch cX5_watch 6 none ∈ lw_all := lw_in 537 (by decide +kernel) (by decide +kernel)
theorem ml_X5_22 : Cond.methodLink "CompositeDecoder$Movement" 22 yJ9_abs_0f7a4 ∈ lw_all := lw_in 538 (by decide +kernel) (by decide +kernel)
theorem ml_X5_28 : Cond.methodLinkNest "CompositeDecoder$Movement" 28 yX10_placeOf "CompositeDecoder" ∈ lw_nest := lw_inN 539 (by decide +kernel) (by decide +kernel)
theorem ml_X5_32 : Cond.methodLink "CompositeDecoder$Movement" 32 yX5_kindOf ∈ lw_all := lw_in 540 (by decide +kernel) (by decide +kernel)
theorem im_X5_kindOf : Cond.instanceMethod yX5_kindOf ∈ lw_all := lw_in 542 (by decide +kernel) (by decide +kernel)
theorem co_X5_kindOf : Cond.code yX5_kindOf cX5_kindOf 5 (some .int) ∈ lw_all := lw_in 543 (by decide +kernel) (by decide +kernel)
theorem ml_X5_41 : Cond.methodLink "CompositeDecoder$Movement" 41 yX5_hasChanged ∈ lw_all := lw_in 544 (by decide +kernel) (by decide +kernel)
theorem im_X5_hasChanged : Cond.instanceMethod yX5_hasChanged ∈ lw_all := lw_in 546 (by decide +kernel) (by decide +kernel)
theorem co_X5_hasChanged : Cond.code yX5_hasChanged cX5_hasChanged 3 (some .boolean) ∈ lw_all := lw_in 547 (by decide +kernel) (by decide +kernel)
theorem ml_X5_45 : Cond.methodLinkNest "CompositeDecoder$Movement" 45 yX10_isPlace "CompositeDecoder" ∈ lw_nest := lw_inN 548 (by decide +kernel) (by decide +kernel)
theorem ml_X5_35 : Cond.methodLink "CompositeDecoder$Movement" 35 arraycopyName ∈ lw_all := lw_in 549 (by decide +kernel) (by decide +kernel)
theorem sm_arraycopy : Cond.static arraycopyName ∈ lw_all := lw_in 550 (by decide +kernel) (by decide +kernel)
theorem na_arraycopy : Cond.native arraycopyName ∈ lw_all := lw_in 551 (by decide +kernel) (by decide +kernel)
theorem ml_X10_210 : Cond.methodLink "CompositeDecoder" 210 yX10_tally ∈ lw_all := lw_in 552 (by decide +kernel) (by decide +kernel)
theorem sm_X10_tally : Cond.static yX10_tally ∈ lw_all := lw_in 553 (by decide +kernel) (by decide +kernel)
theorem co_X10_tally : Cond.code yX10_tally cX10_tally 6 (some .int) ∈ lw_all := lw_in 554 (by decide +kernel) (by decide +kernel)
theorem ml_L_38 : Cond.methodLink "CompositeDecoderLaw" 38 yX10_line ∈ lw_all := lw_in 555 (by decide +kernel) (by decide +kernel)
theorem im_X10_line : Cond.instanceMethod yX10_line ∈ lw_all := lw_in 556 (by decide +kernel) (by decide +kernel)
theorem se_X10_line : Cond.selects "CompositeDecoder" yX10_line yX10_line ∈ lw_all := lw_in 557 (by decide +kernel) (by decide +kernel)
theorem co_X10_line : Cond.code yX10_line cX10_line 3 (some .int) ∈ lw_all := lw_in 558 (by decide +kernel) (by decide +kernel)
theorem kc_X10_214 : Cond.constant "CompositeDecoder" 214 (-100004) ∈ lw_all := lw_in 559 (by decide +kernel) (by decide +kernel)
theorem ml_L_52 : Cond.methodLink "CompositeDecoderLaw" 52 yX10_luma ∈ lw_all := lw_in 560 (by decide +kernel) (by decide +kernel)
theorem im_X10_luma : Cond.instanceMethod yX10_luma ∈ lw_all := lw_in 561 (by decide +kernel) (by decide +kernel)
theorem se_X10_luma : Cond.selects "CompositeDecoder" yX10_luma yX10_luma ∈ lw_all := lw_in 562 (by decide +kernel) (by decide +kernel)
theorem co_X10_luma : Cond.code yX10_luma cX10_luma 3 (some .int) ∈ lw_all := lw_in 563 (by decide +kernel) (by decide +kernel)
theorem ml_L_49 : Cond.methodLink "CompositeDecoderLaw" 49 yX10_combed ∈ lw_all := lw_in 564 (by decide +kernel) (by decide +kernel)
theorem im_X10_combed : Cond.instanceMethod yX10_combed ∈ lw_all := lw_in 565 (by decide +kernel) (by decide +kernel)
theorem se_X10_combed : Cond.selects "CompositeDecoder" yX10_combed yX10_combed ∈ lw_all := lw_in 566 (by decide +kernel) (by decide +kernel)
theorem co_X10_combed : Cond.code yX10_combed cX10_combed 3 (some .int) ∈ lw_all := lw_in 567 (by decide +kernel) (by decide +kernel)
theorem ml_L_63 : Cond.methodLink "CompositeDecoderLaw" 63 yX10_motion ∈ lw_all := lw_in 568 (by decide +kernel) (by decide +kernel)
theorem im_X10_motion : Cond.instanceMethod yX10_motion ∈ lw_all := lw_in 569 (by decide +kernel) (by decide +kernel)
theorem se_X10_motion : Cond.selects "CompositeDecoder" yX10_motion yX10_motion ∈ lw_all := lw_in 570 (by decide +kernel) (by decide +kernel)
theorem co_X10_motion : Cond.code yX10_motion cX10_motion 3 (some .int) ∈ lw_all := lw_in 571 (by decide +kernel) (by decide +kernel)
theorem ml_L_35 : Cond.methodLink "CompositeDecoderLaw" 35 yX10_count ∈ lw_all := lw_in 572 (by decide +kernel) (by decide +kernel)
theorem im_X10_count : Cond.instanceMethod yX10_count ∈ lw_all := lw_in 573 (by decide +kernel) (by decide +kernel)
theorem se_X10_count : Cond.selects "CompositeDecoder" yX10_count yX10_count ∈ lw_all := lw_in 574 (by decide +kernel) (by decide +kernel)
theorem co_X10_count : Cond.code yX10_count cX10_count 3 (some .int) ∈ lw_all := lw_in 575 (by decide +kernel) (by decide +kernel)
theorem ml_X10_251 : Cond.methodLink "CompositeDecoder" 251 yX10_countOfNow ∈ lw_all := lw_in 576 (by decide +kernel) (by decide +kernel)
theorem im_X10_countOfNow : Cond.instanceMethod yX10_countOfNow ∈ lw_all := lw_in 578 (by decide +kernel) (by decide +kernel)
theorem co_X10_countOfNow : Cond.code yX10_countOfNow cX10_countOfNow 3 (some .int) ∈ lw_all := lw_in 579 (by decide +kernel) (by decide +kernel)
theorem ml_X10_254 : Cond.methodLink "CompositeDecoder" 254 yX10_countOfDecoding ∈ lw_all := lw_in 580 (by decide +kernel) (by decide +kernel)
theorem im_X10_countOfDecoding : Cond.instanceMethod yX10_countOfDecoding ∈ lw_all := lw_in 582 (by decide +kernel) (by decide +kernel)
theorem co_X10_countOfDecoding : Cond.code yX10_countOfDecoding cX10_countOfDecoding 2 (some .int) ∈ lw_all := lw_in 583 (by decide +kernel) (by decide +kernel)
theorem ml_X10_263 : Cond.methodLink "CompositeDecoder" 263 yX10_wrongLumas ∈ lw_all := lw_in 584 (by decide +kernel) (by decide +kernel)
theorem im_X10_wrongLumas : Cond.instanceMethod yX10_wrongLumas ∈ lw_all := lw_in 586 (by decide +kernel) (by decide +kernel)
theorem co_X10_wrongLumas : Cond.code yX10_wrongLumas cX10_wrongLumas 3 (some .int) ∈ lw_all := lw_in 587 (by decide +kernel) (by decide +kernel)
theorem ml_X10_266 : Cond.methodLink "CompositeDecoder" 266 yX10_lumaDifferences ∈ lw_all := lw_in 588 (by decide +kernel) (by decide +kernel)
theorem im_X10_lumaDifferences : Cond.instanceMethod yX10_lumaDifferences ∈ lw_all := lw_in 590 (by decide +kernel) (by decide +kernel)
theorem co_X10_lumaDifferences : Cond.code yX10_lumaDifferences cX10_lumaDifferences 3 (some .int) ∈ lw_all := lw_in 591 (by decide +kernel) (by decide +kernel)
theorem ml_X10_272 : Cond.methodLink "CompositeDecoder" 272 yJ9_abs_0f7a4 ∈ lw_all := lw_in 592 (by decide +kernel) (by decide +kernel)
theorem ml_X10_269 : Cond.methodLink "CompositeDecoder" 269 yX10_tally_ ∈ lw_all := lw_in 593 (by decide +kernel) (by decide +kernel)
theorem sm_X10_tally_ : Cond.static yX10_tally_ ∈ lw_all := lw_in 594 (by decide +kernel) (by decide +kernel)
theorem co_X10_tally_ : Cond.code yX10_tally_ cX10_tally_ 7 (some .int) ∈ lw_all := lw_in 595 (by decide +kernel) (by decide +kernel)
theorem ml_L_103 : Cond.methodLink "CompositeDecoderLaw" 103 yL_cell ∈ lw_all := lw_in 596 (by decide +kernel) (by decide +kernel)
theorem sm_L_cell : Cond.static yL_cell ∈ lw_all := lw_in 597 (by decide +kernel) (by decide +kernel)
theorem co_L_cell : Cond.code yL_cell cL_cell 2 (some .int) ∈ lw_all := lw_in 598 (by decide +kernel) (by decide +kernel)
theorem kc_L_7 : Cond.constant "CompositeDecoderLaw" 7 (7870009) ∈ lw_all := lw_in 599 (by decide +kernel) (by decide +kernel)
theorem ml_L_74 : Cond.methodLink "CompositeDecoderLaw" 74 yL_low ∈ lw_all := lw_in 600 (by decide +kernel) (by decide +kernel)
theorem sm_L_low : Cond.static yL_low ∈ lw_all := lw_in 601 (by decide +kernel) (by decide +kernel)
theorem co_L_low : Cond.code yL_low cL_low 2 (some .int) ∈ lw_all := lw_in 602 (by decide +kernel) (by decide +kernel)
theorem kc_L_8 : Cond.constant "CompositeDecoderLaw" 8 (2147483647) ∈ lw_all := lw_in 603 (by decide +kernel) (by decide +kernel)
theorem ml_L_113 : Cond.methodLink "CompositeDecoderLaw" 113 yL_lines ∈ lw_all := lw_in 604 (by decide +kernel) (by decide +kernel)
theorem sm_L_lines : Cond.static yL_lines ∈ lw_all := lw_in 605 (by decide +kernel) (by decide +kernel)
theorem kc_L_21 : Cond.constant "CompositeDecoderLaw" 21 (-100004) ∈ lw_all := lw_in 607 (by decide +kernel) (by decide +kernel)
theorem ml_L_22 : Cond.methodLink "CompositeDecoderLaw" 22 yL_at ∈ lw_all := lw_in 608 (by decide +kernel) (by decide +kernel)
theorem sm_L_at : Cond.static yL_at ∈ lw_all := lw_in 609 (by decide +kernel) (by decide +kernel)
theorem co_L_at : Cond.code yL_at cL_at 3 (some .int) ∈ lw_all := lw_in 610 (by decide +kernel) (by decide +kernel)
theorem ml_L_9 : Cond.methodLink "CompositeDecoderLaw" 9 yX10_sample ∈ lw_all := lw_in 611 (by decide +kernel) (by decide +kernel)
theorem im_X10_sample : Cond.instanceMethod yX10_sample ∈ lw_all := lw_in 612 (by decide +kernel) (by decide +kernel)
theorem se_X10_sample : Cond.selects "CompositeDecoder" yX10_sample yX10_sample ∈ lw_all := lw_in 613 (by decide +kernel) (by decide +kernel)
theorem co_X10_sample : Cond.code yX10_sample cX10_sample 3 (some .int) ∈ lw_all := lw_in 614 (by decide +kernel) (by decide +kernel)
theorem ml_X10_150 : Cond.methodLink "CompositeDecoder" 150 yX7_sampleAt ∈ lw_all := lw_in 615 (by decide +kernel) (by decide +kernel)
theorem ml_L_26 : Cond.methodLink "CompositeDecoderLaw" 26 yL_floor ∈ lw_all := lw_in 616 (by decide +kernel) (by decide +kernel)
theorem sm_L_floor : Cond.static yL_floor ∈ lw_all := lw_in 617 (by decide +kernel) (by decide +kernel)
theorem co_L_floor : Cond.code yL_floor cL_floor 2 (some .int) ∈ lw_all := lw_in 618 (by decide +kernel) (by decide +kernel)
theorem ml_L_15 : Cond.methodLink "CompositeDecoderLaw" 15 yL_sine ∈ lw_all := lw_in 619 (by decide +kernel) (by decide +kernel)
theorem sm_L_sine : Cond.static yL_sine ∈ lw_all := lw_in 620 (by decide +kernel) (by decide +kernel)
theorem co_L_sine : Cond.code yL_sine cL_sine 1 (some .int) ∈ lw_all := lw_in 621 (by decide +kernel) (by decide +kernel)
theorem ml_L_29 : Cond.methodLink "CompositeDecoderLaw" 29 yL_cosine ∈ lw_all := lw_in 622 (by decide +kernel) (by decide +kernel)
theorem sm_L_cosine : Cond.static yL_cosine ∈ lw_all := lw_in 623 (by decide +kernel) (by decide +kernel)
theorem co_L_cosine : Cond.code yL_cosine cL_cosine 1 (some .int) ∈ lw_all := lw_in 624 (by decide +kernel) (by decide +kernel)
theorem ml_L_32 : Cond.methodLink "CompositeDecoderLaw" 32 yL_size ∈ lw_all := lw_in 625 (by decide +kernel) (by decide +kernel)
theorem sm_L_size : Cond.static yL_size ∈ lw_all := lw_in 626 (by decide +kernel) (by decide +kernel)
theorem co_L_size : Cond.code yL_size cL_size 1 (some .int) ∈ lw_all := lw_in 627 (by decide +kernel) (by decide +kernel)
theorem kc_L_41 : Cond.constant "CompositeDecoderLaw" 41 (-100002) ∈ lw_all := lw_in 628 (by decide +kernel) (by decide +kernel)
theorem ml_L_117 : Cond.methodLink "CompositeDecoderLaw" 117 yL_combs ∈ lw_all := lw_in 629 (by decide +kernel) (by decide +kernel)
theorem sm_L_combs : Cond.static yL_combs ∈ lw_all := lw_in 630 (by decide +kernel) (by decide +kernel)
theorem ml_L_45 : Cond.methodLink "CompositeDecoderLaw" 45 yL_near ∈ lw_all := lw_in 632 (by decide +kernel) (by decide +kernel)
theorem sm_L_near : Cond.static yL_near ∈ lw_all := lw_in 633 (by decide +kernel) (by decide +kernel)
theorem co_L_near : Cond.code yL_near cL_near 4 (some .boolean) ∈ lw_all := lw_in 634 (by decide +kernel) (by decide +kernel)
theorem ml_L_42 : Cond.methodLink "CompositeDecoderLaw" 42 yL_sum ∈ lw_all := lw_in 635 (by decide +kernel) (by decide +kernel)
theorem sm_L_sum : Cond.static yL_sum ∈ lw_all := lw_in 636 (by decide +kernel) (by decide +kernel)
theorem co_L_sum : Cond.code yL_sum cL_sum 5 (some .int) ∈ lw_all := lw_in 637 (by decide +kernel) (by decide +kernel)
theorem ml_L_55 : Cond.methodLink "CompositeDecoderLaw" 55 yX10_thousandths ∈ lw_all := lw_in 638 (by decide +kernel) (by decide +kernel)
theorem im_X10_thousandths : Cond.instanceMethod yX10_thousandths ∈ lw_all := lw_in 639 (by decide +kernel) (by decide +kernel)
theorem se_X10_thousandths : Cond.selects "CompositeDecoder" yX10_thousandths yX10_thousandths ∈ lw_all := lw_in 640 (by decide +kernel) (by decide +kernel)
theorem co_X10_thousandths : Cond.code yX10_thousandths cX10_thousandths 6 (some .int) ∈ lw_all := lw_in 641 (by decide +kernel) (by decide +kernel)
theorem kf_X10_243 : Cond.constantFloat "CompositeDecoder" 243 (1148846080) ∈ lw_all := lw_in 642 (by decide +kernel) (by decide +kernel)
theorem ml_L_121 : Cond.methodLink "CompositeDecoderLaw" 121 yL_motion ∈ lw_all := lw_in 643 (by decide +kernel) (by decide +kernel)
theorem sm_L_motion : Cond.static yL_motion ∈ lw_all := lw_in 644 (by decide +kernel) (by decide +kernel)
theorem co_L_motion : Cond.code yL_motion cL_motion 14 (some .boolean) ∈ lw_all := lw_in 645 (by decide +kernel) (by decide +kernel)
theorem ml_L_59 : Cond.methodLink "CompositeDecoderLaw" 59 yL_is ∈ lw_all := lw_in 646 (by decide +kernel) (by decide +kernel)
theorem sm_L_is : Cond.static yL_is ∈ lw_all := lw_in 647 (by decide +kernel) (by decide +kernel)
theorem co_L_is : Cond.code yL_is cL_is 5 (some .boolean) ∈ lw_all := lw_in 648 (by decide +kernel) (by decide +kernel)
theorem ml_L_124 : Cond.methodLink "CompositeDecoderLaw" 124 yL_keep ∈ lw_all := lw_in 649 (by decide +kernel) (by decide +kernel)
theorem sm_L_keep : Cond.static yL_keep ∈ lw_all := lw_in 650 (by decide +kernel) (by decide +kernel)
theorem co_L_keep : Cond.code yL_keep cL_keep 4 none ∈ lw_all := lw_in 651 (by decide +kernel) (by decide +kernel)
theorem ml_L_107 : Cond.methodLink "CompositeDecoderLaw" 107 yL_bars ∈ lw_all := lw_in 652 (by decide +kernel) (by decide +kernel)
theorem sm_L_bars : Cond.static yL_bars ∈ lw_all := lw_in 653 (by decide +kernel) (by decide +kernel)
theorem co_L_bars : Cond.code yL_bars cL_bars 9 (some .boolean) ∈ lw_all := lw_in 654 (by decide +kernel) (by decide +kernel)
theorem ml_L_66 : Cond.methodLink "CompositeDecoderLaw" 66 yX10_clearText ∈ lw_all := lw_in 655 (by decide +kernel) (by decide +kernel)
theorem im_X10_clearText : Cond.instanceMethod yX10_clearText ∈ lw_all := lw_in 656 (by decide +kernel) (by decide +kernel)
theorem se_X10_clearText : Cond.selects "CompositeDecoder" yX10_clearText yX10_clearText ∈ lw_all := lw_in 657 (by decide +kernel) (by decide +kernel)
theorem co_X10_clearText : Cond.code yX10_clearText cX10_clearText 2 (some .int) ∈ lw_all := lw_in 658 (by decide +kernel) (by decide +kernel)
theorem ml_L_70 : Cond.methodLink "CompositeDecoderLaw" 70 yX10_readBars ∈ lw_all := lw_in 659 (by decide +kernel) (by decide +kernel)
theorem im_X10_readBars : Cond.instanceMethod yX10_readBars ∈ lw_all := lw_in 660 (by decide +kernel) (by decide +kernel)
theorem se_X10_readBars : Cond.selects "CompositeDecoder" yX10_readBars yX10_readBars ∈ lw_all := lw_in 661 (by decide +kernel) (by decide +kernel)
theorem co_X10_readBars : Cond.code yX10_readBars cX10_readBars 4 (some .int) ∈ lw_all := lw_in 662 (by decide +kernel) (by decide +kernel)
theorem ml_X10_139 : Cond.methodLink "CompositeDecoder" 139 yX0_parse ∈ lw_all := lw_in 663 (by decide +kernel) (by decide +kernel)
theorem im_X0_parse : Cond.instanceMethod yX0_parse ∈ lw_all := lw_in 664 (by decide +kernel) (by decide +kernel)
theorem se_X0_parse : Cond.selects "CompositeDecoder$BarText" yX0_parse yX0_parse ∈ lw_all := lw_in 665 (by decide +kernel) (by decide +kernel)
theorem co_X0_parse : Cond.code yX0_parse cX0_parse 6 (some .int) ∈ lw_all := lw_in 666 (by decide +kernel) (by decide +kernel)
theorem ml_X0_26 : Cond.methodLink "CompositeDecoder$BarText" 26 yX0_barOf ∈ lw_all := lw_in 667 (by decide +kernel) (by decide +kernel)
theorem sm_X0_barOf : Cond.static yX0_barOf ∈ lw_all := lw_in 668 (by decide +kernel) (by decide +kernel)
theorem co_X0_barOf : Cond.code yX0_barOf cX0_barOf 2 (some .int) ∈ lw_all := lw_in 669 (by decide +kernel) (by decide +kernel)
theorem fl_X0_52 : Cond.fieldLink "CompositeDecoder$BarText" 52 "CompositeDecoder$BarText" "LETTERS" "[C" ∈ lw_all := lw_in 670 (by decide +kernel) (by decide +kernel)
theorem ml_X0_30 : Cond.methodLink "CompositeDecoder$BarText" 30 yX0_digitOf ∈ lw_all := lw_in 672 (by decide +kernel) (by decide +kernel)
theorem sm_X0_digitOf : Cond.static yX0_digitOf ∈ lw_all := lw_in 673 (by decide +kernel) (by decide +kernel)
theorem co_X0_digitOf : Cond.code yX0_digitOf cX0_digitOf 1 (some .int) ∈ lw_all := lw_in 674 (by decide +kernel) (by decide +kernel)
theorem ml_X0_33 : Cond.methodLink "CompositeDecoder$BarText" 33 yX0_repeatBar ∈ lw_all := lw_in 675 (by decide +kernel) (by decide +kernel)
theorem im_X0_repeatBar : Cond.instanceMethod yX0_repeatBar ∈ lw_all := lw_in 677 (by decide +kernel) (by decide +kernel)
theorem co_X0_repeatBar : Cond.code yX0_repeatBar cX0_repeatBar 5 (some .int) ∈ lw_all := lw_in 678 (by decide +kernel) (by decide +kernel)
theorem ml_X10_143 : Cond.methodLink "CompositeDecoder" 143 yX0_paintBar ∈ lw_all := lw_in 679 (by decide +kernel) (by decide +kernel)
theorem im_X0_paintBar : Cond.instanceMethod yX0_paintBar ∈ lw_all := lw_in 680 (by decide +kernel) (by decide +kernel)
theorem se_X0_paintBar : Cond.selects "CompositeDecoder$BarText" yX0_paintBar yX0_paintBar ∈ lw_all := lw_in 681 (by decide +kernel) (by decide +kernel)
theorem co_X0_paintBar : Cond.code yX0_paintBar cX0_paintBar 5 none ∈ lw_all := lw_in 682 (by decide +kernel) (by decide +kernel)
theorem fl_X0_37 : Cond.fieldLink "CompositeDecoder$BarText" 37 "CompositeDecoder$BarText" "BAR_LUMAS" "[I" ∈ lw_all := lw_in 683 (by decide +kernel) (by decide +kernel)
theorem fl_X0_40 : Cond.fieldLink "CompositeDecoder$BarText" 40 "CompositeDecoder$BarText" "BAR_US" "[I" ∈ lw_all := lw_in 685 (by decide +kernel) (by decide +kernel)
theorem fl_X0_43 : Cond.fieldLink "CompositeDecoder$BarText" 43 "CompositeDecoder$BarText" "BAR_VS" "[I" ∈ lw_all := lw_in 687 (by decide +kernel) (by decide +kernel)
theorem ml_X0_46 : Cond.methodLink "CompositeDecoder$BarText" 46 yX7_paint ∈ lw_all := lw_in 689 (by decide +kernel) (by decide +kernel)
theorem kc_L_73 : Cond.constant "CompositeDecoderLaw" 73 (-100001) ∈ lw_all := lw_in 690 (by decide +kernel) (by decide +kernel)
theorem ml_L_77 : Cond.methodLink "CompositeDecoderLaw" 77 yX10_type ∈ lw_all := lw_in 691 (by decide +kernel) (by decide +kernel)
theorem im_X10_type : Cond.instanceMethod yX10_type ∈ lw_all := lw_in 692 (by decide +kernel) (by decide +kernel)
theorem se_X10_type : Cond.selects "CompositeDecoder" yX10_type yX10_type ∈ lw_all := lw_in 693 (by decide +kernel) (by decide +kernel)
theorem co_X10_type : Cond.code yX10_type cX10_type 2 (some .int) ∈ lw_all := lw_in 694 (by decide +kernel) (by decide +kernel)
theorem ml_X10_131 : Cond.methodLink "CompositeDecoder" 131 yX0_append ∈ lw_all := lw_in 695 (by decide +kernel) (by decide +kernel)
theorem im_X0_append : Cond.instanceMethod yX0_append ∈ lw_all := lw_in 696 (by decide +kernel) (by decide +kernel)
theorem se_X0_append : Cond.selects "CompositeDecoder$BarText" yX0_append yX0_append ∈ lw_all := lw_in 697 (by decide +kernel) (by decide +kernel)
theorem co_X0_append : Cond.code yX0_append cX0_append 2 (some .boolean) ∈ lw_all := lw_in 698 (by decide +kernel) (by decide +kernel)
theorem kc_X10_138 : Cond.constant "CompositeDecoder" 138 (-100003) ∈ lw_all := lw_in 699 (by decide +kernel) (by decide +kernel)
theorem ml_L_128 : Cond.methodLink "CompositeDecoderLaw" 128 yL_errors ∈ lw_all := lw_in 700 (by decide +kernel) (by decide +kernel)
theorem sm_L_errors : Cond.static yL_errors ∈ lw_all := lw_in 701 (by decide +kernel) (by decide +kernel)
theorem co_L_errors : Cond.code yL_errors cL_errors 4 (some .boolean) ∈ lw_all := lw_in 702 (by decide +kernel) (by decide +kernel)
end
section
/-! the words, by their places -/
set_option maxRecDepth 100000 in
set_option maxHeartbeats 4000000 in
theorem co_L_lines : Cond.code yL_lines cL_lines 23 (some .boolean) ∈ lw_all := lw_in 606 (show lw_tbl[606]? = some (Cond.code yL_lines cL_lines 23 (some .boolean)) from rfl) (by decide +kernel)
set_option maxRecDepth 100000 in
set_option maxHeartbeats 4000000 in
theorem co_L_combs : Cond.code yL_combs cL_combs 18 (some .boolean) ∈ lw_all := lw_in 631 (show lw_tbl[631]? = some (Cond.code yL_combs cL_combs 18 (some .boolean)) from rfl) (by decide +kernel)
end
section
/-! the world: every cell of the class and of the reference, by what it holds -/
/-- the row of ways, where there is one -/
def exW (ad : Nat → Nat) (dA : Nat → ClassId) (σ : Sg) : va_W := if ad 99 = 0 then [] else [(ad 55, .inl (dA 0, 4, .inl (σ 55)))]
def wJ (ad : Nat → Nat) (dA : Nat → ClassId) (σ : Sg) (φ : Fl) : va_W :=
  (ad 0, .inr (10, [.ref (ad 1), .ref (ad 10), .ref (ad 13), .ref (ad 15), .ref (ad 25), .ref (ad 30), .ref (ad 35), .ref (ad 38), .ref (ad 44), .ref (ad 49), .int (σ 0 10)])) ::
  (ad 1, .inr (7, [.ref (ad 2), .ref (ad 3), .ref (ad 4), .ref (ad 5), .ref (ad 6), .ref (ad 7), .ref (ad 8), .ref (ad 9), .int (σ 1 8)])) ::
  (ad 2, .inl (dA 0, 80, .inl (σ 2))) ::
  (ad 3, .inl (dA 0, 80, .inl (σ 3))) ::
  (ad 4, .inl (dA 0, 80, .inl (σ 4))) ::
  (ad 5, .inl (dA 0, 8, .inl (σ 5))) ::
  (ad 6, .inl (dA 0, 8, .inl (σ 6))) ::
  (ad 7, .inl (dA 0, 8, .inl (σ 7))) ::
  (ad 8, .inl (dA 0, 8, .inl (σ 8))) ::
  (ad 9, .inl (dA 1, 8, .inl (σ 9))) ::
  (ad 10, .inr (0, [.ref (ad 11), .int (σ 10 1), .ref (ad 12), .int (σ 10 3)])) ::
  (ad 11, .inl (dA 2, 60, .inl (σ 11))) ::
  (ad 12, .inl (dA 0, 10, .inl (σ 12))) ::
  (ad 13, .inr (8, [.ref (ad 14)])) ::
  (ad 14, .inl (dA 0, 4, .inl (σ 14))) ::
  (ad 15, .inr (9, [.ref (ad 16)])) ::
  (ad 16, .inl (dA 4, 8, .inr (.inr (.inr (.inr (fun i => if i < 8 then some (ad (17 + i)) else none)))))) ::
  (ad 17, .inl (dA 0, 112, .inl (σ 17))) ::
  (ad 18, .inl (dA 0, 112, .inl (σ 18))) ::
  (ad 19, .inl (dA 0, 112, .inl (σ 19))) ::
  (ad 20, .inl (dA 0, 112, .inl (σ 20))) ::
  (ad 21, .inl (dA 0, 112, .inl (σ 21))) ::
  (ad 22, .inl (dA 0, 112, .inl (σ 22))) ::
  (ad 23, .inl (dA 0, 112, .inl (σ 23))) ::
  (ad 24, .inl (dA 0, 112, .inl (σ 24))) ::
  (ad 25, .inr (4, [.ref (ad 26), .ref (ad 27), .ref (ad 28), .ref (ad 29), .int (σ 25 4), .int (σ 25 5), .int (σ 25 6), .int (σ 25 7)])) ::
  (ad 26, .inl (dA 0, 8, .inl (σ 26))) ::
  (ad 27, .inl (dA 0, 8, .inl (σ 27))) ::
  (ad 28, .inl (dA 0, 8, .inl (σ 28))) ::
  (ad 29, .inl (dA 1, 8, .inl (σ 29))) ::
  (ad 30, .inr (1, [.ref (ad 31), .ref (ad 32), .ref (ad 33), .ref (ad 34), .int (σ 30 4), .int (σ 30 5)])) ::
  (ad 31, .inl (dA 0, 8, .inl (σ 31))) ::
  (ad 32, .inl (dA 0, 8, .inl (σ 32))) ::
  (ad 33, .inl (dA 1, 8, .inl (σ 33))) ::
  (ad 34, .inl (dA 1, 8, .inl (σ 34))) ::
  (ad 35, .inr (6, [.ref (ad 36), .ref (ad 37)])) ::
  (ad 36, .inl (dA 3, 8, .inr (.inr (.inl (φ 36))))) ::
  (ad 37, .inl (dA 3, 8, .inr (.inr (.inl (φ 37))))) ::
  (ad 38, .inr (3, [.ref (ad 39), .ref (ad 40), .ref (ad 41), .ref (ad 42), .ref (ad 43)])) ::
  (ad 39, .inl (dA 0, 80, .inl (σ 39))) ::
  (ad 40, .inl (dA 0, 80, .inl (σ 40))) ::
  (ad 41, .inl (dA 0, 80, .inl (σ 41))) ::
  (ad 42, .inl (dA 0, 80, .inl (σ 42))) ::
  (ad 43, .inl (dA 0, 80, .inl (σ 43))) ::
  (ad 44, .inr (2, [.ref (ad 45), .ref (ad 46), .ref (ad 47), .ref (ad 48)])) ::
  (ad 45, .inl (dA 3, 80, .inr (.inr (.inl (φ 45))))) ::
  (ad 46, .inl (dA 3, 80, .inr (.inr (.inl (φ 46))))) ::
  (ad 47, .inl (dA 3, 80, .inr (.inr (.inl (φ 47))))) ::
  (ad 48, .inl (dA 3, 80, .inr (.inr (.inl (φ 48))))) ::
  (ad 49, .inr (5, [.ref (ad 50), .ref (ad 51), .ref (ad 52)])) ::
  (ad 50, .inl (dA 0, 80, .inl (σ 50))) ::
  (ad 51, .inl (dA 1, 80, .inl (σ 51))) ::
  (ad 52, .inl (dA 0, 80, .inl (σ 52))) ::
  (ad 53, .inl (dA 0, 40, .inl (σ 53))) ::
  (ad 54, .inl (dA 0, 40, .inl (σ 54))) ::
  exW ad dA σ
def tyA (dA : Nat → ClassId) : List (ClassId × FieldType) := [(dA 0, .int), (dA 1, .boolean), (dA 2, .char), (dA 3, .float), (dA 4, .array .int)]
theorem at_0 (ad : Nat → Nat) (dA : Nat → ClassId) (σ : Sg) (φ : Fl) : (wJ ad dA σ φ)[0]? = some (ad 0, .inr (10, [.ref (ad 1), .ref (ad 10), .ref (ad 13), .ref (ad 15), .ref (ad 25), .ref (ad 30), .ref (ad 35), .ref (ad 38), .ref (ad 44), .ref (ad 49), .int (σ 0 10)])) := rfl
theorem at_1 (ad : Nat → Nat) (dA : Nat → ClassId) (σ : Sg) (φ : Fl) : (wJ ad dA σ φ)[1]? = some (ad 1, .inr (7, [.ref (ad 2), .ref (ad 3), .ref (ad 4), .ref (ad 5), .ref (ad 6), .ref (ad 7), .ref (ad 8), .ref (ad 9), .int (σ 1 8)])) := rfl
theorem at_2 (ad : Nat → Nat) (dA : Nat → ClassId) (σ : Sg) (φ : Fl) : (wJ ad dA σ φ)[2]? = some (ad 2, .inl (dA 0, 80, .inl (σ 2))) := rfl
theorem at_3 (ad : Nat → Nat) (dA : Nat → ClassId) (σ : Sg) (φ : Fl) : (wJ ad dA σ φ)[3]? = some (ad 3, .inl (dA 0, 80, .inl (σ 3))) := rfl
theorem at_4 (ad : Nat → Nat) (dA : Nat → ClassId) (σ : Sg) (φ : Fl) : (wJ ad dA σ φ)[4]? = some (ad 4, .inl (dA 0, 80, .inl (σ 4))) := rfl
theorem at_5 (ad : Nat → Nat) (dA : Nat → ClassId) (σ : Sg) (φ : Fl) : (wJ ad dA σ φ)[5]? = some (ad 5, .inl (dA 0, 8, .inl (σ 5))) := rfl
theorem at_6 (ad : Nat → Nat) (dA : Nat → ClassId) (σ : Sg) (φ : Fl) : (wJ ad dA σ φ)[6]? = some (ad 6, .inl (dA 0, 8, .inl (σ 6))) := rfl
theorem at_7 (ad : Nat → Nat) (dA : Nat → ClassId) (σ : Sg) (φ : Fl) : (wJ ad dA σ φ)[7]? = some (ad 7, .inl (dA 0, 8, .inl (σ 7))) := rfl
theorem at_8 (ad : Nat → Nat) (dA : Nat → ClassId) (σ : Sg) (φ : Fl) : (wJ ad dA σ φ)[8]? = some (ad 8, .inl (dA 0, 8, .inl (σ 8))) := rfl
theorem at_9 (ad : Nat → Nat) (dA : Nat → ClassId) (σ : Sg) (φ : Fl) : (wJ ad dA σ φ)[9]? = some (ad 9, .inl (dA 1, 8, .inl (σ 9))) := rfl
theorem at_10 (ad : Nat → Nat) (dA : Nat → ClassId) (σ : Sg) (φ : Fl) : (wJ ad dA σ φ)[10]? = some (ad 10, .inr (0, [.ref (ad 11), .int (σ 10 1), .ref (ad 12), .int (σ 10 3)])) := rfl
theorem at_11 (ad : Nat → Nat) (dA : Nat → ClassId) (σ : Sg) (φ : Fl) : (wJ ad dA σ φ)[11]? = some (ad 11, .inl (dA 2, 60, .inl (σ 11))) := rfl
theorem at_12 (ad : Nat → Nat) (dA : Nat → ClassId) (σ : Sg) (φ : Fl) : (wJ ad dA σ φ)[12]? = some (ad 12, .inl (dA 0, 10, .inl (σ 12))) := rfl
theorem at_13 (ad : Nat → Nat) (dA : Nat → ClassId) (σ : Sg) (φ : Fl) : (wJ ad dA σ φ)[13]? = some (ad 13, .inr (8, [.ref (ad 14)])) := rfl
theorem at_14 (ad : Nat → Nat) (dA : Nat → ClassId) (σ : Sg) (φ : Fl) : (wJ ad dA σ φ)[14]? = some (ad 14, .inl (dA 0, 4, .inl (σ 14))) := rfl
theorem at_15 (ad : Nat → Nat) (dA : Nat → ClassId) (σ : Sg) (φ : Fl) : (wJ ad dA σ φ)[15]? = some (ad 15, .inr (9, [.ref (ad 16)])) := rfl
theorem at_16 (ad : Nat → Nat) (dA : Nat → ClassId) (σ : Sg) (φ : Fl) : (wJ ad dA σ φ)[16]? = some (ad 16, .inl (dA 4, 8, .inr (.inr (.inr (.inr (fun i => if i < 8 then some (ad (17 + i)) else none)))))) := rfl
theorem at_17 (ad : Nat → Nat) (dA : Nat → ClassId) (σ : Sg) (φ : Fl) : (wJ ad dA σ φ)[17]? = some (ad 17, .inl (dA 0, 112, .inl (σ 17))) := rfl
theorem at_18 (ad : Nat → Nat) (dA : Nat → ClassId) (σ : Sg) (φ : Fl) : (wJ ad dA σ φ)[18]? = some (ad 18, .inl (dA 0, 112, .inl (σ 18))) := rfl
theorem at_19 (ad : Nat → Nat) (dA : Nat → ClassId) (σ : Sg) (φ : Fl) : (wJ ad dA σ φ)[19]? = some (ad 19, .inl (dA 0, 112, .inl (σ 19))) := rfl
theorem at_20 (ad : Nat → Nat) (dA : Nat → ClassId) (σ : Sg) (φ : Fl) : (wJ ad dA σ φ)[20]? = some (ad 20, .inl (dA 0, 112, .inl (σ 20))) := rfl
theorem at_21 (ad : Nat → Nat) (dA : Nat → ClassId) (σ : Sg) (φ : Fl) : (wJ ad dA σ φ)[21]? = some (ad 21, .inl (dA 0, 112, .inl (σ 21))) := rfl
theorem at_22 (ad : Nat → Nat) (dA : Nat → ClassId) (σ : Sg) (φ : Fl) : (wJ ad dA σ φ)[22]? = some (ad 22, .inl (dA 0, 112, .inl (σ 22))) := rfl
theorem at_23 (ad : Nat → Nat) (dA : Nat → ClassId) (σ : Sg) (φ : Fl) : (wJ ad dA σ φ)[23]? = some (ad 23, .inl (dA 0, 112, .inl (σ 23))) := rfl
theorem at_24 (ad : Nat → Nat) (dA : Nat → ClassId) (σ : Sg) (φ : Fl) : (wJ ad dA σ φ)[24]? = some (ad 24, .inl (dA 0, 112, .inl (σ 24))) := rfl
theorem at_25 (ad : Nat → Nat) (dA : Nat → ClassId) (σ : Sg) (φ : Fl) : (wJ ad dA σ φ)[25]? = some (ad 25, .inr (4, [.ref (ad 26), .ref (ad 27), .ref (ad 28), .ref (ad 29), .int (σ 25 4), .int (σ 25 5), .int (σ 25 6), .int (σ 25 7)])) := rfl
theorem at_26 (ad : Nat → Nat) (dA : Nat → ClassId) (σ : Sg) (φ : Fl) : (wJ ad dA σ φ)[26]? = some (ad 26, .inl (dA 0, 8, .inl (σ 26))) := rfl
theorem at_27 (ad : Nat → Nat) (dA : Nat → ClassId) (σ : Sg) (φ : Fl) : (wJ ad dA σ φ)[27]? = some (ad 27, .inl (dA 0, 8, .inl (σ 27))) := rfl
theorem at_28 (ad : Nat → Nat) (dA : Nat → ClassId) (σ : Sg) (φ : Fl) : (wJ ad dA σ φ)[28]? = some (ad 28, .inl (dA 0, 8, .inl (σ 28))) := rfl
theorem at_29 (ad : Nat → Nat) (dA : Nat → ClassId) (σ : Sg) (φ : Fl) : (wJ ad dA σ φ)[29]? = some (ad 29, .inl (dA 1, 8, .inl (σ 29))) := rfl
theorem at_30 (ad : Nat → Nat) (dA : Nat → ClassId) (σ : Sg) (φ : Fl) : (wJ ad dA σ φ)[30]? = some (ad 30, .inr (1, [.ref (ad 31), .ref (ad 32), .ref (ad 33), .ref (ad 34), .int (σ 30 4), .int (σ 30 5)])) := rfl
theorem at_31 (ad : Nat → Nat) (dA : Nat → ClassId) (σ : Sg) (φ : Fl) : (wJ ad dA σ φ)[31]? = some (ad 31, .inl (dA 0, 8, .inl (σ 31))) := rfl
theorem at_32 (ad : Nat → Nat) (dA : Nat → ClassId) (σ : Sg) (φ : Fl) : (wJ ad dA σ φ)[32]? = some (ad 32, .inl (dA 0, 8, .inl (σ 32))) := rfl
theorem at_33 (ad : Nat → Nat) (dA : Nat → ClassId) (σ : Sg) (φ : Fl) : (wJ ad dA σ φ)[33]? = some (ad 33, .inl (dA 1, 8, .inl (σ 33))) := rfl
theorem at_34 (ad : Nat → Nat) (dA : Nat → ClassId) (σ : Sg) (φ : Fl) : (wJ ad dA σ φ)[34]? = some (ad 34, .inl (dA 1, 8, .inl (σ 34))) := rfl
theorem at_35 (ad : Nat → Nat) (dA : Nat → ClassId) (σ : Sg) (φ : Fl) : (wJ ad dA σ φ)[35]? = some (ad 35, .inr (6, [.ref (ad 36), .ref (ad 37)])) := rfl
theorem at_36 (ad : Nat → Nat) (dA : Nat → ClassId) (σ : Sg) (φ : Fl) : (wJ ad dA σ φ)[36]? = some (ad 36, .inl (dA 3, 8, .inr (.inr (.inl (φ 36))))) := rfl
theorem at_37 (ad : Nat → Nat) (dA : Nat → ClassId) (σ : Sg) (φ : Fl) : (wJ ad dA σ φ)[37]? = some (ad 37, .inl (dA 3, 8, .inr (.inr (.inl (φ 37))))) := rfl
theorem at_38 (ad : Nat → Nat) (dA : Nat → ClassId) (σ : Sg) (φ : Fl) : (wJ ad dA σ φ)[38]? = some (ad 38, .inr (3, [.ref (ad 39), .ref (ad 40), .ref (ad 41), .ref (ad 42), .ref (ad 43)])) := rfl
theorem at_39 (ad : Nat → Nat) (dA : Nat → ClassId) (σ : Sg) (φ : Fl) : (wJ ad dA σ φ)[39]? = some (ad 39, .inl (dA 0, 80, .inl (σ 39))) := rfl
theorem at_40 (ad : Nat → Nat) (dA : Nat → ClassId) (σ : Sg) (φ : Fl) : (wJ ad dA σ φ)[40]? = some (ad 40, .inl (dA 0, 80, .inl (σ 40))) := rfl
theorem at_41 (ad : Nat → Nat) (dA : Nat → ClassId) (σ : Sg) (φ : Fl) : (wJ ad dA σ φ)[41]? = some (ad 41, .inl (dA 0, 80, .inl (σ 41))) := rfl
theorem at_42 (ad : Nat → Nat) (dA : Nat → ClassId) (σ : Sg) (φ : Fl) : (wJ ad dA σ φ)[42]? = some (ad 42, .inl (dA 0, 80, .inl (σ 42))) := rfl
theorem at_43 (ad : Nat → Nat) (dA : Nat → ClassId) (σ : Sg) (φ : Fl) : (wJ ad dA σ φ)[43]? = some (ad 43, .inl (dA 0, 80, .inl (σ 43))) := rfl
theorem at_44 (ad : Nat → Nat) (dA : Nat → ClassId) (σ : Sg) (φ : Fl) : (wJ ad dA σ φ)[44]? = some (ad 44, .inr (2, [.ref (ad 45), .ref (ad 46), .ref (ad 47), .ref (ad 48)])) := rfl
theorem at_45 (ad : Nat → Nat) (dA : Nat → ClassId) (σ : Sg) (φ : Fl) : (wJ ad dA σ φ)[45]? = some (ad 45, .inl (dA 3, 80, .inr (.inr (.inl (φ 45))))) := rfl
theorem at_46 (ad : Nat → Nat) (dA : Nat → ClassId) (σ : Sg) (φ : Fl) : (wJ ad dA σ φ)[46]? = some (ad 46, .inl (dA 3, 80, .inr (.inr (.inl (φ 46))))) := rfl
theorem at_47 (ad : Nat → Nat) (dA : Nat → ClassId) (σ : Sg) (φ : Fl) : (wJ ad dA σ φ)[47]? = some (ad 47, .inl (dA 3, 80, .inr (.inr (.inl (φ 47))))) := rfl
theorem at_48 (ad : Nat → Nat) (dA : Nat → ClassId) (σ : Sg) (φ : Fl) : (wJ ad dA σ φ)[48]? = some (ad 48, .inl (dA 3, 80, .inr (.inr (.inl (φ 48))))) := rfl
theorem at_49 (ad : Nat → Nat) (dA : Nat → ClassId) (σ : Sg) (φ : Fl) : (wJ ad dA σ φ)[49]? = some (ad 49, .inr (5, [.ref (ad 50), .ref (ad 51), .ref (ad 52)])) := rfl
theorem at_50 (ad : Nat → Nat) (dA : Nat → ClassId) (σ : Sg) (φ : Fl) : (wJ ad dA σ φ)[50]? = some (ad 50, .inl (dA 0, 80, .inl (σ 50))) := rfl
theorem at_51 (ad : Nat → Nat) (dA : Nat → ClassId) (σ : Sg) (φ : Fl) : (wJ ad dA σ φ)[51]? = some (ad 51, .inl (dA 1, 80, .inl (σ 51))) := rfl
theorem at_52 (ad : Nat → Nat) (dA : Nat → ClassId) (σ : Sg) (φ : Fl) : (wJ ad dA σ φ)[52]? = some (ad 52, .inl (dA 0, 80, .inl (σ 52))) := rfl
theorem at_53 (ad : Nat → Nat) (dA : Nat → ClassId) (σ : Sg) (φ : Fl) : (wJ ad dA σ φ)[53]? = some (ad 53, .inl (dA 0, 40, .inl (σ 53))) := rfl
theorem at_54 (ad : Nat → Nat) (dA : Nat → ClassId) (σ : Sg) (φ : Fl) : (wJ ad dA σ φ)[54]? = some (ad 54, .inl (dA 0, 40, .inl (σ 54))) := rfl
theorem set_0_10 (ad : Nat → Nat) (dA : Nat → ClassId) (σ : Sg) (φ : Fl) (v : Int32) : (wJ ad dA σ φ).set 0 (ad 0, .inr (10, ([.ref (ad 1), .ref (ad 10), .ref (ad 13), .ref (ad 15), .ref (ad 25), .ref (ad 30), .ref (ad 35), .ref (ad 38), .ref (ad 44), .ref (ad 49), .int (σ 0 10)] : List Value).set 10 (.int v))) = wJ ad dA (va_up σ 0 (upd (σ 0) 10 v)) φ := rfl
theorem set_1_8 (ad : Nat → Nat) (dA : Nat → ClassId) (σ : Sg) (φ : Fl) (v : Int32) : (wJ ad dA σ φ).set 1 (ad 1, .inr (7, ([.ref (ad 2), .ref (ad 3), .ref (ad 4), .ref (ad 5), .ref (ad 6), .ref (ad 7), .ref (ad 8), .ref (ad 9), .int (σ 1 8)] : List Value).set 8 (.int v))) = wJ ad dA (va_up σ 1 (upd (σ 1) 8 v)) φ := rfl
theorem set_2 (ad : Nat → Nat) (dA : Nat → ClassId) (σ : Sg) (φ : Fl) (f : Nat → Int32) : (wJ ad dA σ φ).set 2 (ad 2, .inl (dA 0, 80, .inl f)) = wJ ad dA (va_up σ 2 f) φ := rfl
theorem set_3 (ad : Nat → Nat) (dA : Nat → ClassId) (σ : Sg) (φ : Fl) (f : Nat → Int32) : (wJ ad dA σ φ).set 3 (ad 3, .inl (dA 0, 80, .inl f)) = wJ ad dA (va_up σ 3 f) φ := rfl
theorem set_4 (ad : Nat → Nat) (dA : Nat → ClassId) (σ : Sg) (φ : Fl) (f : Nat → Int32) : (wJ ad dA σ φ).set 4 (ad 4, .inl (dA 0, 80, .inl f)) = wJ ad dA (va_up σ 4 f) φ := rfl
theorem set_5 (ad : Nat → Nat) (dA : Nat → ClassId) (σ : Sg) (φ : Fl) (f : Nat → Int32) : (wJ ad dA σ φ).set 5 (ad 5, .inl (dA 0, 8, .inl f)) = wJ ad dA (va_up σ 5 f) φ := rfl
theorem set_6 (ad : Nat → Nat) (dA : Nat → ClassId) (σ : Sg) (φ : Fl) (f : Nat → Int32) : (wJ ad dA σ φ).set 6 (ad 6, .inl (dA 0, 8, .inl f)) = wJ ad dA (va_up σ 6 f) φ := rfl
theorem set_7 (ad : Nat → Nat) (dA : Nat → ClassId) (σ : Sg) (φ : Fl) (f : Nat → Int32) : (wJ ad dA σ φ).set 7 (ad 7, .inl (dA 0, 8, .inl f)) = wJ ad dA (va_up σ 7 f) φ := rfl
theorem set_8 (ad : Nat → Nat) (dA : Nat → ClassId) (σ : Sg) (φ : Fl) (f : Nat → Int32) : (wJ ad dA σ φ).set 8 (ad 8, .inl (dA 0, 8, .inl f)) = wJ ad dA (va_up σ 8 f) φ := rfl
theorem set_9 (ad : Nat → Nat) (dA : Nat → ClassId) (σ : Sg) (φ : Fl) (f : Nat → Int32) : (wJ ad dA σ φ).set 9 (ad 9, .inl (dA 1, 8, .inl f)) = wJ ad dA (va_up σ 9 f) φ := rfl
theorem set_10_1 (ad : Nat → Nat) (dA : Nat → ClassId) (σ : Sg) (φ : Fl) (v : Int32) : (wJ ad dA σ φ).set 10 (ad 10, .inr (0, ([.ref (ad 11), .int (σ 10 1), .ref (ad 12), .int (σ 10 3)] : List Value).set 1 (.int v))) = wJ ad dA (va_up σ 10 (upd (σ 10) 1 v)) φ := rfl
theorem set_10_3 (ad : Nat → Nat) (dA : Nat → ClassId) (σ : Sg) (φ : Fl) (v : Int32) : (wJ ad dA σ φ).set 10 (ad 10, .inr (0, ([.ref (ad 11), .int (σ 10 1), .ref (ad 12), .int (σ 10 3)] : List Value).set 3 (.int v))) = wJ ad dA (va_up σ 10 (upd (σ 10) 3 v)) φ := rfl
theorem set_11 (ad : Nat → Nat) (dA : Nat → ClassId) (σ : Sg) (φ : Fl) (f : Nat → Int32) : (wJ ad dA σ φ).set 11 (ad 11, .inl (dA 2, 60, .inl f)) = wJ ad dA (va_up σ 11 f) φ := rfl
theorem set_12 (ad : Nat → Nat) (dA : Nat → ClassId) (σ : Sg) (φ : Fl) (f : Nat → Int32) : (wJ ad dA σ φ).set 12 (ad 12, .inl (dA 0, 10, .inl f)) = wJ ad dA (va_up σ 12 f) φ := rfl
theorem set_14 (ad : Nat → Nat) (dA : Nat → ClassId) (σ : Sg) (φ : Fl) (f : Nat → Int32) : (wJ ad dA σ φ).set 14 (ad 14, .inl (dA 0, 4, .inl f)) = wJ ad dA (va_up σ 14 f) φ := rfl
theorem set_17 (ad : Nat → Nat) (dA : Nat → ClassId) (σ : Sg) (φ : Fl) (f : Nat → Int32) : (wJ ad dA σ φ).set 17 (ad 17, .inl (dA 0, 112, .inl f)) = wJ ad dA (va_up σ 17 f) φ := rfl
theorem set_18 (ad : Nat → Nat) (dA : Nat → ClassId) (σ : Sg) (φ : Fl) (f : Nat → Int32) : (wJ ad dA σ φ).set 18 (ad 18, .inl (dA 0, 112, .inl f)) = wJ ad dA (va_up σ 18 f) φ := rfl
theorem set_19 (ad : Nat → Nat) (dA : Nat → ClassId) (σ : Sg) (φ : Fl) (f : Nat → Int32) : (wJ ad dA σ φ).set 19 (ad 19, .inl (dA 0, 112, .inl f)) = wJ ad dA (va_up σ 19 f) φ := rfl
theorem set_20 (ad : Nat → Nat) (dA : Nat → ClassId) (σ : Sg) (φ : Fl) (f : Nat → Int32) : (wJ ad dA σ φ).set 20 (ad 20, .inl (dA 0, 112, .inl f)) = wJ ad dA (va_up σ 20 f) φ := rfl
theorem set_21 (ad : Nat → Nat) (dA : Nat → ClassId) (σ : Sg) (φ : Fl) (f : Nat → Int32) : (wJ ad dA σ φ).set 21 (ad 21, .inl (dA 0, 112, .inl f)) = wJ ad dA (va_up σ 21 f) φ := rfl
theorem set_22 (ad : Nat → Nat) (dA : Nat → ClassId) (σ : Sg) (φ : Fl) (f : Nat → Int32) : (wJ ad dA σ φ).set 22 (ad 22, .inl (dA 0, 112, .inl f)) = wJ ad dA (va_up σ 22 f) φ := rfl
theorem set_23 (ad : Nat → Nat) (dA : Nat → ClassId) (σ : Sg) (φ : Fl) (f : Nat → Int32) : (wJ ad dA σ φ).set 23 (ad 23, .inl (dA 0, 112, .inl f)) = wJ ad dA (va_up σ 23 f) φ := rfl
theorem set_24 (ad : Nat → Nat) (dA : Nat → ClassId) (σ : Sg) (φ : Fl) (f : Nat → Int32) : (wJ ad dA σ φ).set 24 (ad 24, .inl (dA 0, 112, .inl f)) = wJ ad dA (va_up σ 24 f) φ := rfl
theorem set_25_4 (ad : Nat → Nat) (dA : Nat → ClassId) (σ : Sg) (φ : Fl) (v : Int32) : (wJ ad dA σ φ).set 25 (ad 25, .inr (4, ([.ref (ad 26), .ref (ad 27), .ref (ad 28), .ref (ad 29), .int (σ 25 4), .int (σ 25 5), .int (σ 25 6), .int (σ 25 7)] : List Value).set 4 (.int v))) = wJ ad dA (va_up σ 25 (upd (σ 25) 4 v)) φ := rfl
theorem set_25_5 (ad : Nat → Nat) (dA : Nat → ClassId) (σ : Sg) (φ : Fl) (v : Int32) : (wJ ad dA σ φ).set 25 (ad 25, .inr (4, ([.ref (ad 26), .ref (ad 27), .ref (ad 28), .ref (ad 29), .int (σ 25 4), .int (σ 25 5), .int (σ 25 6), .int (σ 25 7)] : List Value).set 5 (.int v))) = wJ ad dA (va_up σ 25 (upd (σ 25) 5 v)) φ := rfl
theorem set_25_6 (ad : Nat → Nat) (dA : Nat → ClassId) (σ : Sg) (φ : Fl) (v : Int32) : (wJ ad dA σ φ).set 25 (ad 25, .inr (4, ([.ref (ad 26), .ref (ad 27), .ref (ad 28), .ref (ad 29), .int (σ 25 4), .int (σ 25 5), .int (σ 25 6), .int (σ 25 7)] : List Value).set 6 (.int v))) = wJ ad dA (va_up σ 25 (upd (σ 25) 6 v)) φ := rfl
theorem set_25_7 (ad : Nat → Nat) (dA : Nat → ClassId) (σ : Sg) (φ : Fl) (v : Int32) : (wJ ad dA σ φ).set 25 (ad 25, .inr (4, ([.ref (ad 26), .ref (ad 27), .ref (ad 28), .ref (ad 29), .int (σ 25 4), .int (σ 25 5), .int (σ 25 6), .int (σ 25 7)] : List Value).set 7 (.int v))) = wJ ad dA (va_up σ 25 (upd (σ 25) 7 v)) φ := rfl
theorem set_26 (ad : Nat → Nat) (dA : Nat → ClassId) (σ : Sg) (φ : Fl) (f : Nat → Int32) : (wJ ad dA σ φ).set 26 (ad 26, .inl (dA 0, 8, .inl f)) = wJ ad dA (va_up σ 26 f) φ := rfl
theorem set_27 (ad : Nat → Nat) (dA : Nat → ClassId) (σ : Sg) (φ : Fl) (f : Nat → Int32) : (wJ ad dA σ φ).set 27 (ad 27, .inl (dA 0, 8, .inl f)) = wJ ad dA (va_up σ 27 f) φ := rfl
theorem set_28 (ad : Nat → Nat) (dA : Nat → ClassId) (σ : Sg) (φ : Fl) (f : Nat → Int32) : (wJ ad dA σ φ).set 28 (ad 28, .inl (dA 0, 8, .inl f)) = wJ ad dA (va_up σ 28 f) φ := rfl
theorem set_29 (ad : Nat → Nat) (dA : Nat → ClassId) (σ : Sg) (φ : Fl) (f : Nat → Int32) : (wJ ad dA σ φ).set 29 (ad 29, .inl (dA 1, 8, .inl f)) = wJ ad dA (va_up σ 29 f) φ := rfl
theorem set_30_4 (ad : Nat → Nat) (dA : Nat → ClassId) (σ : Sg) (φ : Fl) (v : Int32) : (wJ ad dA σ φ).set 30 (ad 30, .inr (1, ([.ref (ad 31), .ref (ad 32), .ref (ad 33), .ref (ad 34), .int (σ 30 4), .int (σ 30 5)] : List Value).set 4 (.int v))) = wJ ad dA (va_up σ 30 (upd (σ 30) 4 v)) φ := rfl
theorem set_30_5 (ad : Nat → Nat) (dA : Nat → ClassId) (σ : Sg) (φ : Fl) (v : Int32) : (wJ ad dA σ φ).set 30 (ad 30, .inr (1, ([.ref (ad 31), .ref (ad 32), .ref (ad 33), .ref (ad 34), .int (σ 30 4), .int (σ 30 5)] : List Value).set 5 (.int v))) = wJ ad dA (va_up σ 30 (upd (σ 30) 5 v)) φ := rfl
theorem set_31 (ad : Nat → Nat) (dA : Nat → ClassId) (σ : Sg) (φ : Fl) (f : Nat → Int32) : (wJ ad dA σ φ).set 31 (ad 31, .inl (dA 0, 8, .inl f)) = wJ ad dA (va_up σ 31 f) φ := rfl
theorem set_32 (ad : Nat → Nat) (dA : Nat → ClassId) (σ : Sg) (φ : Fl) (f : Nat → Int32) : (wJ ad dA σ φ).set 32 (ad 32, .inl (dA 0, 8, .inl f)) = wJ ad dA (va_up σ 32 f) φ := rfl
theorem set_33 (ad : Nat → Nat) (dA : Nat → ClassId) (σ : Sg) (φ : Fl) (f : Nat → Int32) : (wJ ad dA σ φ).set 33 (ad 33, .inl (dA 1, 8, .inl f)) = wJ ad dA (va_up σ 33 f) φ := rfl
theorem set_34 (ad : Nat → Nat) (dA : Nat → ClassId) (σ : Sg) (φ : Fl) (f : Nat → Int32) : (wJ ad dA σ φ).set 34 (ad 34, .inl (dA 1, 8, .inl f)) = wJ ad dA (va_up σ 34 f) φ := rfl
theorem set_36 (ad : Nat → Nat) (dA : Nat → ClassId) (σ : Sg) (φ : Fl) (f : Nat → UInt32) : (wJ ad dA σ φ).set 36 (ad 36, .inl (dA 3, 8, .inr (.inr (.inl f)))) = wJ ad dA σ (va_up φ 36 f) := rfl
theorem set_37 (ad : Nat → Nat) (dA : Nat → ClassId) (σ : Sg) (φ : Fl) (f : Nat → UInt32) : (wJ ad dA σ φ).set 37 (ad 37, .inl (dA 3, 8, .inr (.inr (.inl f)))) = wJ ad dA σ (va_up φ 37 f) := rfl
theorem set_39 (ad : Nat → Nat) (dA : Nat → ClassId) (σ : Sg) (φ : Fl) (f : Nat → Int32) : (wJ ad dA σ φ).set 39 (ad 39, .inl (dA 0, 80, .inl f)) = wJ ad dA (va_up σ 39 f) φ := rfl
theorem set_40 (ad : Nat → Nat) (dA : Nat → ClassId) (σ : Sg) (φ : Fl) (f : Nat → Int32) : (wJ ad dA σ φ).set 40 (ad 40, .inl (dA 0, 80, .inl f)) = wJ ad dA (va_up σ 40 f) φ := rfl
theorem set_41 (ad : Nat → Nat) (dA : Nat → ClassId) (σ : Sg) (φ : Fl) (f : Nat → Int32) : (wJ ad dA σ φ).set 41 (ad 41, .inl (dA 0, 80, .inl f)) = wJ ad dA (va_up σ 41 f) φ := rfl
theorem set_42 (ad : Nat → Nat) (dA : Nat → ClassId) (σ : Sg) (φ : Fl) (f : Nat → Int32) : (wJ ad dA σ φ).set 42 (ad 42, .inl (dA 0, 80, .inl f)) = wJ ad dA (va_up σ 42 f) φ := rfl
theorem set_43 (ad : Nat → Nat) (dA : Nat → ClassId) (σ : Sg) (φ : Fl) (f : Nat → Int32) : (wJ ad dA σ φ).set 43 (ad 43, .inl (dA 0, 80, .inl f)) = wJ ad dA (va_up σ 43 f) φ := rfl
theorem set_45 (ad : Nat → Nat) (dA : Nat → ClassId) (σ : Sg) (φ : Fl) (f : Nat → UInt32) : (wJ ad dA σ φ).set 45 (ad 45, .inl (dA 3, 80, .inr (.inr (.inl f)))) = wJ ad dA σ (va_up φ 45 f) := rfl
theorem set_46 (ad : Nat → Nat) (dA : Nat → ClassId) (σ : Sg) (φ : Fl) (f : Nat → UInt32) : (wJ ad dA σ φ).set 46 (ad 46, .inl (dA 3, 80, .inr (.inr (.inl f)))) = wJ ad dA σ (va_up φ 46 f) := rfl
theorem set_47 (ad : Nat → Nat) (dA : Nat → ClassId) (σ : Sg) (φ : Fl) (f : Nat → UInt32) : (wJ ad dA σ φ).set 47 (ad 47, .inl (dA 3, 80, .inr (.inr (.inl f)))) = wJ ad dA σ (va_up φ 47 f) := rfl
theorem set_48 (ad : Nat → Nat) (dA : Nat → ClassId) (σ : Sg) (φ : Fl) (f : Nat → UInt32) : (wJ ad dA σ φ).set 48 (ad 48, .inl (dA 3, 80, .inr (.inr (.inl f)))) = wJ ad dA σ (va_up φ 48 f) := rfl
theorem set_50 (ad : Nat → Nat) (dA : Nat → ClassId) (σ : Sg) (φ : Fl) (f : Nat → Int32) : (wJ ad dA σ φ).set 50 (ad 50, .inl (dA 0, 80, .inl f)) = wJ ad dA (va_up σ 50 f) φ := rfl
theorem set_51 (ad : Nat → Nat) (dA : Nat → ClassId) (σ : Sg) (φ : Fl) (f : Nat → Int32) : (wJ ad dA σ φ).set 51 (ad 51, .inl (dA 1, 80, .inl f)) = wJ ad dA (va_up σ 51 f) φ := rfl
theorem set_52 (ad : Nat → Nat) (dA : Nat → ClassId) (σ : Sg) (φ : Fl) (f : Nat → Int32) : (wJ ad dA σ φ).set 52 (ad 52, .inl (dA 0, 80, .inl f)) = wJ ad dA (va_up σ 52 f) φ := rfl
theorem set_53 (ad : Nat → Nat) (dA : Nat → ClassId) (σ : Sg) (φ : Fl) (f : Nat → Int32) : (wJ ad dA σ φ).set 53 (ad 53, .inl (dA 0, 40, .inl f)) = wJ ad dA (va_up σ 53 f) φ := rfl
theorem set_54 (ad : Nat → Nat) (dA : Nat → ClassId) (σ : Sg) (φ : Fl) (f : Nat → Int32) : (wJ ad dA σ φ).set 54 (ad 54, .inl (dA 0, 40, .inl f)) = wJ ad dA (va_up σ 54 f) φ := rfl
theorem at_row (ad : Nat → Nat) (dA : Nat → ClassId) (σ : Sg) (φ : Fl) (i : Nat) (h : i < 8) : (wJ ad dA σ φ)[17 + i]? = some (ad (17 + i), .inl (dA 0, 112, .inl (σ (17 + i)))) := by
  rcases (show i = 0 ∨ i = 1 ∨ i = 2 ∨ i = 3 ∨ i = 4 ∨ i = 5 ∨ i = 6 ∨ i = 7 by omega) with rfl | rfl | rfl | rfl | rfl | rfl | rfl | rfl <;> rfl
theorem set_row (ad : Nat → Nat) (dA : Nat → ClassId) (σ : Sg) (φ : Fl) (i : Nat) (h : i < 8) (f : Nat → Int32) : (wJ ad dA σ φ).set (17 + i) (ad (17 + i), .inl (dA 0, 112, .inl f)) = wJ ad dA (va_up σ (17 + i) f) φ := by
  rcases (show i = 0 ∨ i = 1 ∨ i = 2 ∨ i = 3 ∨ i = 4 ∨ i = 5 ∨ i = 6 ∨ i = 7 by omega) with rfl | rfl | rfl | rfl | rfl | rfl | rfl | rfl <;> rfl
theorem iu_0 : ∀ w ∈ u_ws RX0 TX0 4, w ∈ lw_all := by decide +kernel
theorem iu_1 : ∀ w ∈ u_ws RX1 TX1 6, w ∈ lw_all := by decide +kernel
theorem iu_2 : ∀ w ∈ u_ws RX2 TX2 4, w ∈ lw_all := by decide +kernel
theorem iu_3 : ∀ w ∈ u_ws RX3 TX3 5, w ∈ lw_all := by decide +kernel
theorem iu_4 : ∀ w ∈ u_ws RX4 TX4 8, w ∈ lw_all := by decide +kernel
theorem iu_5 : ∀ w ∈ u_ws RX5 TX5 3, w ∈ lw_all := by decide +kernel
theorem iu_6 : ∀ w ∈ u_ws RX6 TX6 2, w ∈ lw_all := by decide +kernel
theorem iu_7 : ∀ w ∈ u_ws RX7 TX7 9, w ∈ lw_all := by decide +kernel
theorem iu_8 : ∀ w ∈ u_ws RX8 TX8 1, w ∈ lw_all := by decide +kernel
theorem iu_9 : ∀ w ∈ u_ws RX9 TX9 1, w ∈ lw_all := by decide +kernel
theorem iu_10 : ∀ w ∈ u_ws RX10 TX10 11, w ∈ lw_all := by decide +kernel
/-! static arrays that nobody writes -/
def sa_0 (j : Nat) : Int32 := ([0, 1, 0, -1] : List Int32).getD j 0
def sa_1 (j : Nat) : Int32 := ([1, 0, -1, 0] : List Int32).getD j 0
def sa_2 (j : Nat) : Int32 := ([119, 121, 99, 103, 109, 114, 98, 107] : List Int32).getD j 0
def sa_3 (j : Nat) : Int32 := ([180, 160, 140, 120, 80, 60, 30, 10] : List Int32).getD j 0
def sa_4 (j : Nat) : Int32 := ([0, -50, 20, -40, 40, -20, 60, 0] : List Int32).getD j 0
def sa_5 (j : Nat) : Int32 := ([0, 10, -50, -40, 40, 60, -10, 0] : List Int32).getD j 0
def sa_6 (j : Nat) : Int32 := ([1, 0, 0, 0] : List Int32).getD j 0
def sa_7 (j : Nat) : Int32 := ([40, 100, 3, 2] : List Int32).getD j 0
/-- the script is one more row that nobody writes: its place tt 8, its length tt 9, its numbers from tt 10 on -/
def sa_8 (tt : Nat → Nat) (j : Nat) : Int32 := Int32.ofNat (tt (10 + j))
def STz (tt : Nat → Nat) (A : Nat → Prop) (U : State) (H : Heap) : Prop := (va_Z "CompositeDecoder" "SINE" "[I" (.ref (tt 0)) A U H ∧ va_T .int (tt 0) 4 (fun j => .int (sa_0 j)) A U H) ∧ (va_Z "CompositeDecoder" "COSINE" "[I" (.ref (tt 1)) A U H ∧ va_T .int (tt 1) 4 (fun j => .int (sa_1 j)) A U H) ∧ (va_Z "CompositeDecoder$BarText" "LETTERS" "[C" (.ref (tt 2)) A U H ∧ va_T .char (tt 2) 8 (fun j => .int (sa_2 j)) A U H) ∧ (va_Z "CompositeDecoder$BarText" "BAR_LUMAS" "[I" (.ref (tt 3)) A U H ∧ va_T .int (tt 3) 8 (fun j => .int (sa_3 j)) A U H) ∧ (va_Z "CompositeDecoder$BarText" "BAR_US" "[I" (.ref (tt 4)) A U H ∧ va_T .int (tt 4) 8 (fun j => .int (sa_4 j)) A U H) ∧ (va_Z "CompositeDecoder$BarText" "BAR_VS" "[I" (.ref (tt 5)) A U H ∧ va_T .int (tt 5) 8 (fun j => .int (sa_5 j)) A U H) ∧ (va_Z "CompositeDecoder$Settings" "LOWEST" "[I" (.ref (tt 6)) A U H ∧ va_T .int (tt 6) 4 (fun j => .int (sa_6 j)) A U H) ∧ (va_Z "CompositeDecoder$Settings" "HIGHEST" "[I" (.ref (tt 7)) A U H ∧ va_T .int (tt 7) 4 (fun j => .int (sa_7 j)) A U H) ∧ va_T .int (tt 8) (tt 9) (fun j => .int (sa_8 tt j)) A U H
theorem STz.kept {tt : Nat → Nat} {A : Nat → Prop} {U : State} {H H1 : Heap} (h : STz tt A U H) (hq : ∀ a : Nat, a < H.size → ¬ A a → H1[a]? = H[a]?) : STz tt A U H1 := by
  obtain ⟨⟨a0, b0⟩, ⟨a1, b1⟩, ⟨a2, b2⟩, ⟨a3, b3⟩, ⟨a4, b4⟩, ⟨a5, b5⟩, ⟨a6, b6⟩, ⟨a7, b7⟩, c8⟩ := h
  exact ⟨⟨a0.kept hq, b0.kept hq⟩, ⟨a1.kept hq, b1.kept hq⟩, ⟨a2.kept hq, b2.kept hq⟩, ⟨a3.kept hq, b3.kept hq⟩, ⟨a4.kept hq, b4.kept hq⟩, ⟨a5.kept hq, b5.kept hq⟩, ⟨a6.kept hq, b6.kept hq⟩, ⟨a7.kept hq, b7.kept hq⟩, c8.kept hq⟩
theorem STz.moved {tt : Nat → Nat} {A : Nat → Prop} {u U : State} {H : Heap} (hvm : u.vm.Alike U.vm) (h : STz tt A u H) : STz tt A U H := by
  obtain ⟨⟨a0, b0⟩, ⟨a1, b1⟩, ⟨a2, b2⟩, ⟨a3, b3⟩, ⟨a4, b4⟩, ⟨a5, b5⟩, ⟨a6, b6⟩, ⟨a7, b7⟩, c8⟩ := h
  exact ⟨⟨a0.moved hvm, b0.moved hvm⟩, ⟨a1.moved hvm, b1.moved hvm⟩, ⟨a2.moved hvm, b2.moved hvm⟩, ⟨a3.moved hvm, b3.moved hvm⟩, ⟨a4.moved hvm, b4.moved hvm⟩, ⟨a5.moved hvm, b5.moved hvm⟩, ⟨a6.moved hvm, b6.moved hvm⟩, ⟨a7.moved hvm, b7.moved hvm⟩, c8.moved hvm⟩
/-! the contract's start and end -/
def EnvU (D : va_G) (ad : Nat → Nat) (dA : Nat → ClassId) (z0 : Nat) (tt : Nat → Nat) (U : State) : Prop :=
  va_K D vwCl (tyA dA) U ∧ NW U ∧ STz tt (fun q => z0 ≤ q) U U.heap ∧ z0 ≤ U.heap.size ∧ ∀ (σ : Sg) (φ : Fl), va_D (fun q => z0 ≤ q) (wJ ad dA σ φ)
def Wd (D : va_G) (ad : Nat → Nat) (dA : Nat → ClassId) (σ : Sg) (φ : Fl) (H : Heap) : Prop := ∃ φ0 : Fl, alF φ0 φ ∧ va_P D vwCl (wJ ad dA σ φ0) H
def PcG (D : va_G) (ad : Nat → Nat) (dA : Nat → ClassId) (z0 : Nat) (tt : Nat → Nat) (As : List Value) (σ : Sg) (φ : Fl) : Array Value → State → Prop := fun v U => (∃ As0 : List Value, v = As0.toArray ∧ alS As0 As) ∧ EnvU D ad dA z0 tt U ∧ Wd D ad dA σ φ U.heap
def alO (v w : Option Value) : Prop := alS v.toList w.toList
def QcG (D : va_G) (ad : Nat → Nat) (dA : Nat → ClassId) (z0 : Nat) (P : Option Value → Sg → Fl → Prop) : Array Value → State → Outcome → State → Prop := fun _ st oc t => (∃ (rv0 rv : Option Value) (σ : Sg) (φ : Fl), oc = .returned rv0 ∧ alO rv0 rv ∧ P rv σ φ ∧ Wd D ad dA σ φ t.heap) ∧ va_F (fun q => z0 ≤ q) st t
def MC (l : Launch) (D : va_G) (ad : Nat → Nat) (dA : Nat → ClassId) (z0 : Nat) (tt : Nat → Nat) (y : MethodName) (ws : List Cond) (rm : Room) (As : List Value) (σ : Sg) (φ : Fl) (P : Option Value → Sg → Fl → Prop) : Prop :=
  MetD lw_cs l y ws rm (PcG D ad dA z0 tt As σ φ) (QcG D ad dA z0 P) 0 0 (fun q => z0 ≤ q)
/-- a method that answers one number and leaves one world -/
abbrev Fn (rv : Option Value) (σ : Sg) (φ : Fl) : Option Value → Sg → Fl → Prop := fun r s f => r = rv ∧ s = σ ∧ f = φ
theorem EnvU.calls {D : va_G} {ad : Nat → Nat} {dA : Nat → ClassId} {z0 : Nat} {tt : Nat → Nat} {s U : State} {H : Heap} {locs : List Loc} (h : EnvU D ad dA z0 tt s) (hS : va_S (fun q => z0 ≤ q) s.heap H locs) (hU : U.heap = H) (hW : s.WarmedH U.vm) : EnvU D ad dA z0 tt U := by
  obtain ⟨hK, hN, hT, hz, hD⟩ := h
  refine ⟨va_K.moved hW.alike hK, hN.warm hW, (STz.moved hW.alike (hT.kept fun a h1 h2 => ?_)), ?_, hD⟩
  · rw [hU]; exact hS.2.1 a h1 h2
  · rw [hU]; exact Nat.le_trans hz hS.1
theorem PcG.blind {D : va_G} {ad : Nat → Nat} {dA : Nat → ClassId} {z0 : Nat} {tt : Nat → Nat} {As : List Value} {σ : Sg} {φ : Fl} : FrameBlind (PcG D ad dA z0 tt As σ φ) := by
  intro a U g mk h
  obtain ⟨h1, ⟨hK, hN, hT, hz, hD⟩, hw⟩ := h
  refine ⟨h1, ⟨va_K.moved (u := U) (U := U.calling g mk a) (Vm.Alike.refl U.vm) hK, NW.same (u := U) (U := U.calling g mk a) rfl hN, ?_, hz, hD⟩, hw⟩
  exact STz.moved (u := U) (U := U.calling g mk a) (Vm.Alike.refl U.vm) hT
/-! the judgement -/
def GK (p : Program) (l : Launch) (e : Env) (R : Room) (s : State) (m : MethodId) (args : Array Value) (below : List Frame) (meth : Method) (c : Code) (Q : State → Prop) (nL z0 : Nat) (D : va_G) (ad : Nat → Nat) (dA : Nat → ClassId) (cells slots : Nat) : KT := fun σ φ pc lv st =>
  ∀ (d : Drawn) (H : Heap) (locs : List Loc) (ls : Array Slot) (l0 : List (Nat × Value)) (st0 : List Value), s.drawn.sameBut d lw_cs → Wd D ad dA σ φ H → va_S (fun q => z0 ≤ q) s.heap H locs → lv_has ls nL l0 → alL l0 lv → alS st0 st →
    W p l e R (s.setDrawn d) m args below meth c H locs cells slots Q (F0 m pc ls st0)
/-- what stands of the machine: K is its judgement -/
def Cx (K : KT) (l : Launch) (D : va_G) (ad : Nat → Nat) (dA : Nat → ClassId) (z0 : Nat) (tt : Nat → Nat) (cc : ByteArray) (own : String) (nL : Nat) (R : Room) : Prop :=
  ∃ (p : Program) (e : Env) (s : State) (m : MethodId) (args : Array Value) (below : List Frame) (meth : Method) (c : Code) (Q : State → Prop) (cells slots : Nat),
    K = GK p l e R s m args below meth c Q nL z0 D ad dA cells slots ∧ p.tables.exec = Jvm.exec ∧ c.code = cc ∧ c.maxLocals = nL ∧ s.vm.findClass own = some m.cls ∧ (∀ w ∈ lw_all, w.before args s = true) ∧ EnvU D ad dA z0 tt s ∧ cells ≤ R.cells ∧ slots ≤ R.slots
theorem lv_narrowZ {x : Int32} (h : x = 0 ∨ x = 1) : narrow .boolean (.int x) = .int x ∧ fits .boolean (.int x) = true ∧ vp_nar .boolean x = x := by
  rcases h with rfl | rfl <;> exact ⟨rfl, rfl, rfl⟩
/-- a method of ours, from the walk of its body -/
theorem mk_MC {l : Launch} {D : va_G} {ad : Nat → Nat} {dA : Nat → ClassId} {z0 : Nat} {tt : Nat → Nat} {y : MethodName} {rm : Room} {As : List Value} {σ : Sg} {φ : Fl} {P : Option Value → Sg → Fl → Prop} {cc : ByteArray} {nL : Nat} {ret : Option FieldType} (hy : plainName y.cls = true) (hlen : (lg_sl As).length ≤ nL)
    (body : ∀ K : KT, Cx K l D ad dA z0 tt cc y.cls nL rm →
      (∀ (v : Int32) (ty : FieldType) (σ' : Sg) (φ' : Fl) (pc : Nat) (lv : List (Nat × Value)), ret = some ty → decode cc pc = .ok (.ireturn, 1) → narrow ty (.int v) = .int v → P (some (.int v)) σ' φ' → K σ' φ' pc lv [.int v]) →
      (∀ (v : UInt32) (σ' : Sg) (φ' : Fl) (pc : Nat) (lv : List (Nat × Value)), ret = some .float → decode cc pc = .ok (.freturn, 1) → P (some (.float v)) σ' φ' → K σ' φ' pc lv [.float v]) →
      (∀ (σ' : Sg) (φ' : Fl) (pc : Nat) (lv : List (Nat × Value)), ret = none → decode cc pc = .ok (.return_, 1) → P none σ' φ' → K σ' φ' pc lv []) → K σ φ 0 (lv_args 0 As) []) :
    MC l D ad dA z0 tt y (Cond.code y cc nL ret :: lw_all) rm As σ φ P := by
  refine MetD.ofW (cc := cc) (maxL := nL) (ret := ret) hy rfl ?_
  intro p e s m args below meth c s₁ B hml hv hd0
  obtain ⟨⟨As0, rfl, hAs⟩, hE, hWd⟩ := hv
  have hx := B.exec
  have hb := B.bytes
  have hr := B.returns
  have hts := atoms_spec (ws := Cond.code y cc nL ret :: lw_all) B.pre
  have hown : s.vm.findClass y.cls = some m.cls := findClass_of_methodNamed B.named
  have hlocks := B.notSynchronized
  have hl := lv_entry As0 (n := nL) (by rw [alS_sl hAs]; exact hlen)
  rw [lg_entry_eq]
  have key := body (GK p l e (headSpec (Cond.code y cc nL ret :: lw_all) rm).room s m As0.toArray below meth c (MQD lw_cs below (QcG D ad dA z0 P) As0.toArray s 0 0 (fun q => z0 ≤ q)) nL z0 D ad dA 0 0)
    ⟨p, e, s, m, As0.toArray, below, meth, c, _, 0, 0, rfl, hx, hb, hml, hown, fun w h => hts w (List.mem_cons_of_mem _ h), hE, Nat.zero_le _, Nat.zero_le _⟩ ?_ ?_ ?_
  · exact key s.drawn s.heap [] _ _ [] hd0 hWd va_S.rf hl (alL_args 0 hAs) True.intro
  · intro v ty σ' φ' pc lv e1 hdg hn hP d H locs ls l0 st0 hd hW hS hls hL hs
    obtain ⟨st1, rfl, hs1⟩ := alS_int hs
    cases alS_nil hs1
    refine W.endD hd ?_
    exact W.zret hx hb (hr.trans e1) hn (fun t ht hWm => ⟨⟨some (.int v), some (.int v), σ', φ', rfl, alS_rf _, hP, by rw [ht]; exact hW⟩, hS.F ht⟩) hS.2.2 hdg hlocks
  · intro v σ' φ' pc lv e1 hdg hP d H locs ls l0 st0 hd hW hS hls hL hs
    obtain ⟨a, st1, rfl, ha, hs1⟩ := alS_flt hs
    cases alS_nil hs1
    refine W.endD hd ?_
    exact W.fret hx hb (hr.trans e1) (fun t ht hWm => ⟨⟨some (.float a), some (.float v), σ', φ', rfl, ⟨⟨a, rfl, ha⟩, True.intro⟩, hP, by rw [ht]; exact hW⟩, hS.F ht⟩) hS.2.2 hdg hlocks
  · intro σ' φ' pc lv e1 hdg hP d H locs ls l0 st0 hd hW hS hls hL hs
    cases alS_nil hs
    refine W.endD hd ?_
    exact W.vret hx hb (hr.trans e1) (fun t ht hWm => ⟨⟨none, none, σ', φ', rfl, True.intro, hP, by rw [ht]; exact hW⟩, hS.F ht⟩) hS.2.2 hdg hlocks
end
section
/-! rules: one an instruction -/
section RULES
variable {K : KT} {l : Launch} {D : va_G} {ad : Nat → Nat} {dA : Nat → ClassId} {z0 : Nat} {tt : Nat → Nat} {cc : ByteArray} {own : String} {nL : Nat} {R : Room} {σ : Sg} {φ : Fl} {pc : Nat} {lv : List (Nat × Value)} {st : List Value}
theorem EnvU.drawn {s : State} (h : EnvU D ad dA z0 tt s) (d : Drawn) : EnvU D ad dA z0 tt (s.setDrawn d) := by
  obtain ⟨hK, hN, hT, hz, hD⟩ := h
  exact ⟨hK, fun w hw => (Cond.before_setDrawn #[] s d w).trans (hN w hw), hT, hz, hD⟩
theorem nest_at {s : State} {args : Array Value} {w : Cond} (h : NW s) (hw : w ∈ lw_nest) (ht : w.onTables = true) (d : Drawn) : w.before args (s.setDrawn d) = true := (Cond.before_setDrawn args s d w).trans (va_Nw.use ht (h w hw))
theorem g_iadd (C : Cx K l D ad dA z0 tt cc own nL R) {a b : Int32} (hd : decode cc pc = .ok (.iadd, 1)) (k : K σ φ (pc + 1) lv (.int (a + b) :: st)) : K σ φ pc lv (.int b :: .int a :: st) := by
  obtain ⟨p, e, s, m, args, below, meth, c, Q, cells, slots, rfl, hx, hb, hml, hown, hts, hE, hcl, hsl⟩ := C
  intro d H locs ls l0 st0 hd0 hW hS hls hL hs
  obtain ⟨t1, rfl, g1⟩ := alS_int hs
  obtain ⟨t2, rfl, g2⟩ := alS_int g1
  exact lv_iadd hx hb hd (k d H locs ls l0 _ hd0 hW hS hls hL ⟨rfl, g2⟩)
theorem g_isub (C : Cx K l D ad dA z0 tt cc own nL R) {a b : Int32} (hd : decode cc pc = .ok (.isub, 1)) (k : K σ φ (pc + 1) lv (.int (a - b) :: st)) : K σ φ pc lv (.int b :: .int a :: st) := by
  obtain ⟨p, e, s, m, args, below, meth, c, Q, cells, slots, rfl, hx, hb, hml, hown, hts, hE, hcl, hsl⟩ := C
  intro d H locs ls l0 st0 hd0 hW hS hls hL hs
  obtain ⟨t1, rfl, g1⟩ := alS_int hs
  obtain ⟨t2, rfl, g2⟩ := alS_int g1
  exact lv_isub hx hb hd (k d H locs ls l0 _ hd0 hW hS hls hL ⟨rfl, g2⟩)
theorem g_imul (C : Cx K l D ad dA z0 tt cc own nL R) {a b : Int32} (hd : decode cc pc = .ok (.imul, 1)) (k : K σ φ (pc + 1) lv (.int (a * b) :: st)) : K σ φ pc lv (.int b :: .int a :: st) := by
  obtain ⟨p, e, s, m, args, below, meth, c, Q, cells, slots, rfl, hx, hb, hml, hown, hts, hE, hcl, hsl⟩ := C
  intro d H locs ls l0 st0 hd0 hW hS hls hL hs
  obtain ⟨t1, rfl, g1⟩ := alS_int hs
  obtain ⟨t2, rfl, g2⟩ := alS_int g1
  exact lv_imul hx hb hd (k d H locs ls l0 _ hd0 hW hS hls hL ⟨rfl, g2⟩)
theorem g_iand (C : Cx K l D ad dA z0 tt cc own nL R) {a b : Int32} (hd : decode cc pc = .ok (.iand, 1)) (k : K σ φ (pc + 1) lv (.int (a &&& b) :: st)) : K σ φ pc lv (.int b :: .int a :: st) := by
  obtain ⟨p, e, s, m, args, below, meth, c, Q, cells, slots, rfl, hx, hb, hml, hown, hts, hE, hcl, hsl⟩ := C
  intro d H locs ls l0 st0 hd0 hW hS hls hL hs
  obtain ⟨t1, rfl, g1⟩ := alS_int hs
  obtain ⟨t2, rfl, g2⟩ := alS_int g1
  exact lv_iand hx hb hd (k d H locs ls l0 _ hd0 hW hS hls hL ⟨rfl, g2⟩)
theorem g_ixor (C : Cx K l D ad dA z0 tt cc own nL R) {a b : Int32} (hd : decode cc pc = .ok (.ixor, 1)) (k : K σ φ (pc + 1) lv (.int (a ^^^ b) :: st)) : K σ φ pc lv (.int b :: .int a :: st) := by
  obtain ⟨p, e, s, m, args, below, meth, c, Q, cells, slots, rfl, hx, hb, hml, hown, hts, hE, hcl, hsl⟩ := C
  intro d H locs ls l0 st0 hd0 hW hS hls hL hs
  obtain ⟨t1, rfl, g1⟩ := alS_int hs
  obtain ⟨t2, rfl, g2⟩ := alS_int g1
  exact lv_ixor hx hb hd (k d H locs ls l0 _ hd0 hW hS hls hL ⟨rfl, g2⟩)
theorem g_idiv (C : Cx K l D ad dA z0 tt cc own nL R) {a b : Int32} (hd : decode cc pc = .ok (.idiv, 1)) (hne : ¬ b = 0) (k : K σ φ (pc + 1) lv (.int (a / b) :: st)) : K σ φ pc lv (.int b :: .int a :: st) := by
  obtain ⟨p, e, s, m, args, below, meth, c, Q, cells, slots, rfl, hx, hb, hml, hown, hts, hE, hcl, hsl⟩ := C
  intro d H locs ls l0 st0 hd0 hW hS hls hL hs
  obtain ⟨t1, rfl, g1⟩ := alS_int hs
  obtain ⟨t2, rfl, g2⟩ := alS_int g1
  exact lv_idiv hx hb hd hne (k d H locs ls l0 _ hd0 hW hS hls hL ⟨rfl, g2⟩)
theorem g_irem (C : Cx K l D ad dA z0 tt cc own nL R) {a b : Int32} (hd : decode cc pc = .ok (.irem, 1)) (hne : ¬ b = 0) (k : K σ φ (pc + 1) lv (.int (a - a / b * b) :: st)) : K σ φ pc lv (.int b :: .int a :: st) := by
  obtain ⟨p, e, s, m, args, below, meth, c, Q, cells, slots, rfl, hx, hb, hml, hown, hts, hE, hcl, hsl⟩ := C
  intro d H locs ls l0 st0 hd0 hW hS hls hL hs
  obtain ⟨t1, rfl, g1⟩ := alS_int hs
  obtain ⟨t2, rfl, g2⟩ := alS_int g1
  exact lv_irem hx hb hd hne (k d H locs ls l0 _ hd0 hW hS hls hL ⟨rfl, g2⟩)
theorem g_ineg (C : Cx K l D ad dA z0 tt cc own nL R) {a : Int32} (hd : decode cc pc = .ok (.ineg, 1)) (k : K σ φ (pc + 1) lv (.int (-a) :: st)) : K σ φ pc lv (.int a :: st) := by
  obtain ⟨p, e, s, m, args, below, meth, c, Q, cells, slots, rfl, hx, hb, hml, hown, hts, hE, hcl, hsl⟩ := C
  intro d H locs ls l0 st0 hd0 hW hS hls hL hs
  obtain ⟨t1, rfl, g1⟩ := alS_int hs
  exact lv_ineg hx hb hd (k d H locs ls l0 _ hd0 hW hS hls hL ⟨rfl, g1⟩)
theorem g_i2c (C : Cx K l D ad dA z0 tt cc own nL R) {a v : Int32} (hd : decode cc pc = .ok (.i2c, 1)) (hv : (a.toUInt32 % 65536).toInt32 = v) (k : K σ φ (pc + 1) lv (.int v :: st)) : K σ φ pc lv (.int a :: st) := by
  obtain ⟨p, e, s, m, args, below, meth, c, Q, cells, slots, rfl, hx, hb, hml, hown, hts, hE, hcl, hsl⟩ := C
  intro d H locs ls l0 st0 hd0 hW hS hls hL hs
  obtain ⟨t1, rfl, g1⟩ := alS_int hs
  exact lv_i2c hx hb hd hv (k d H locs ls l0 _ hd0 hW hS hls hL ⟨rfl, g1⟩)
theorem g_i2f (C : Cx K l D ad dA z0 tt cc own nL R) {a : Int32} (hd : decode cc pc = .ok (.i2f, 1)) (k : K σ φ (pc + 1) lv (.float (FP.i2f a) :: st)) : K σ φ pc lv (.int a :: st) := by
  obtain ⟨p, e, s, m, args, below, meth, c, Q, cells, slots, rfl, hx, hb, hml, hown, hts, hE, hcl, hsl⟩ := C
  intro d H locs ls l0 st0 hd0 hW hS hls hL hs
  obtain ⟨t1, rfl, g1⟩ := alS_int hs
  exact lv_i2f hx hb hd (k d H locs ls l0 _ hd0 hW hS hls hL ⟨alV_rf _, g1⟩)
theorem g_f2i (C : Cx K l D ad dA z0 tt cc own nL R) {a : UInt32} (hd : decode cc pc = .ok (.f2i, 1)) (k : K σ φ (pc + 1) lv (.int (FP.f2i a) :: st)) : K σ φ pc lv (.float a :: st) := by
  obtain ⟨p, e, s, m, args, below, meth, c, Q, cells, slots, rfl, hx, hb, hml, hown, hts, hE, hcl, hsl⟩ := C
  intro d H locs ls l0 st0 hd0 hW hS hls hL hs
  obtain ⟨x1, t1, rfl, e1, g1⟩ := alS_flt hs
  refine lv_f2i hx hb hd ?_
  rw [fp_f2i e1]
  exact k d H locs ls l0 _ hd0 hW hS hls hL ⟨rfl, g1⟩
theorem g_f2d (C : Cx K l D ad dA z0 tt cc own nL R) {a : UInt32} (hd : decode cc pc = .ok (.f2d, 1)) (k : K σ φ (pc + 1) lv (.double (FP.f2d a) :: st)) : K σ φ pc lv (.float a :: st) := by
  obtain ⟨p, e, s, m, args, below, meth, c, Q, cells, slots, rfl, hx, hb, hml, hown, hts, hE, hcl, hsl⟩ := C
  intro d H locs ls l0 st0 hd0 hW hS hls hL hs
  obtain ⟨x1, t1, rfl, e1, g1⟩ := alS_flt hs
  refine lv_f2d_any hd0 lw_bits hx hb hd (fun r d1 hal hd1 => ?_)
  exact k d1 H locs ls l0 _ hd1 hW hS hls hL ⟨⟨r, rfl, al64_tr hal (fp_f2d e1)⟩, g1⟩
theorem g_fadd (C : Cx K l D ad dA z0 tt cc own nL R) {a b : UInt32} (hd : decode cc pc = .ok (.fadd, 1)) (k : K σ φ (pc + 1) lv (.float (FP.fadd a b) :: st)) : K σ φ pc lv (.float b :: .float a :: st) := by
  obtain ⟨p, e, s, m, args, below, meth, c, Q, cells, slots, rfl, hx, hb, hml, hown, hts, hE, hcl, hsl⟩ := C
  intro d H locs ls l0 st0 hd0 hW hS hls hL hs
  obtain ⟨x1, t1, rfl, e1, g1⟩ := alS_flt hs
  obtain ⟨x2, t2, rfl, e2, g2⟩ := alS_flt g1
  refine lv_fadd_any hd0 lw_bits hx hb hd (fun r d1 hal hd1 => ?_)
  rw [fp_add e2 e1] at hal
  exact k d1 H locs ls l0 _ hd1 hW hS hls hL ⟨⟨r, rfl, hal⟩, g2⟩
theorem g_fsub (C : Cx K l D ad dA z0 tt cc own nL R) {a b : UInt32} (hd : decode cc pc = .ok (.fsub, 1)) (k : K σ φ (pc + 1) lv (.float (FP.fsub a b) :: st)) : K σ φ pc lv (.float b :: .float a :: st) := by
  obtain ⟨p, e, s, m, args, below, meth, c, Q, cells, slots, rfl, hx, hb, hml, hown, hts, hE, hcl, hsl⟩ := C
  intro d H locs ls l0 st0 hd0 hW hS hls hL hs
  obtain ⟨x1, t1, rfl, e1, g1⟩ := alS_flt hs
  obtain ⟨x2, t2, rfl, e2, g2⟩ := alS_flt g1
  refine lv_fsub_any hd0 lw_bits hx hb hd (fun r d1 hal hd1 => ?_)
  rw [fp_sub e2 e1] at hal
  exact k d1 H locs ls l0 _ hd1 hW hS hls hL ⟨⟨r, rfl, hal⟩, g2⟩
theorem g_fmul (C : Cx K l D ad dA z0 tt cc own nL R) {a b : UInt32} (hd : decode cc pc = .ok (.fmul, 1)) (k : K σ φ (pc + 1) lv (.float (FP.fmul a b) :: st)) : K σ φ pc lv (.float b :: .float a :: st) := by
  obtain ⟨p, e, s, m, args, below, meth, c, Q, cells, slots, rfl, hx, hb, hml, hown, hts, hE, hcl, hsl⟩ := C
  intro d H locs ls l0 st0 hd0 hW hS hls hL hs
  obtain ⟨x1, t1, rfl, e1, g1⟩ := alS_flt hs
  obtain ⟨x2, t2, rfl, e2, g2⟩ := alS_flt g1
  refine lv_fmul_any hd0 lw_bits hx hb hd (fun r d1 hal hd1 => ?_)
  rw [fp_mul e2 e1] at hal
  exact k d1 H locs ls l0 _ hd1 hW hS hls hL ⟨⟨r, rfl, hal⟩, g2⟩
theorem g_fdiv (C : Cx K l D ad dA z0 tt cc own nL R) {a b : UInt32} (hd : decode cc pc = .ok (.fdiv, 1)) (k : K σ φ (pc + 1) lv (.float (FP.fdiv a b) :: st)) : K σ φ pc lv (.float b :: .float a :: st) := by
  obtain ⟨p, e, s, m, args, below, meth, c, Q, cells, slots, rfl, hx, hb, hml, hown, hts, hE, hcl, hsl⟩ := C
  intro d H locs ls l0 st0 hd0 hW hS hls hL hs
  obtain ⟨x1, t1, rfl, e1, g1⟩ := alS_flt hs
  obtain ⟨x2, t2, rfl, e2, g2⟩ := alS_flt g1
  refine lv_fdiv_any hd0 lw_bits hx hb hd (fun r d1 hal hd1 => ?_)
  rw [fp_div e2 e1] at hal
  exact k d1 H locs ls l0 _ hd1 hW hS hls hL ⟨⟨r, rfl, hal⟩, g2⟩
theorem g_fcmp (C : Cx K l D ad dA z0 tt cc own nL R) {a b : UInt32} {op : CmpOp} (hd : decode cc pc = .ok (.fcmp op, 1)) (k : K σ φ (pc + 1) lv (.int (Op.cmpValue (FP.fcmp a b) op) :: st)) : K σ φ pc lv (.float b :: .float a :: st) := by
  obtain ⟨p, e, s, m, args, below, meth, c, Q, cells, slots, rfl, hx, hb, hml, hown, hts, hE, hcl, hsl⟩ := C
  intro d H locs ls l0 st0 hd0 hW hS hls hL hs
  obtain ⟨x1, t1, rfl, e1, g1⟩ := alS_flt hs
  obtain ⟨x2, t2, rfl, e2, g2⟩ := alS_flt g1
  refine lv_fcmp hx hb hd ?_
  rw [fp_cmp e2 e1]
  exact k d H locs ls l0 _ hd0 hW hS hls hL ⟨rfl, g2⟩
theorem g_dcmp (C : Cx K l D ad dA z0 tt cc own nL R) {a b : UInt64} {op : CmpOp} (hd : decode cc pc = .ok (.dcmp op, 1)) (k : K σ φ (pc + 1) lv (.int (Op.cmpValue (FP.dcmp a b) op) :: st)) : K σ φ pc lv (.double b :: .double a :: st) := by
  obtain ⟨p, e, s, m, args, below, meth, c, Q, cells, slots, rfl, hx, hb, hml, hown, hts, hE, hcl, hsl⟩ := C
  intro d H locs ls l0 st0 hd0 hW hS hls hL hs
  obtain ⟨x1, t1, rfl, e1, g1⟩ := alS_dbl hs
  obtain ⟨x2, t2, rfl, e2, g2⟩ := alS_dbl g1
  refine lv_dcmp hx hb hd ?_
  rw [fp_dcmp e2 e1]
  exact k d H locs ls l0 _ hd0 hW hS hls hL ⟨rfl, g2⟩
theorem g_land (C : Cx K l D ad dA z0 tt cc own nL R) {a b : Int64} (hd : decode cc pc = .ok (.land, 1)) (k : K σ φ (pc + 1) lv (.long (a &&& b) :: st)) : K σ φ pc lv (.long b :: .long a :: st) := by
  obtain ⟨p, e, s, m, args, below, meth, c, Q, cells, slots, rfl, hx, hb, hml, hown, hts, hE, hcl, hsl⟩ := C
  intro d H locs ls l0 st0 hd0 hW hS hls hL hs
  obtain ⟨t1, rfl, g1⟩ := alS_long hs
  obtain ⟨t2, rfl, g2⟩ := alS_long g1
  exact lv_land hx hb hd (k d H locs ls l0 _ hd0 hW hS hls hL ⟨rfl, g2⟩)
theorem g_lor (C : Cx K l D ad dA z0 tt cc own nL R) {a b : Int64} (hd : decode cc pc = .ok (.lor, 1)) (k : K σ φ (pc + 1) lv (.long (a ||| b) :: st)) : K σ φ pc lv (.long b :: .long a :: st) := by
  obtain ⟨p, e, s, m, args, below, meth, c, Q, cells, slots, rfl, hx, hb, hml, hown, hts, hE, hcl, hsl⟩ := C
  intro d H locs ls l0 st0 hd0 hW hS hls hL hs
  obtain ⟨t1, rfl, g1⟩ := alS_long hs
  obtain ⟨t2, rfl, g2⟩ := alS_long g1
  exact lv_lor hx hb hd (k d H locs ls l0 _ hd0 hW hS hls hL ⟨rfl, g2⟩)
theorem g_lcmp (C : Cx K l D ad dA z0 tt cc own nL R) {a b : Int64} (hd : decode cc pc = .ok (.lcmp, 1)) (k : K σ φ (pc + 1) lv (.int (lg_cmp a b) :: st)) : K σ φ pc lv (.long b :: .long a :: st) := by
  obtain ⟨p, e, s, m, args, below, meth, c, Q, cells, slots, rfl, hx, hb, hml, hown, hts, hE, hcl, hsl⟩ := C
  intro d H locs ls l0 st0 hd0 hW hS hls hL hs
  obtain ⟨t1, rfl, g1⟩ := alS_long hs
  obtain ⟨t2, rfl, g2⟩ := alS_long g1
  exact W.lcmp hx hb hd (k d H locs ls l0 _ hd0 hW hS hls hL ⟨rfl, g2⟩)
theorem g_lshl (C : Cx K l D ad dA z0 tt cc own nL R) {x : Int64} {y : Int32} (hd : decode cc pc = .ok (.lshl, 1)) (k : K σ φ (pc + 1) lv (.long (x <<< (y.toInt64 &&& 63)) :: st)) : K σ φ pc lv (.int y :: .long x :: st) := by
  obtain ⟨p, e, s, m, args, below, meth, c, Q, cells, slots, rfl, hx, hb, hml, hown, hts, hE, hcl, hsl⟩ := C
  intro d H locs ls l0 st0 hd0 hW hS hls hL hs
  obtain ⟨t1, rfl, g1⟩ := alS_int hs
  obtain ⟨t2, rfl, g2⟩ := alS_long g1
  exact lv_lshl hx hb hd rfl (k d H locs ls l0 _ hd0 hW hS hls hL ⟨rfl, g2⟩)
theorem g_lshr (C : Cx K l D ad dA z0 tt cc own nL R) {x : Int64} {y : Int32} (hd : decode cc pc = .ok (.lshr, 1)) (k : K σ φ (pc + 1) lv (.long (x >>> (y.toInt64 &&& 63)) :: st)) : K σ φ pc lv (.int y :: .long x :: st) := by
  obtain ⟨p, e, s, m, args, below, meth, c, Q, cells, slots, rfl, hx, hb, hml, hown, hts, hE, hcl, hsl⟩ := C
  intro d H locs ls l0 st0 hd0 hW hS hls hL hs
  obtain ⟨t1, rfl, g1⟩ := alS_int hs
  obtain ⟨t2, rfl, g2⟩ := alS_long g1
  exact lv_lshr hx hb hd rfl (k d H locs ls l0 _ hd0 hW hS hls hL ⟨rfl, g2⟩)
theorem g_lconst (C : Cx K l D ad dA z0 tt cc own nL R) {n : Fin 2} {v : Int64} (hd : decode cc pc = .ok (.lconst n, 1)) (hv : Int64.ofNat (n : Nat) = v) (k : K σ φ (pc + 1) lv (.long v :: st)) : K σ φ pc lv st := by
  obtain ⟨p, e, s, m, args, below, meth, c, Q, cells, slots, rfl, hx, hb, hml, hown, hts, hE, hcl, hsl⟩ := C
  intro d H locs ls l0 st0 hd0 hW hS hls hL hs
  exact lv_lconst hx hb hd hv (k d H locs ls l0 _ hd0 hW hS hls hL ⟨rfl, hs⟩)
theorem g_ishr (C : Cx K l D ad dA z0 tt cc own nL R) {x y : Int32} (hd : decode cc pc = .ok (.ishr, 1)) (k : K σ φ (pc + 1) lv (.int (x >>> (y &&& 31)) :: st)) : K σ φ pc lv (.int y :: .int x :: st) := by
  obtain ⟨p, e, s, m, args, below, meth, c, Q, cells, slots, rfl, hx, hb, hml, hown, hts, hE, hcl, hsl⟩ := C
  intro d H locs ls l0 st0 hd0 hW hS hls hL hs
  obtain ⟨t1, rfl, g1⟩ := alS_int hs
  obtain ⟨t2, rfl, g2⟩ := alS_int g1
  exact lv_ishr hx hb hd (k d H locs ls l0 _ hd0 hW hS hls hL ⟨rfl, g2⟩)
theorem g_iconst (C : Cx K l D ad dA z0 tt cc own nL R) {n : Int} {v : Int32} (hd : decode cc pc = .ok (.iconst n, 1)) (hv : Int32.ofInt n = v) (k : K σ φ (pc + 1) lv (.int v :: st)) : K σ φ pc lv st := by
  obtain ⟨p, e, s, m, args, below, meth, c, Q, cells, slots, rfl, hx, hb, hml, hown, hts, hE, hcl, hsl⟩ := C
  intro d H locs ls l0 st0 hd0 hW hS hls hL hs
  exact lv_iconst hx hb hd hv (k d H locs ls l0 _ hd0 hW hS hls hL ⟨rfl, hs⟩)
theorem g_bipush (C : Cx K l D ad dA z0 tt cc own nL R) {n : Int} {v : Int32} (hd : decode cc pc = .ok (.bipush n, 2)) (hv : (Int8.ofInt n).toInt32 = v) (k : K σ φ (pc + 2) lv (.int v :: st)) : K σ φ pc lv st := by
  obtain ⟨p, e, s, m, args, below, meth, c, Q, cells, slots, rfl, hx, hb, hml, hown, hts, hE, hcl, hsl⟩ := C
  intro d H locs ls l0 st0 hd0 hW hS hls hL hs
  exact lv_bipush hx hb hd hv (k d H locs ls l0 _ hd0 hW hS hls hL ⟨rfl, hs⟩)
theorem g_sipush (C : Cx K l D ad dA z0 tt cc own nL R) {n : Int} {v : Int32} (hd : decode cc pc = .ok (.sipush n, 3)) (hv : (Int16.ofInt n).toInt32 = v) (k : K σ φ (pc + 3) lv (.int v :: st)) : K σ φ pc lv st := by
  obtain ⟨p, e, s, m, args, below, meth, c, Q, cells, slots, rfl, hx, hb, hml, hown, hts, hE, hcl, hsl⟩ := C
  intro d H locs ls l0 st0 hd0 hW hS hls hL hs
  exact lv_sipush hx hb hd hv (k d H locs ls l0 _ hd0 hW hS hls hL ⟨rfl, hs⟩)
theorem g_ldc (C : Cx K l D ad dA z0 tt cc own nL R) {index : Nat} {v : Int32} (hc : Cond.constant own index v ∈ lw_all) (hd : decode cc pc = .ok (.ldc index, 2)) (k : K σ φ (pc + 2) lv (.int v :: st)) : K σ φ pc lv st := by
  obtain ⟨p, e, s, m, args, below, meth, c, Q, cells, slots, rfl, hx, hb, hml, hown, hts, hE, hcl, hsl⟩ := C
  intro d H locs ls l0 st0 hd0 hW hS hls hL hs
  exact lv_ldc hx hb hown (dr_words hts d _ hc) hd (k d H locs ls l0 _ hd0 hW hS hls hL ⟨rfl, hs⟩)
theorem g_ldcf (C : Cx K l D ad dA z0 tt cc own nL R) {index : Nat} {v : UInt32} (hc : Cond.constantFloat own index v ∈ lw_all) (hd : decode cc pc = .ok (.ldc index, 2)) (k : K σ φ (pc + 2) lv (.float v :: st)) : K σ φ pc lv st := by
  obtain ⟨p, e, s, m, args, below, meth, c, Q, cells, slots, rfl, hx, hb, hml, hown, hts, hE, hcl, hsl⟩ := C
  intro d H locs ls l0 st0 hd0 hW hS hls hL hs
  exact lv_ldcf hx hb hown (dr_words hts d _ hc) hd (k d H locs ls l0 _ hd0 hW hS hls hL ⟨alV_rf _, hs⟩)
theorem g_fconst0 (C : Cx K l D ad dA z0 tt cc own nL R) (hd : decode cc pc = .ok (.fconst 0, 1)) (k : K σ φ (pc + 1) lv (.float FP.fconst0 :: st)) : K σ φ pc lv st := by
  obtain ⟨p, e, s, m, args, below, meth, c, Q, cells, slots, rfl, hx, hb, hml, hown, hts, hE, hcl, hsl⟩ := C
  intro d H locs ls l0 st0 hd0 hW hS hls hL hs
  exact lv_fconst0 hx hb hd (k d H locs ls l0 _ hd0 hW hS hls hL ⟨alV_rf _, hs⟩)
theorem g_fconst1 (C : Cx K l D ad dA z0 tt cc own nL R) (hd : decode cc pc = .ok (.fconst 1, 1)) (k : K σ φ (pc + 1) lv (.float FP.fconst1 :: st)) : K σ φ pc lv st := by
  obtain ⟨p, e, s, m, args, below, meth, c, Q, cells, slots, rfl, hx, hb, hml, hown, hts, hE, hcl, hsl⟩ := C
  intro d H locs ls l0 st0 hd0 hW hS hls hL hs
  exact lv_fconst1 hx hb hd (k d H locs ls l0 _ hd0 hW hS hls hL ⟨alV_rf _, hs⟩)
theorem g_fconst2 (C : Cx K l D ad dA z0 tt cc own nL R) (hd : decode cc pc = .ok (.fconst 2, 1)) (k : K σ φ (pc + 1) lv (.float FP.fconst2 :: st)) : K σ φ pc lv st := by
  obtain ⟨p, e, s, m, args, below, meth, c, Q, cells, slots, rfl, hx, hb, hml, hown, hts, hE, hcl, hsl⟩ := C
  intro d H locs ls l0 st0 hd0 hW hS hls hL hs
  exact lv_fconst2 hx hb hd (k d H locs ls l0 _ hd0 hW hS hls hL ⟨alV_rf _, hs⟩)
theorem g_iload_n (C : Cx K l D ad dA z0 tt cc own nL R) {k0 : Fin 4} {i : Nat} {x : Int32} (hd : decode cc pc = .ok (.iload_n k0, 1)) (hi : (k0 : Nat) = i) (j : Nat) (hj : lv[j]? = some (i, .int x)) (k : K σ φ (pc + 1) lv (.int x :: st)) : K σ φ pc lv st := by
  obtain ⟨p, e, s, m, args, below, meth, c, Q, cells, slots, rfl, hx, hb, hml, hown, hts, hE, hcl, hsl⟩ := C
  intro d H locs ls l0 st0 hd0 hW hS hls hL hs
  obtain ⟨v, hv, ev⟩ := alL_at j hL hj
  cases (ev : v = .int x)
  exact lv_iload_n hx hb hd hi (lv_at hls j hv) (k d H locs ls l0 _ hd0 hW hS hls hL ⟨rfl, hs⟩)
theorem g_iload (C : Cx K l D ad dA z0 tt cc own nL R) {i : Nat} {x : Int32} (hd : decode cc pc = .ok (.iload i, 2)) (j : Nat) (hj : lv[j]? = some (i, .int x)) (k : K σ φ (pc + 2) lv (.int x :: st)) : K σ φ pc lv st := by
  obtain ⟨p, e, s, m, args, below, meth, c, Q, cells, slots, rfl, hx, hb, hml, hown, hts, hE, hcl, hsl⟩ := C
  intro d H locs ls l0 st0 hd0 hW hS hls hL hs
  obtain ⟨v, hv, ev⟩ := alL_at j hL hj
  cases (ev : v = .int x)
  exact lv_iload hx hb hd (lv_at hls j hv) (k d H locs ls l0 _ hd0 hW hS hls hL ⟨rfl, hs⟩)
theorem g_aload_n (C : Cx K l D ad dA z0 tt cc own nL R) {k0 : Fin 4} {i : Nat} {x : Nat} (hd : decode cc pc = .ok (.aload_n k0, 1)) (hi : (k0 : Nat) = i) (j : Nat) (hj : lv[j]? = some (i, .ref x)) (k : K σ φ (pc + 1) lv (.ref x :: st)) : K σ φ pc lv st := by
  obtain ⟨p, e, s, m, args, below, meth, c, Q, cells, slots, rfl, hx, hb, hml, hown, hts, hE, hcl, hsl⟩ := C
  intro d H locs ls l0 st0 hd0 hW hS hls hL hs
  obtain ⟨v, hv, ev⟩ := alL_at j hL hj
  cases (ev : v = .ref x)
  exact lv_aload_n hx hb hd hi (lv_at hls j hv) (k d H locs ls l0 _ hd0 hW hS hls hL ⟨rfl, hs⟩)
theorem g_aload (C : Cx K l D ad dA z0 tt cc own nL R) {i : Nat} {x : Nat} (hd : decode cc pc = .ok (.aload i, 2)) (j : Nat) (hj : lv[j]? = some (i, .ref x)) (k : K σ φ (pc + 2) lv (.ref x :: st)) : K σ φ pc lv st := by
  obtain ⟨p, e, s, m, args, below, meth, c, Q, cells, slots, rfl, hx, hb, hml, hown, hts, hE, hcl, hsl⟩ := C
  intro d H locs ls l0 st0 hd0 hW hS hls hL hs
  obtain ⟨v, hv, ev⟩ := alL_at j hL hj
  cases (ev : v = .ref x)
  exact lv_aload hx hb hd (lv_at hls j hv) (k d H locs ls l0 _ hd0 hW hS hls hL ⟨rfl, hs⟩)
theorem g_lload_n (C : Cx K l D ad dA z0 tt cc own nL R) {k0 : Fin 4} {i : Nat} {x : Int64} (hd : decode cc pc = .ok (.lload_n k0, 1)) (hi : (k0 : Nat) = i) (j : Nat) (hj : lv[j]? = some (i, .long x)) (k : K σ φ (pc + 1) lv (.long x :: st)) : K σ φ pc lv st := by
  obtain ⟨p, e, s, m, args, below, meth, c, Q, cells, slots, rfl, hx, hb, hml, hown, hts, hE, hcl, hsl⟩ := C
  intro d H locs ls l0 st0 hd0 hW hS hls hL hs
  obtain ⟨v, hv, ev⟩ := alL_at j hL hj
  cases (ev : v = .long x)
  exact lv_lload_n hx hb hd hi (lv_at hls j hv) (k d H locs ls l0 _ hd0 hW hS hls hL ⟨rfl, hs⟩)
theorem g_lload (C : Cx K l D ad dA z0 tt cc own nL R) {i : Nat} {x : Int64} (hd : decode cc pc = .ok (.lload i, 2)) (j : Nat) (hj : lv[j]? = some (i, .long x)) (k : K σ φ (pc + 2) lv (.long x :: st)) : K σ φ pc lv st := by
  obtain ⟨p, e, s, m, args, below, meth, c, Q, cells, slots, rfl, hx, hb, hml, hown, hts, hE, hcl, hsl⟩ := C
  intro d H locs ls l0 st0 hd0 hW hS hls hL hs
  obtain ⟨v, hv, ev⟩ := alL_at j hL hj
  cases (ev : v = .long x)
  exact lv_lload hx hb hd (lv_at hls j hv) (k d H locs ls l0 _ hd0 hW hS hls hL ⟨rfl, hs⟩)
theorem g_fload_n (C : Cx K l D ad dA z0 tt cc own nL R) {k0 : Fin 4} {i : Nat} {x : UInt32} (hd : decode cc pc = .ok (.fload_n k0, 1)) (hi : (k0 : Nat) = i) (j : Nat) (hj : lv[j]? = some (i, .float x)) (k : K σ φ (pc + 1) lv (.float x :: st)) : K σ φ pc lv st := by
  obtain ⟨p, e, s, m, args, below, meth, c, Q, cells, slots, rfl, hx, hb, hml, hown, hts, hE, hcl, hsl⟩ := C
  intro d H locs ls l0 st0 hd0 hW hS hls hL hs
  obtain ⟨v, hv, ev⟩ := alL_at j hL hj
  obtain ⟨x0, rfl, e0⟩ := ev
  exact lv_fload_n hx hb hd hi (lv_at hls j hv) (k d H locs ls l0 _ hd0 hW hS hls hL ⟨⟨x0, rfl, e0⟩, hs⟩)
theorem g_fload (C : Cx K l D ad dA z0 tt cc own nL R) {i : Nat} {x : UInt32} (hd : decode cc pc = .ok (.fload i, 2)) (j : Nat) (hj : lv[j]? = some (i, .float x)) (k : K σ φ (pc + 2) lv (.float x :: st)) : K σ φ pc lv st := by
  obtain ⟨p, e, s, m, args, below, meth, c, Q, cells, slots, rfl, hx, hb, hml, hown, hts, hE, hcl, hsl⟩ := C
  intro d H locs ls l0 st0 hd0 hW hS hls hL hs
  obtain ⟨v, hv, ev⟩ := alL_at j hL hj
  obtain ⟨x0, rfl, e0⟩ := ev
  exact lv_fload hx hb hd (lv_at hls j hv) (k d H locs ls l0 _ hd0 hW hS hls hL ⟨⟨x0, rfl, e0⟩, hs⟩)
theorem g_dload_n (C : Cx K l D ad dA z0 tt cc own nL R) {k0 : Fin 4} {i : Nat} {x : UInt64} (hd : decode cc pc = .ok (.dload_n k0, 1)) (hi : (k0 : Nat) = i) (j : Nat) (hj : lv[j]? = some (i, .double x)) (k : K σ φ (pc + 1) lv (.double x :: st)) : K σ φ pc lv st := by
  obtain ⟨p, e, s, m, args, below, meth, c, Q, cells, slots, rfl, hx, hb, hml, hown, hts, hE, hcl, hsl⟩ := C
  intro d H locs ls l0 st0 hd0 hW hS hls hL hs
  obtain ⟨v, hv, ev⟩ := alL_at j hL hj
  obtain ⟨x0, rfl, e0⟩ := ev
  exact lv_dload_n hx hb hd hi (lv_at hls j hv) (k d H locs ls l0 _ hd0 hW hS hls hL ⟨⟨x0, rfl, e0⟩, hs⟩)
theorem g_dload (C : Cx K l D ad dA z0 tt cc own nL R) {i : Nat} {x : UInt64} (hd : decode cc pc = .ok (.dload i, 2)) (j : Nat) (hj : lv[j]? = some (i, .double x)) (k : K σ φ (pc + 2) lv (.double x :: st)) : K σ φ pc lv st := by
  obtain ⟨p, e, s, m, args, below, meth, c, Q, cells, slots, rfl, hx, hb, hml, hown, hts, hE, hcl, hsl⟩ := C
  intro d H locs ls l0 st0 hd0 hW hS hls hL hs
  obtain ⟨v, hv, ev⟩ := alL_at j hL hj
  obtain ⟨x0, rfl, e0⟩ := ev
  exact lv_dload hx hb hd (lv_at hls j hv) (k d H locs ls l0 _ hd0 hW hS hls hL ⟨⟨x0, rfl, e0⟩, hs⟩)
theorem g_istore_n (C : Cx K l D ad dA z0 tt cc own nL R) {k0 : Fin 4} {i : Nat} {x : Int32} {lv' : List (Nat × Value)} (hd : decode cc pc = .ok (.istore_n k0, 1)) (hi : (k0 : Nat) = i) (hn : i < nL) (hl : (i, Value.int x) :: lv.filter (fun q => !(q.1 == i) && !(q.1 + 1 == i && q.2.category == 2)) = lv') (k : K σ φ (pc + 1) lv' st) : K σ φ pc lv (.int x :: st) := by
  obtain ⟨p, e, s, m, args, below, meth, c, Q, cells, slots, rfl, hx, hb, hml, hown, hts, hE, hcl, hsl⟩ := C
  intro d H locs ls l0 st0 hd0 hW hS hls hL hs
  obtain ⟨t1, rfl, g1⟩ := alS_int hs
  subst hl
  refine lv_istore_n (lv' := _) hx hb hd hi hls hn rfl (fun ls1 hls1 => ?_)
  exact k d H locs ls1 _ _ hd0 hW hS hls1 ⟨⟨rfl, rfl⟩, alL_filter (fun _ _ _ e => by dsimp only; rw [e]) hL⟩ g1
theorem g_istore (C : Cx K l D ad dA z0 tt cc own nL R) {i : Nat} {x : Int32} {lv' : List (Nat × Value)} (hd : decode cc pc = .ok (.istore i, 2)) (hn : i < nL) (hl : (i, Value.int x) :: lv.filter (fun q => !(q.1 == i) && !(q.1 + 1 == i && q.2.category == 2)) = lv') (k : K σ φ (pc + 2) lv' st) : K σ φ pc lv (.int x :: st) := by
  obtain ⟨p, e, s, m, args, below, meth, c, Q, cells, slots, rfl, hx, hb, hml, hown, hts, hE, hcl, hsl⟩ := C
  intro d H locs ls l0 st0 hd0 hW hS hls hL hs
  obtain ⟨t1, rfl, g1⟩ := alS_int hs
  subst hl
  refine lv_istore (lv' := _) hx hb hd hls hn rfl (fun ls1 hls1 => ?_)
  exact k d H locs ls1 _ _ hd0 hW hS hls1 ⟨⟨rfl, rfl⟩, alL_filter (fun _ _ _ e => by dsimp only; rw [e]) hL⟩ g1
theorem g_astore_n (C : Cx K l D ad dA z0 tt cc own nL R) {k0 : Fin 4} {i : Nat} {x : Nat} {lv' : List (Nat × Value)} (hd : decode cc pc = .ok (.astore_n k0, 1)) (hi : (k0 : Nat) = i) (hn : i < nL) (hl : (i, Value.ref x) :: lv.filter (fun q => !(q.1 == i) && !(q.1 + 1 == i && q.2.category == 2)) = lv') (k : K σ φ (pc + 1) lv' st) : K σ φ pc lv (.ref x :: st) := by
  obtain ⟨p, e, s, m, args, below, meth, c, Q, cells, slots, rfl, hx, hb, hml, hown, hts, hE, hcl, hsl⟩ := C
  intro d H locs ls l0 st0 hd0 hW hS hls hL hs
  obtain ⟨t1, rfl, g1⟩ := alS_ref hs
  subst hl
  refine lv_astore_n (lv' := _) hx hb hd hi hls hn rfl (fun ls1 hls1 => ?_)
  exact k d H locs ls1 _ _ hd0 hW hS hls1 ⟨⟨rfl, rfl⟩, alL_filter (fun _ _ _ e => by dsimp only; rw [e]) hL⟩ g1
theorem g_astore (C : Cx K l D ad dA z0 tt cc own nL R) {i : Nat} {x : Nat} {lv' : List (Nat × Value)} (hd : decode cc pc = .ok (.astore i, 2)) (hn : i < nL) (hl : (i, Value.ref x) :: lv.filter (fun q => !(q.1 == i) && !(q.1 + 1 == i && q.2.category == 2)) = lv') (k : K σ φ (pc + 2) lv' st) : K σ φ pc lv (.ref x :: st) := by
  obtain ⟨p, e, s, m, args, below, meth, c, Q, cells, slots, rfl, hx, hb, hml, hown, hts, hE, hcl, hsl⟩ := C
  intro d H locs ls l0 st0 hd0 hW hS hls hL hs
  obtain ⟨t1, rfl, g1⟩ := alS_ref hs
  subst hl
  refine lv_astore (lv' := _) hx hb hd hls hn rfl (fun ls1 hls1 => ?_)
  exact k d H locs ls1 _ _ hd0 hW hS hls1 ⟨⟨rfl, rfl⟩, alL_filter (fun _ _ _ e => by dsimp only; rw [e]) hL⟩ g1
theorem g_fstore_n (C : Cx K l D ad dA z0 tt cc own nL R) {k0 : Fin 4} {i : Nat} {x : UInt32} {lv' : List (Nat × Value)} (hd : decode cc pc = .ok (.fstore_n k0, 1)) (hi : (k0 : Nat) = i) (hn : i < nL) (hl : (i, Value.float x) :: lv.filter (fun q => !(q.1 == i) && !(q.1 + 1 == i && q.2.category == 2)) = lv') (k : K σ φ (pc + 1) lv' st) : K σ φ pc lv (.float x :: st) := by
  obtain ⟨p, e, s, m, args, below, meth, c, Q, cells, slots, rfl, hx, hb, hml, hown, hts, hE, hcl, hsl⟩ := C
  intro d H locs ls l0 st0 hd0 hW hS hls hL hs
  obtain ⟨x1, t1, rfl, e1, g1⟩ := alS_flt hs
  subst hl
  refine lv_fstore_n (lv' := _) hx hb hd hi hls hn rfl (fun ls1 hls1 => ?_)
  exact k d H locs ls1 _ _ hd0 hW hS hls1 ⟨⟨rfl, ⟨x1, rfl, e1⟩⟩, alL_filter (fun _ _ _ e => by dsimp only; rw [e]) hL⟩ g1
theorem g_fstore (C : Cx K l D ad dA z0 tt cc own nL R) {i : Nat} {x : UInt32} {lv' : List (Nat × Value)} (hd : decode cc pc = .ok (.fstore i, 2)) (hn : i < nL) (hl : (i, Value.float x) :: lv.filter (fun q => !(q.1 == i) && !(q.1 + 1 == i && q.2.category == 2)) = lv') (k : K σ φ (pc + 2) lv' st) : K σ φ pc lv (.float x :: st) := by
  obtain ⟨p, e, s, m, args, below, meth, c, Q, cells, slots, rfl, hx, hb, hml, hown, hts, hE, hcl, hsl⟩ := C
  intro d H locs ls l0 st0 hd0 hW hS hls hL hs
  obtain ⟨x1, t1, rfl, e1, g1⟩ := alS_flt hs
  subst hl
  refine lv_fstore (lv' := _) hx hb hd hls hn rfl (fun ls1 hls1 => ?_)
  exact k d H locs ls1 _ _ hd0 hW hS hls1 ⟨⟨rfl, ⟨x1, rfl, e1⟩⟩, alL_filter (fun _ _ _ e => by dsimp only; rw [e]) hL⟩ g1
theorem g_dstore_n (C : Cx K l D ad dA z0 tt cc own nL R) {k0 : Fin 4} {i : Nat} {x : UInt64} {lv' : List (Nat × Value)} (hd : decode cc pc = .ok (.dstore_n k0, 1)) (hi : (k0 : Nat) = i) (hn : i + 1 < nL) (hl : (i, Value.double x) :: lv.filter (fun q => !(q.1 == i) && (!(q.1 == i + 1) && !(q.1 + 1 == i && q.2.category == 2))) = lv') (k : K σ φ (pc + 1) lv' st) : K σ φ pc lv (.double x :: st) := by
  obtain ⟨p, e, s, m, args, below, meth, c, Q, cells, slots, rfl, hx, hb, hml, hown, hts, hE, hcl, hsl⟩ := C
  intro d H locs ls l0 st0 hd0 hW hS hls hL hs
  obtain ⟨x1, t1, rfl, e1, g1⟩ := alS_dbl hs
  subst hl
  refine lv_dstore_n (lv' := _) hx hb hd hi hls hn rfl (fun ls1 hls1 => ?_)
  exact k d H locs ls1 _ _ hd0 hW hS hls1 ⟨⟨rfl, ⟨x1, rfl, e1⟩⟩, alL_filter (fun _ _ _ e => by dsimp only; rw [e]) hL⟩ g1
theorem g_dstore (C : Cx K l D ad dA z0 tt cc own nL R) {i : Nat} {x : UInt64} {lv' : List (Nat × Value)} (hd : decode cc pc = .ok (.dstore i, 2)) (hn : i + 1 < nL) (hl : (i, Value.double x) :: lv.filter (fun q => !(q.1 == i) && (!(q.1 == i + 1) && !(q.1 + 1 == i && q.2.category == 2))) = lv') (k : K σ φ (pc + 2) lv' st) : K σ φ pc lv (.double x :: st) := by
  obtain ⟨p, e, s, m, args, below, meth, c, Q, cells, slots, rfl, hx, hb, hml, hown, hts, hE, hcl, hsl⟩ := C
  intro d H locs ls l0 st0 hd0 hW hS hls hL hs
  obtain ⟨x1, t1, rfl, e1, g1⟩ := alS_dbl hs
  subst hl
  refine lv_dstore (lv' := _) hx hb hd hls hn rfl (fun ls1 hls1 => ?_)
  exact k d H locs ls1 _ _ hd0 hW hS hls1 ⟨⟨rfl, ⟨x1, rfl, e1⟩⟩, alL_filter (fun _ _ _ e => by dsimp only; rw [e]) hL⟩ g1
theorem g_lstore_n (C : Cx K l D ad dA z0 tt cc own nL R) {k0 : Fin 4} {i : Nat} {x : Int64} {lv' : List (Nat × Value)} (hd : decode cc pc = .ok (.lstore_n k0, 1)) (hi : (k0 : Nat) = i) (hn : i + 1 < nL) (hl : (i, Value.long x) :: lv.filter (fun q => !(q.1 == i) && (!(q.1 == i + 1) && !(q.1 + 1 == i && q.2.category == 2))) = lv') (k : K σ φ (pc + 1) lv' st) : K σ φ pc lv (.long x :: st) := by
  obtain ⟨p, e, s, m, args, below, meth, c, Q, cells, slots, rfl, hx, hb, hml, hown, hts, hE, hcl, hsl⟩ := C
  intro d H locs ls l0 st0 hd0 hW hS hls hL hs
  obtain ⟨t1, rfl, g1⟩ := alS_long hs
  subst hl
  refine lv_lstore_n (lv' := _) hx hb hd hi hls hn rfl (fun ls1 hls1 => ?_)
  exact k d H locs ls1 _ _ hd0 hW hS hls1 ⟨⟨rfl, rfl⟩, alL_filter (fun _ _ _ e => by dsimp only; rw [e]) hL⟩ g1
theorem g_lstore (C : Cx K l D ad dA z0 tt cc own nL R) {i : Nat} {x : Int64} {lv' : List (Nat × Value)} (hd : decode cc pc = .ok (.lstore i, 2)) (hn : i + 1 < nL) (hl : (i, Value.long x) :: lv.filter (fun q => !(q.1 == i) && (!(q.1 == i + 1) && !(q.1 + 1 == i && q.2.category == 2))) = lv') (k : K σ φ (pc + 2) lv' st) : K σ φ pc lv (.long x :: st) := by
  obtain ⟨p, e, s, m, args, below, meth, c, Q, cells, slots, rfl, hx, hb, hml, hown, hts, hE, hcl, hsl⟩ := C
  intro d H locs ls l0 st0 hd0 hW hS hls hL hs
  obtain ⟨t1, rfl, g1⟩ := alS_long hs
  subst hl
  refine lv_lstore (lv' := _) hx hb hd hls hn rfl (fun ls1 hls1 => ?_)
  exact k d H locs ls1 _ _ hd0 hW hS hls1 ⟨⟨rfl, rfl⟩, alL_filter (fun _ _ _ e => by dsimp only; rw [e]) hL⟩ g1
theorem g_iinc (C : Cx K l D ad dA z0 tt cc own nL R) {i : Nat} {n : Int} {x v : Int32} {lv' : List (Nat × Value)} (hd : decode cc pc = .ok (.iinc i n, 3)) (j : Nat) (hj : lv[j]? = some (i, .int x)) (hv : x + Int32.ofInt n = v) (hn : i < nL) (hl : (i, Value.int v) :: lv.filter (fun q => !(q.1 == i) && !(q.1 + 1 == i && q.2.category == 2)) = lv') (k : K σ φ (pc + 3) lv' st) : K σ φ pc lv st := by
  obtain ⟨p, e, s, m, args, below, meth, c, Q, cells, slots, rfl, hx, hb, hml, hown, hts, hE, hcl, hsl⟩ := C
  intro d H locs ls l0 st0 hd0 hW hS hls hL hs
  obtain ⟨v0, hv0, ev⟩ := alL_at j hL hj
  cases (ev : v0 = .int x)
  subst hl
  refine lv_iinc (lv' := _) hx hb hd hls (k := j) hv0 hv hn rfl (fun ls1 hls1 => ?_)
  exact k d H locs ls1 _ _ hd0 hW hS hls1 ⟨⟨rfl, rfl⟩, alL_filter (fun _ _ _ e => by dsimp only; rw [e]) hL⟩ hs
/-- the locals in another order, or fewer -/
theorem g_loc (C : Cx K l D ad dA z0 tt cc own nL R) {lv' : List (Nat × Value)} (ks : List Nat) (hl : lv_pick lv ks = lv') (k : K σ φ pc lv' st) : K σ φ pc lv st := by
  obtain ⟨p, e, s, m, args, below, meth, c, Q, cells, slots, rfl, hx, hb, hml, hown, hts, hE, hcl, hsl⟩ := C
  intro d H locs ls l0 st0 hd0 hW hS hls hL hs
  subst hl
  exact k d H locs ls _ _ hd0 hW hS (lv_sub hls ks rfl) (alL_pick hL ks) hs
theorem g_dup (C : Cx K l D ad dA z0 tt cc own nL R) {v : Value} (hd : decode cc pc = .ok (.dup, 1)) (hv : v.category = 1) (k : K σ φ (pc + 1) lv (v :: v :: st)) : K σ φ pc lv (v :: st) := by
  obtain ⟨p, e, s, m, args, below, meth, c, Q, cells, slots, rfl, hx, hb, hml, hown, hts, hE, hcl, hsl⟩ := C
  intro d H locs ls l0 st0 hd0 hW hS hls hL hs
  obtain ⟨x1, t1, rfl, e1, g1⟩ := alS_cons hs
  exact lv_dup hx hb hd ((alV_cat e1).trans hv) (k d H locs ls l0 _ hd0 hW hS hls hL ⟨e1, e1, g1⟩)
theorem g_pop (C : Cx K l D ad dA z0 tt cc own nL R) {v : Value} (hd : decode cc pc = .ok (.pop, 1)) (hv : v.category = 1) (k : K σ φ (pc + 1) lv st) : K σ φ pc lv (v :: st) := by
  obtain ⟨p, e, s, m, args, below, meth, c, Q, cells, slots, rfl, hx, hb, hml, hown, hts, hE, hcl, hsl⟩ := C
  intro d H locs ls l0 st0 hd0 hW hS hls hL hs
  obtain ⟨x1, t1, rfl, e1, g1⟩ := alS_cons hs
  exact lv_pop hx hb hd ((alV_cat e1).trans hv) (k d H locs ls l0 _ hd0 hW hS hls hL g1)
theorem g_dup2 (C : Cx K l D ad dA z0 tt cc own nL R) {v u : Value} (hd : decode cc pc = .ok (.dup2, 1)) (hv : v.category = 1) (hu : u.category = 1) (k : K σ φ (pc + 1) lv (v :: u :: v :: u :: st)) : K σ φ pc lv (v :: u :: st) := by
  obtain ⟨p, e, s, m, args, below, meth, c, Q, cells, slots, rfl, hx, hb, hml, hown, hts, hE, hcl, hsl⟩ := C
  intro d H locs ls l0 st0 hd0 hW hS hls hL hs
  obtain ⟨x1, t1, rfl, e1, g1⟩ := alS_cons hs
  obtain ⟨x2, t2, rfl, e2, g2⟩ := alS_cons g1
  exact lv_dup2_11 hx hb hd ((alV_cat e1).trans hv) ((alV_cat e2).trans hu) (k d H locs ls l0 _ hd0 hW hS hls hL ⟨e1, e2, e1, e2, g2⟩)
theorem g_if_eq (C : Cx K l D ad dA z0 tt cc own nL R) {x : Int32} {off : Int} {tgt : Nat} (hd : decode cc pc = .ok (.ifCond .eq off, 3)) (ht : (pc : Int) + off = (tgt : Int)) (kt : x = 0 → K σ φ tgt lv st) (kf : ¬ x = 0 → K σ φ (pc + 3) lv st) : K σ φ pc lv (.int x :: st) := by
  obtain ⟨p, e, s, m, args, below, meth, c, Q, cells, slots, rfl, hx, hb, hml, hown, hts, hE, hcl, hsl⟩ := C
  intro d H locs ls l0 st0 hd0 hW hS hls hL hs
  obtain ⟨t1, rfl, g1⟩ := alS_int hs
  exact lv_if_eq hx hb hd ht (fun h => kt h d H locs ls l0 _ hd0 hW hS hls hL g1) (fun h => kf h d H locs ls l0 _ hd0 hW hS hls hL g1)
theorem g_icmp_eq (C : Cx K l D ad dA z0 tt cc own nL R) {x y : Int32} {off : Int} {tgt : Nat} (hd : decode cc pc = .ok (.if_icmp .eq off, 3)) (ht : (pc : Int) + off = (tgt : Int)) (kt : x = y → K σ φ tgt lv st) (kf : ¬ x = y → K σ φ (pc + 3) lv st) : K σ φ pc lv (.int y :: .int x :: st) := by
  obtain ⟨p, e, s, m, args, below, meth, c, Q, cells, slots, rfl, hx, hb, hml, hown, hts, hE, hcl, hsl⟩ := C
  intro d H locs ls l0 st0 hd0 hW hS hls hL hs
  obtain ⟨t1, rfl, g1⟩ := alS_int hs
  obtain ⟨t2, rfl, g2⟩ := alS_int g1
  exact lv_icmp_eq hx hb hd ht (fun h => kt h d H locs ls l0 _ hd0 hW hS hls hL g2) (fun h => kf h d H locs ls l0 _ hd0 hW hS hls hL g2)
theorem g_if_lt (C : Cx K l D ad dA z0 tt cc own nL R) {x : Int32} {off : Int} {tgt : Nat} (hd : decode cc pc = .ok (.ifCond .lt off, 3)) (ht : (pc : Int) + off = (tgt : Int)) (kt : x < 0 → K σ φ tgt lv st) (kf : ¬ x < 0 → K σ φ (pc + 3) lv st) : K σ φ pc lv (.int x :: st) := by
  obtain ⟨p, e, s, m, args, below, meth, c, Q, cells, slots, rfl, hx, hb, hml, hown, hts, hE, hcl, hsl⟩ := C
  intro d H locs ls l0 st0 hd0 hW hS hls hL hs
  obtain ⟨t1, rfl, g1⟩ := alS_int hs
  exact lv_if_lt hx hb hd ht (fun h => kt h d H locs ls l0 _ hd0 hW hS hls hL g1) (fun h => kf h d H locs ls l0 _ hd0 hW hS hls hL g1)
theorem g_icmp_lt (C : Cx K l D ad dA z0 tt cc own nL R) {x y : Int32} {off : Int} {tgt : Nat} (hd : decode cc pc = .ok (.if_icmp .lt off, 3)) (ht : (pc : Int) + off = (tgt : Int)) (kt : x < y → K σ φ tgt lv st) (kf : ¬ x < y → K σ φ (pc + 3) lv st) : K σ φ pc lv (.int y :: .int x :: st) := by
  obtain ⟨p, e, s, m, args, below, meth, c, Q, cells, slots, rfl, hx, hb, hml, hown, hts, hE, hcl, hsl⟩ := C
  intro d H locs ls l0 st0 hd0 hW hS hls hL hs
  obtain ⟨t1, rfl, g1⟩ := alS_int hs
  obtain ⟨t2, rfl, g2⟩ := alS_int g1
  exact lv_icmp_lt hx hb hd ht (fun h => kt h d H locs ls l0 _ hd0 hW hS hls hL g2) (fun h => kf h d H locs ls l0 _ hd0 hW hS hls hL g2)
theorem g_if_ge (C : Cx K l D ad dA z0 tt cc own nL R) {x : Int32} {off : Int} {tgt : Nat} (hd : decode cc pc = .ok (.ifCond .ge off, 3)) (ht : (pc : Int) + off = (tgt : Int)) (kt : 0 ≤ x → K σ φ tgt lv st) (kf : ¬ 0 ≤ x → K σ φ (pc + 3) lv st) : K σ φ pc lv (.int x :: st) := by
  obtain ⟨p, e, s, m, args, below, meth, c, Q, cells, slots, rfl, hx, hb, hml, hown, hts, hE, hcl, hsl⟩ := C
  intro d H locs ls l0 st0 hd0 hW hS hls hL hs
  obtain ⟨t1, rfl, g1⟩ := alS_int hs
  exact lv_if_ge hx hb hd ht (fun h => kt h d H locs ls l0 _ hd0 hW hS hls hL g1) (fun h => kf h d H locs ls l0 _ hd0 hW hS hls hL g1)
theorem g_icmp_ge (C : Cx K l D ad dA z0 tt cc own nL R) {x y : Int32} {off : Int} {tgt : Nat} (hd : decode cc pc = .ok (.if_icmp .ge off, 3)) (ht : (pc : Int) + off = (tgt : Int)) (kt : y ≤ x → K σ φ tgt lv st) (kf : ¬ y ≤ x → K σ φ (pc + 3) lv st) : K σ φ pc lv (.int y :: .int x :: st) := by
  obtain ⟨p, e, s, m, args, below, meth, c, Q, cells, slots, rfl, hx, hb, hml, hown, hts, hE, hcl, hsl⟩ := C
  intro d H locs ls l0 st0 hd0 hW hS hls hL hs
  obtain ⟨t1, rfl, g1⟩ := alS_int hs
  obtain ⟨t2, rfl, g2⟩ := alS_int g1
  exact lv_icmp_ge hx hb hd ht (fun h => kt h d H locs ls l0 _ hd0 hW hS hls hL g2) (fun h => kf h d H locs ls l0 _ hd0 hW hS hls hL g2)
theorem g_if_gt (C : Cx K l D ad dA z0 tt cc own nL R) {x : Int32} {off : Int} {tgt : Nat} (hd : decode cc pc = .ok (.ifCond .gt off, 3)) (ht : (pc : Int) + off = (tgt : Int)) (kt : 0 < x → K σ φ tgt lv st) (kf : ¬ 0 < x → K σ φ (pc + 3) lv st) : K σ φ pc lv (.int x :: st) := by
  obtain ⟨p, e, s, m, args, below, meth, c, Q, cells, slots, rfl, hx, hb, hml, hown, hts, hE, hcl, hsl⟩ := C
  intro d H locs ls l0 st0 hd0 hW hS hls hL hs
  obtain ⟨t1, rfl, g1⟩ := alS_int hs
  exact lv_if_gt hx hb hd ht (fun h => kt h d H locs ls l0 _ hd0 hW hS hls hL g1) (fun h => kf h d H locs ls l0 _ hd0 hW hS hls hL g1)
theorem g_icmp_gt (C : Cx K l D ad dA z0 tt cc own nL R) {x y : Int32} {off : Int} {tgt : Nat} (hd : decode cc pc = .ok (.if_icmp .gt off, 3)) (ht : (pc : Int) + off = (tgt : Int)) (kt : y < x → K σ φ tgt lv st) (kf : ¬ y < x → K σ φ (pc + 3) lv st) : K σ φ pc lv (.int y :: .int x :: st) := by
  obtain ⟨p, e, s, m, args, below, meth, c, Q, cells, slots, rfl, hx, hb, hml, hown, hts, hE, hcl, hsl⟩ := C
  intro d H locs ls l0 st0 hd0 hW hS hls hL hs
  obtain ⟨t1, rfl, g1⟩ := alS_int hs
  obtain ⟨t2, rfl, g2⟩ := alS_int g1
  exact lv_icmp_gt hx hb hd ht (fun h => kt h d H locs ls l0 _ hd0 hW hS hls hL g2) (fun h => kf h d H locs ls l0 _ hd0 hW hS hls hL g2)
theorem g_if_le (C : Cx K l D ad dA z0 tt cc own nL R) {x : Int32} {off : Int} {tgt : Nat} (hd : decode cc pc = .ok (.ifCond .le off, 3)) (ht : (pc : Int) + off = (tgt : Int)) (kt : x ≤ 0 → K σ φ tgt lv st) (kf : ¬ x ≤ 0 → K σ φ (pc + 3) lv st) : K σ φ pc lv (.int x :: st) := by
  obtain ⟨p, e, s, m, args, below, meth, c, Q, cells, slots, rfl, hx, hb, hml, hown, hts, hE, hcl, hsl⟩ := C
  intro d H locs ls l0 st0 hd0 hW hS hls hL hs
  obtain ⟨t1, rfl, g1⟩ := alS_int hs
  exact lv_if_le hx hb hd ht (fun h => kt h d H locs ls l0 _ hd0 hW hS hls hL g1) (fun h => kf h d H locs ls l0 _ hd0 hW hS hls hL g1)
theorem g_icmp_le (C : Cx K l D ad dA z0 tt cc own nL R) {x y : Int32} {off : Int} {tgt : Nat} (hd : decode cc pc = .ok (.if_icmp .le off, 3)) (ht : (pc : Int) + off = (tgt : Int)) (kt : x ≤ y → K σ φ tgt lv st) (kf : ¬ x ≤ y → K σ φ (pc + 3) lv st) : K σ φ pc lv (.int y :: .int x :: st) := by
  obtain ⟨p, e, s, m, args, below, meth, c, Q, cells, slots, rfl, hx, hb, hml, hown, hts, hE, hcl, hsl⟩ := C
  intro d H locs ls l0 st0 hd0 hW hS hls hL hs
  obtain ⟨t1, rfl, g1⟩ := alS_int hs
  obtain ⟨t2, rfl, g2⟩ := alS_int g1
  exact lv_icmp_le hx hb hd ht (fun h => kt h d H locs ls l0 _ hd0 hW hS hls hL g2) (fun h => kf h d H locs ls l0 _ hd0 hW hS hls hL g2)
theorem g_if_ne (C : Cx K l D ad dA z0 tt cc own nL R) {x : Int32} {off : Int} {tgt : Nat} (hd : decode cc pc = .ok (.ifCond .ne off, 3)) (ht : (pc : Int) + off = (tgt : Int)) (kt : ¬ x = 0 → K σ φ tgt lv st) (kf : x = 0 → K σ φ (pc + 3) lv st) : K σ φ pc lv (.int x :: st) := by
  obtain ⟨p, e, s, m, args, below, meth, c, Q, cells, slots, rfl, hx, hb, hml, hown, hts, hE, hcl, hsl⟩ := C
  intro d H locs ls l0 st0 hd0 hW hS hls hL hs
  obtain ⟨t1, rfl, g1⟩ := alS_int hs
  exact lv_if_ne hx hb hd ht (fun h => kt h d H locs ls l0 _ hd0 hW hS hls hL g1) (fun h => kf h d H locs ls l0 _ hd0 hW hS hls hL g1)
theorem g_icmp_ne (C : Cx K l D ad dA z0 tt cc own nL R) {x y : Int32} {off : Int} {tgt : Nat} (hd : decode cc pc = .ok (.if_icmp .ne off, 3)) (ht : (pc : Int) + off = (tgt : Int)) (kt : ¬ x = y → K σ φ tgt lv st) (kf : x = y → K σ φ (pc + 3) lv st) : K σ φ pc lv (.int y :: .int x :: st) := by
  obtain ⟨p, e, s, m, args, below, meth, c, Q, cells, slots, rfl, hx, hb, hml, hown, hts, hE, hcl, hsl⟩ := C
  intro d H locs ls l0 st0 hd0 hW hS hls hL hs
  obtain ⟨t1, rfl, g1⟩ := alS_int hs
  obtain ⟨t2, rfl, g2⟩ := alS_int g1
  exact lv_icmp_ne hx hb hd ht (fun h => kt h d H locs ls l0 _ hd0 hW hS hls hL g2) (fun h => kf h d H locs ls l0 _ hd0 hW hS hls hL g2)
theorem g_goto (C : Cx K l D ad dA z0 tt cc own nL R) {off : Int} {tgt : Nat} (hd : decode cc pc = .ok (.goto off, 3)) (ht : (pc : Int) + off = (tgt : Int)) (k : K σ φ tgt lv st) : K σ φ pc lv st := by
  obtain ⟨p, e, s, m, args, below, meth, c, Q, cells, slots, rfl, hx, hb, hml, hown, hts, hE, hcl, hsl⟩ := C
  intro d H locs ls l0 st0 hd0 hW hS hls hL hs
  exact lv_goto hx hb hd ht (k d H locs ls l0 _ hd0 hW hS hls hL hs)
theorem g_tableIn (C : Cx K l D ad dA z0 tt cc own nL R) {dflt lo hi : Int} {offs : Array Int} {len : Nat} {x : Int32} {off : Int} {tgt : Nat} (hd : decode cc pc = .ok (.tableswitch dflt lo hi offs, len)) (h1 : ¬ x.toInt < lo) (h2 : ¬ hi < x.toInt) (ho : offs[(x.toInt - lo).toNat]? = some off) (ht : (pc : Int) + off = (tgt : Int)) (k : K σ φ tgt lv st) : K σ φ pc lv (.int x :: st) := by
  obtain ⟨p, e, s, m, args, below, meth, c, Q, cells, slots, rfl, hx, hb, hml, hown, hts, hE, hcl, hsl⟩ := C
  intro d H locs ls l0 st0 hd0 hW hS hls hL hs
  obtain ⟨t1, rfl, g1⟩ := alS_int hs
  exact lv_tableIn hx hb hd h1 h2 ho ht (k d H locs ls l0 _ hd0 hW hS hls hL g1)
theorem g_tableOut (C : Cx K l D ad dA z0 tt cc own nL R) {dflt lo hi : Int} {offs : Array Int} {len : Nat} {x : Int32} {tgt : Nat} (hd : decode cc pc = .ok (.tableswitch dflt lo hi offs, len)) (h : x.toInt < lo ∨ hi < x.toInt) (ht : (pc : Int) + dflt = (tgt : Int)) (k : K σ φ tgt lv st) : K σ φ pc lv (.int x :: st) := by
  obtain ⟨p, e, s, m, args, below, meth, c, Q, cells, slots, rfl, hx, hb, hml, hown, hts, hE, hcl, hsl⟩ := C
  intro d H locs ls l0 st0 hd0 hW hS hls hL hs
  obtain ⟨t1, rfl, g1⟩ := alS_int hs
  exact lv_tableOut hx hb hd h ht (k d H locs ls l0 _ hd0 hW hS hls hL g1)
theorem g_get (C : Cx K l D ad dA z0 tt cc own nL R) {Cn ref : String} {T : u_T} {N ci index a : Nat} (hin : ∀ w ∈ u_ws Cn T N, w ∈ lw_all) (q0 : Nat) {fs : List Value} (he : ∀ φ0 : Fl, (wJ ad dA σ φ0)[q0]? = some (a, .inr (ci, fs))) (hc : vwCl[ci]? = some (Cn, T, N)) (k : Nat) (hk : k < N) (hlink : Cond.fieldLink own index ref (T k).2.1 (T k).2.2.1 ∈ lw_all) (hsame : ref = (T k).1) {v : Value} (hv : fs[k]? = some v) (hd : decode cc pc = .ok (.getfield index, 3)) (k2 : K σ φ (pc + 3) lv (v :: st)) : K σ φ pc lv (.ref a :: st) := by
  obtain ⟨p, e, s, m, args, below, meth, c, Q, cells, slots, rfl, hx, hb, hml, hown, hts, hE, hcl, hsl⟩ := C
  intro d H locs ls l0 st0 hd0 hW hS hls hL hs
  obtain ⟨t1, rfl, g1⟩ := alS_ref hs
  obtain ⟨φ0, hφ, hP⟩ := hW
  subst hsame
  exact va_get (s := s.setDrawn d) (D := D) (ci := ci) hx hb (dr_words hts d) hin hown hE.1 hP q0 (he φ0) hc k hk (dr_words hts d _ hlink) (fun _ h => h) hv hd (k2 d H locs ls l0 _ hd0 ⟨φ0, hφ, hP⟩ hS hls hL ⟨alV_rf v, g1⟩)
theorem g_put (C : Cx K l D ad dA z0 tt cc own nL R) {Cn ref : String} {T : u_T} {N ci index a : Nat} (hin : ∀ w ∈ u_ws Cn T N, w ∈ lw_all) (ty0 : Nat → FieldType) (hty : ∀ k, k < N → parseFieldDescriptor (T k).2.2.1 = some (ty0 k)) (hnm : ∀ a, a < N → ∀ b, b < N → a ≠ b → (T a).2.1 ≠ (T b).2.1) (q0 : Nat) {fs : List Value} (he : ∀ φ0 : Fl, (wJ ad dA σ φ0)[q0]? = some (a, .inr (ci, fs))) (hc : vwCl[ci]? = some (Cn, T, N)) (k : Nat) (hk : k < N) (hlink : Cond.fieldLink own index ref (T k).2.1 (T k).2.2.1 ∈ lw_all) (hsame : ref = (T k).1) (hfin : (T k).2.2.2 = false) {ty : FieldType} {x : Int32} (hd2 : parseFieldDescriptor (T k).2.2.1 = some ty) (hn : narrow ty (.int x) = .int x) (hfit : fits ty (.int x) = true) (hl : k < fs.length) {σ1 : Sg} (he2 : ∀ φ0 : Fl, (wJ ad dA σ φ0).set q0 (a, .inr (ci, fs.set k (.int x))) = wJ ad dA σ1 φ0) (hd : decode cc pc = .ok (.putfield index, 3)) (k2 : K σ1 φ (pc + 3) lv st) : K σ φ pc lv (.int x :: .ref a :: st) := by
  obtain ⟨p, e, s, m, args, below, meth, c, Q, cells, slots, rfl, hx, hb, hml, hown, hts, hE, hcl, hsl⟩ := C
  intro d H locs ls l0 st0 hd0 hW hS hls hL hs
  obtain ⟨t1, rfl, g1⟩ := alS_int hs
  obtain ⟨t2, rfl, g2⟩ := alS_ref g1
  obtain ⟨φ0, hφ, hP⟩ := hW
  subst hsame
  refine va_put (s := s.setDrawn d) (D := D) (ci := ci) (ty := ty) hx hb (dr_words hts d) hin ty0 hty hnm hown hE.1 hP (hE.2.2.2.2 σ φ0) hS q0 (he φ0) hc k hk (dr_words hts d _ hlink) (fun _ h => h) hfin hd2 hn hfit hl hd (fun H1 locs1 hP1 hD1 hS1 => ?_)
  rw [he2] at hP1
  exact k2 d H1 locs1 ls l0 _ hd0 ⟨φ0, hφ, hP1⟩ hS1 hls hL g2
theorem g_getN (C : Cx K l D ad dA z0 tt cc own nL R) {Cn ref : String} {host : String} {T : u_T} {N ci index a : Nat} (hin : ∀ w ∈ u_ws Cn T N, w ∈ lw_all) (q0 : Nat) {fs : List Value} (he : ∀ φ0 : Fl, (wJ ad dA σ φ0)[q0]? = some (a, .inr (ci, fs))) (hc : vwCl[ci]? = some (Cn, T, N)) (k : Nat) (hk : k < N) (hlink : Cond.fieldLinkNest own index ref (T k).2.1 (T k).2.2.1 host ∈ lw_nest) (hsame : ref = (T k).1) {v : Value} (hv : fs[k]? = some v) (hd : decode cc pc = .ok (.getfield index, 3)) (k2 : K σ φ (pc + 3) lv (v :: st)) : K σ φ pc lv (.ref a :: st) := by
  obtain ⟨p, e, s, m, args, below, meth, c, Q, cells, slots, rfl, hx, hb, hml, hown, hts, hE, hcl, hsl⟩ := C
  intro d H locs ls l0 st0 hd0 hW hS hls hL hs
  obtain ⟨t1, rfl, g1⟩ := alS_ref hs
  obtain ⟨φ0, hφ, hP⟩ := hW
  subst hsame
  exact va_getN (s := s.setDrawn d) (D := D) (ci := ci) hx hb (dr_words hts d) hin hown hE.1 hP q0 (he φ0) hc k hk (nest_at hE.2.1 hlink rfl d) (fun _ h => h) hv hd (k2 d H locs ls l0 _ hd0 ⟨φ0, hφ, hP⟩ hS hls hL ⟨alV_rf v, g1⟩)
theorem g_putN (C : Cx K l D ad dA z0 tt cc own nL R) {Cn ref : String} {host : String} {T : u_T} {N ci index a : Nat} (hin : ∀ w ∈ u_ws Cn T N, w ∈ lw_all) (ty0 : Nat → FieldType) (hty : ∀ k, k < N → parseFieldDescriptor (T k).2.2.1 = some (ty0 k)) (hnm : ∀ a, a < N → ∀ b, b < N → a ≠ b → (T a).2.1 ≠ (T b).2.1) (q0 : Nat) {fs : List Value} (he : ∀ φ0 : Fl, (wJ ad dA σ φ0)[q0]? = some (a, .inr (ci, fs))) (hc : vwCl[ci]? = some (Cn, T, N)) (k : Nat) (hk : k < N) (hlink : Cond.fieldLinkNest own index ref (T k).2.1 (T k).2.2.1 host ∈ lw_nest) (hsame : ref = (T k).1) (hfin : (T k).2.2.2 = false) {ty : FieldType} {x : Int32} (hd2 : parseFieldDescriptor (T k).2.2.1 = some ty) (hn : narrow ty (.int x) = .int x) (hfit : fits ty (.int x) = true) (hl : k < fs.length) {σ1 : Sg} (he2 : ∀ φ0 : Fl, (wJ ad dA σ φ0).set q0 (a, .inr (ci, fs.set k (.int x))) = wJ ad dA σ1 φ0) (hd : decode cc pc = .ok (.putfield index, 3)) (k2 : K σ1 φ (pc + 3) lv st) : K σ φ pc lv (.int x :: .ref a :: st) := by
  obtain ⟨p, e, s, m, args, below, meth, c, Q, cells, slots, rfl, hx, hb, hml, hown, hts, hE, hcl, hsl⟩ := C
  intro d H locs ls l0 st0 hd0 hW hS hls hL hs
  obtain ⟨t1, rfl, g1⟩ := alS_int hs
  obtain ⟨t2, rfl, g2⟩ := alS_ref g1
  obtain ⟨φ0, hφ, hP⟩ := hW
  subst hsame
  refine va_putN (s := s.setDrawn d) (D := D) (ci := ci) (ty := ty) hx hb (dr_words hts d) hin ty0 hty hnm hown hE.1 hP (hE.2.2.2.2 σ φ0) hS q0 (he φ0) hc k hk (nest_at hE.2.1 hlink rfl d) (fun _ h => h) hfin hd2 hn hfit hl hd (fun H1 locs1 hP1 hD1 hS1 => ?_)
  rw [he2] at hP1
  exact k2 d H1 locs1 ls l0 _ hd0 ⟨φ0, hφ, hP1⟩ hS1 hls hL g2
theorem g_iald (C : Cx K l D ad dA z0 tt cc own nL R) {a n : Nat} {f : Nat → Int32} (q0 : Nat) (he : ∀ φ0 : Fl, (wJ ad dA σ φ0)[q0]? = some (a, .inl (dA 0, n, .inl f))) {i : Int32} (hin : vp_in i n) (hd : decode cc pc = .ok (.iaload, 1)) (k : K σ φ (pc + 1) lv (.int (f i.toNatClampNeg) :: st)) : K σ φ pc lv (.int i :: .ref a :: st) := by
  obtain ⟨p, e, s, m, args, below, meth, c, Q, cells, slots, rfl, hx, hb, hml, hown, hts, hE, hcl, hsl⟩ := C
  intro d H locs ls l0 st0 hd0 hW hS hls hL hs
  obtain ⟨t1, rfl, g1⟩ := alS_int hs
  obtain ⟨t2, rfl, g2⟩ := alS_ref g1
  obtain ⟨φ0, hφ, hP⟩ := hW
  exact va_iald (s := s.setDrawn d) hx hb hE.1 hP q0 0 (he φ0) rfl hin hd (k d H locs ls l0 _ hd0 ⟨φ0, hφ, hP⟩ hS hls hL ⟨rfl, g2⟩)
theorem g_zald (C : Cx K l D ad dA z0 tt cc own nL R) {a n : Nat} {f : Nat → Int32} (q0 : Nat) (he : ∀ φ0 : Fl, (wJ ad dA σ φ0)[q0]? = some (a, .inl (dA 1, n, .inl f))) {i : Int32} (hin : vp_in i n) (hd : decode cc pc = .ok (.baload, 1)) (k : K σ φ (pc + 1) lv (.int (f i.toNatClampNeg) :: st)) : K σ φ pc lv (.int i :: .ref a :: st) := by
  obtain ⟨p, e, s, m, args, below, meth, c, Q, cells, slots, rfl, hx, hb, hml, hown, hts, hE, hcl, hsl⟩ := C
  intro d H locs ls l0 st0 hd0 hW hS hls hL hs
  obtain ⟨t1, rfl, g1⟩ := alS_int hs
  obtain ⟨t2, rfl, g2⟩ := alS_ref g1
  obtain ⟨φ0, hφ, hP⟩ := hW
  exact va_zald (s := s.setDrawn d) hx hb hE.1 hP q0 1 (he φ0) rfl hin hd (k d H locs ls l0 _ hd0 ⟨φ0, hφ, hP⟩ hS hls hL ⟨rfl, g2⟩)
theorem g_cald (C : Cx K l D ad dA z0 tt cc own nL R) {a n : Nat} {f : Nat → Int32} (q0 : Nat) (he : ∀ φ0 : Fl, (wJ ad dA σ φ0)[q0]? = some (a, .inl (dA 2, n, .inl f))) {i : Int32} (hin : vp_in i n) (hd : decode cc pc = .ok (.caload, 1)) (k : K σ φ (pc + 1) lv (.int (f i.toNatClampNeg) :: st)) : K σ φ pc lv (.int i :: .ref a :: st) := by
  obtain ⟨p, e, s, m, args, below, meth, c, Q, cells, slots, rfl, hx, hb, hml, hown, hts, hE, hcl, hsl⟩ := C
  intro d H locs ls l0 st0 hd0 hW hS hls hL hs
  obtain ⟨t1, rfl, g1⟩ := alS_int hs
  obtain ⟨t2, rfl, g2⟩ := alS_ref g1
  obtain ⟨φ0, hφ, hP⟩ := hW
  exact va_cald (s := s.setDrawn d) hx hb hE.1 hP q0 2 (he φ0) rfl hin hd (k d H locs ls l0 _ hd0 ⟨φ0, hφ, hP⟩ hS hls hL ⟨rfl, g2⟩)
theorem g_fald (C : Cx K l D ad dA z0 tt cc own nL R) {a n : Nat} (q0 : Nat) (he : ∀ φ0 : Fl, (wJ ad dA σ φ0)[q0]? = some (a, .inl (dA 3, n, .inr (.inr (.inl (φ0 q0)))))) {i : Int32} (hin : vp_in i n) (hd : decode cc pc = .ok (.faload, 1)) (k : K σ φ (pc + 1) lv (.float (φ q0 i.toNatClampNeg) :: st)) : K σ φ pc lv (.int i :: .ref a :: st) := by
  obtain ⟨p, e, s, m, args, below, meth, c, Q, cells, slots, rfl, hx, hb, hml, hown, hts, hE, hcl, hsl⟩ := C
  intro d H locs ls l0 st0 hd0 hW hS hls hL hs
  obtain ⟨t1, rfl, g1⟩ := alS_int hs
  obtain ⟨t2, rfl, g2⟩ := alS_ref g1
  obtain ⟨φ0, hφ, hP⟩ := hW
  exact va_fald (s := s.setDrawn d) hx hb hE.1 hP q0 3 (he φ0) rfl hin hd (k d H locs ls l0 _ hd0 ⟨φ0, hφ, hP⟩ hS hls hL ⟨⟨_, rfl, hφ q0 _⟩, g2⟩)
theorem g_iast (C : Cx K l D ad dA z0 tt cc own nL R) {a n : Nat} {f : Nat → Int32} (q0 : Nat) (he : ∀ φ0 : Fl, (wJ ad dA σ φ0)[q0]? = some (a, .inl (dA 0, n, .inl f))) {i x : Int32} (hin : vp_in i n) {σ1 : Sg} (he2 : ∀ φ0 : Fl, (wJ ad dA σ φ0).set q0 (a, .inl (dA 0, n, .inl (upd f i.toNatClampNeg x))) = wJ ad dA σ1 φ0) (hd : decode cc pc = .ok (.iastore, 1)) (k : K σ1 φ (pc + 1) lv st) : K σ φ pc lv (.int x :: .int i :: .ref a :: st) := by
  obtain ⟨p, e, s, m, args, below, meth, c, Q, cells, slots, rfl, hx, hb, hml, hown, hts, hE, hcl, hsl⟩ := C
  intro d H locs ls l0 st0 hd0 hW hS hls hL hs
  obtain ⟨t1, rfl, g1⟩ := alS_int hs
  obtain ⟨t2, rfl, g2⟩ := alS_int g1
  obtain ⟨t3, rfl, g3⟩ := alS_ref g2
  obtain ⟨φ0, hφ, hP⟩ := hW
  refine va_iast (s := s.setDrawn d) hx hb hE.1 hP (hE.2.2.2.2 σ φ0) hS q0 0 (he φ0) rfl hin hd (fun H1 locs1 hP1 hD1 hS1 => ?_)
  rw [he2] at hP1
  exact k d H1 locs1 ls l0 _ hd0 ⟨φ0, hφ, hP1⟩ hS1 hls hL g3
theorem g_zast (C : Cx K l D ad dA z0 tt cc own nL R) {a n : Nat} {f : Nat → Int32} (q0 : Nat) (he : ∀ φ0 : Fl, (wJ ad dA σ φ0)[q0]? = some (a, .inl (dA 1, n, .inl f))) {i x : Int32} (hin : vp_in i n) {σ1 : Sg} (he2 : ∀ φ0 : Fl, (wJ ad dA σ φ0).set q0 (a, .inl (dA 1, n, .inl (upd f i.toNatClampNeg (vp_nar .boolean x)))) = wJ ad dA σ1 φ0) (hd : decode cc pc = .ok (.bastore, 1)) (k : K σ1 φ (pc + 1) lv st) : K σ φ pc lv (.int x :: .int i :: .ref a :: st) := by
  obtain ⟨p, e, s, m, args, below, meth, c, Q, cells, slots, rfl, hx, hb, hml, hown, hts, hE, hcl, hsl⟩ := C
  intro d H locs ls l0 st0 hd0 hW hS hls hL hs
  obtain ⟨t1, rfl, g1⟩ := alS_int hs
  obtain ⟨t2, rfl, g2⟩ := alS_int g1
  obtain ⟨t3, rfl, g3⟩ := alS_ref g2
  obtain ⟨φ0, hφ, hP⟩ := hW
  refine va_zast (s := s.setDrawn d) hx hb hE.1 hP (hE.2.2.2.2 σ φ0) hS q0 1 (he φ0) rfl hin hd (fun H1 locs1 hP1 hD1 hS1 => ?_)
  rw [he2] at hP1
  exact k d H1 locs1 ls l0 _ hd0 ⟨φ0, hφ, hP1⟩ hS1 hls hL g3
theorem g_cast (C : Cx K l D ad dA z0 tt cc own nL R) {a n : Nat} {f : Nat → Int32} (q0 : Nat) (he : ∀ φ0 : Fl, (wJ ad dA σ φ0)[q0]? = some (a, .inl (dA 2, n, .inl f))) {i x : Int32} (hin : vp_in i n) {σ1 : Sg} (he2 : ∀ φ0 : Fl, (wJ ad dA σ φ0).set q0 (a, .inl (dA 2, n, .inl (upd f i.toNatClampNeg (vp_nar .char x)))) = wJ ad dA σ1 φ0) (hd : decode cc pc = .ok (.castore, 1)) (k : K σ1 φ (pc + 1) lv st) : K σ φ pc lv (.int x :: .int i :: .ref a :: st) := by
  obtain ⟨p, e, s, m, args, below, meth, c, Q, cells, slots, rfl, hx, hb, hml, hown, hts, hE, hcl, hsl⟩ := C
  intro d H locs ls l0 st0 hd0 hW hS hls hL hs
  obtain ⟨t1, rfl, g1⟩ := alS_int hs
  obtain ⟨t2, rfl, g2⟩ := alS_int g1
  obtain ⟨t3, rfl, g3⟩ := alS_ref g2
  obtain ⟨φ0, hφ, hP⟩ := hW
  refine va_cast (s := s.setDrawn d) hx hb hE.1 hP (hE.2.2.2.2 σ φ0) hS q0 2 (he φ0) rfl hin hd (fun H1 locs1 hP1 hD1 hS1 => ?_)
  rw [he2] at hP1
  exact k d H1 locs1 ls l0 _ hd0 ⟨φ0, hφ, hP1⟩ hS1 hls hL g3
theorem g_fast (C : Cx K l D ad dA z0 tt cc own nL R) {a n : Nat} (q0 : Nat) (he : ∀ φ0 : Fl, (wJ ad dA σ φ0)[q0]? = some (a, .inl (dA 3, n, .inr (.inr (.inl (φ0 q0)))))) {i : Int32} {x : UInt32} (hin : vp_in i n) (he2 : ∀ (φ0 : Fl) (g : Nat → UInt32), (wJ ad dA σ φ0).set q0 (a, .inl (dA 3, n, .inr (.inr (.inl g)))) = wJ ad dA σ (va_up φ0 q0 g)) (hd : decode cc pc = .ok (.fastore, 1)) (k : K σ (va_up φ q0 (vf_upd (φ q0) i.toNatClampNeg x)) (pc + 1) lv st) : K σ φ pc lv (.float x :: .int i :: .ref a :: st) := by
  obtain ⟨p, e, s, m, args, below, meth, c, Q, cells, slots, rfl, hx, hb, hml, hown, hts, hE, hcl, hsl⟩ := C
  intro d H locs ls l0 st0 hd0 hW hS hls hL hs
  obtain ⟨x1, t1, rfl, e1, g1⟩ := alS_flt hs
  obtain ⟨t2, rfl, g2⟩ := alS_int g1
  obtain ⟨t3, rfl, g3⟩ := alS_ref g2
  obtain ⟨φ0, hφ, hP⟩ := hW
  refine va_fast (s := s.setDrawn d) hx hb hE.1 hP (hE.2.2.2.2 σ φ0) hS q0 3 (he φ0) rfl hin hd (fun H1 locs1 hP1 hD1 hS1 => ?_)
  rw [he2] at hP1
  exact k d H1 locs1 ls l0 _ hd0 ⟨_, alF_up hφ _ _ e1, hP1⟩ hS1 hls hL g3
theorem g_aald_rows (C : Cx K l D ad dA z0 tt cc own nL R) {i : Int32} (hin : vp_in i 8) (hd : decode cc pc = .ok (.aaload, 1)) (k : K σ φ (pc + 1) lv (.ref (ad (17 + i.toNatClampNeg)) :: st)) : K σ φ pc lv (.int i :: .ref (ad 16) :: st) := by
  obtain ⟨p, e, s, m, args, below, meth, c, Q, cells, slots, rfl, hx, hb, hml, hown, hts, hE, hcl, hsl⟩ := C
  intro d H locs ls l0 st0 hd0 hW hS hls hL hs
  obtain ⟨t1, rfl, g1⟩ := alS_int hs
  obtain ⟨t2, rfl, g2⟩ := alS_ref g1
  obtain ⟨φ0, hφ, hP⟩ := hW
  have hlt : i.toNatClampNeg < 8 := Nat.not_le.mp fun q => hin (Or.inr q)
  have hv : va_rf (if i.toNatClampNeg < 8 then some (ad (17 + i.toNatClampNeg)) else none) = .ref (ad (17 + i.toNatClampNeg)) := by rw [if_pos hlt]; rfl
  refine W.aald (s := s.setDrawn d) (v := va_rf (if i.toNatClampNeg < 8 then some (ad (17 + i.toNatClampNeg)) else none)) (ty := .array .int) hx hb (hP 16 _ (at_16 ad dA σ φ0)) ((hE.1.2 4 _ rfl).1 8 (fun j => va_rf (if j < 8 then some (ad (17 + j)) else none))) rfl (fun q => by cases q) (by show ¬ (i < 0 ∨ (arrV _ _ _).slots.size ≤ _); rw [arrV_size]; exact hin) (by show (arrV _ _ _).slots[_]? = _; rw [arrV_read _ _ hlt]) rfl rfl hd ?_
  rw [hv]
  exact k d H locs ls l0 _ hd0 ⟨φ0, hφ, hP⟩ hS hls hL ⟨rfl, g2⟩
theorem g_gets (C : Cx K l D ad dA z0 tt cc own nL R) {C0 n0 d0 ref host : String} {v : Value} {index : Nat} (hZ : ∀ (s : State), STz tt (fun q => z0 ≤ q) s s.heap → va_Z C0 n0 d0 v (fun q => z0 ≤ q) s s.heap) (hlink : Cond.fieldLink own index ref n0 d0 ∈ lw_all) (hsame : ref = C0) (hd : decode cc pc = .ok (.getstatic index, 3)) (k : K σ φ (pc + 3) lv (v :: st)) : K σ φ pc lv st := by
  obtain ⟨p, e, s, m, args, below, meth, c, Q, cells, slots, rfl, hx, hb, hml, hown, hts, hE, hcl, hsl⟩ := C
  intro d H locs ls l0 st0 hd0 hW hS hls hL hs
  subst hsame
  exact va_gets (s := s.setDrawn d) hx hb (hZ (s.setDrawn d) (hE.drawn d).2.2.1) hS hown (dr_words hts d _ hlink) (fun _ h => h) hd (k d H locs ls l0 _ hd0 hW hS hls hL ⟨alV_rf v, hs⟩)
theorem g_ti (C : Cx K l D ad dA z0 tt cc own nL R) {t N : Nat} {f : Nat → Int32} (hT : ∀ (s : State), STz tt (fun q => z0 ≤ q) s s.heap → va_T .int t N (fun j => .int (f j)) (fun q => z0 ≤ q) s s.heap) {i : Int32} (hin : vp_in i N) (hd : decode cc pc = .ok (.iaload, 1)) (k : K σ φ (pc + 1) lv (.int (f i.toNatClampNeg) :: st)) : K σ φ pc lv (.int i :: .ref t :: st) := by
  obtain ⟨p, e, s, m, args, below, meth, c, Q, cells, slots, rfl, hx, hb, hml, hown, hts, hE, hcl, hsl⟩ := C
  intro d H locs ls l0 st0 hd0 hW hS hls hL hs
  obtain ⟨t1, rfl, g1⟩ := alS_int hs
  obtain ⟨t2, rfl, g2⟩ := alS_ref g1
  exact va_ti (s := s.setDrawn d) hx hb (hT (s.setDrawn d) (hE.drawn d).2.2.1) hS hin rfl hd (k d H locs ls l0 _ hd0 hW hS hls hL ⟨rfl, g2⟩)
theorem g_tc (C : Cx K l D ad dA z0 tt cc own nL R) {t N : Nat} {f : Nat → Int32} (hT : ∀ (s : State), STz tt (fun q => z0 ≤ q) s s.heap → va_T .char t N (fun j => .int (f j)) (fun q => z0 ≤ q) s s.heap) {i : Int32} (hin : vp_in i N) (hd : decode cc pc = .ok (.caload, 1)) (k : K σ φ (pc + 1) lv (.int (f i.toNatClampNeg) :: st)) : K σ φ pc lv (.int i :: .ref t :: st) := by
  obtain ⟨p, e, s, m, args, below, meth, c, Q, cells, slots, rfl, hx, hb, hml, hown, hts, hE, hcl, hsl⟩ := C
  intro d H locs ls l0 st0 hd0 hW hS hls hL hs
  obtain ⟨t1, rfl, g1⟩ := alS_int hs
  obtain ⟨t2, rfl, g2⟩ := alS_ref g1
  exact va_tc (s := s.setDrawn d) hx hb (hT (s.setDrawn d) (hE.drawn d).2.2.1) hS hin rfl hd (k d H locs ls l0 _ hd0 hW hS hls hL ⟨rfl, g2⟩)
theorem g_tlen (C : Cx K l D ad dA z0 tt cc own nL R) {t N : Nat} {ty : FieldType} {f : Nat → Int32} (hT : ∀ (s : State), STz tt (fun q => z0 ≤ q) s s.heap → va_T ty t N (fun j => .int (f j)) (fun q => z0 ≤ q) s s.heap) {v : Int32} (hv : Int32.ofNat N = v) (hd : decode cc pc = .ok (.arraylength, 1)) (k : K σ φ (pc + 1) lv (.int v :: st)) : K σ φ pc lv (.ref t :: st) := by
  obtain ⟨p, e, s, m, args, below, meth, c, Q, cells, slots, rfl, hx, hb, hml, hown, hts, hE, hcl, hsl⟩ := C
  intro d H locs ls l0 st0 hd0 hW hS hls hL hs
  obtain ⟨t1, rfl, g1⟩ := alS_ref hs
  exact va_tlen (s := s.setDrawn d) hx hb (hT (s.setDrawn d) (hE.drawn d).2.2.1) hS hv hd (k d H locs ls l0 _ hd0 hW hS hls hL ⟨rfl, g1⟩)
theorem g_alen (C : Cx K l D ad dA z0 tt cc own nL R) {a n : Nat} {cA : ClassId} {f : Nat → Int32} (q0 t0 : Nat) {ty : FieldType} (he : ∀ φ0 : Fl, (wJ ad dA σ φ0)[q0]? = some (a, .inl (cA, n, .inl f))) (ht0 : (tyA dA)[t0]? = some (cA, ty)) {v : Int32} (hv : Int32.ofNat n = v) (hd : decode cc pc = .ok (.arraylength, 1)) (k : K σ φ (pc + 1) lv (.int v :: st)) : K σ φ pc lv (.ref a :: st) := by
  obtain ⟨p, e, s, m, args, below, meth, c, Q, cells, slots, rfl, hx, hb, hml, hown, hts, hE, hcl, hsl⟩ := C
  intro d H locs ls l0 st0 hd0 hW hS hls hL hs
  obtain ⟨t1, rfl, g1⟩ := alS_ref hs
  obtain ⟨φ0, hφ, hP⟩ := hW
  exact va_alen (s := s.setDrawn d) hx hb hE.1 hP q0 t0 (he φ0) ht0 hv hd (k d H locs ls l0 _ hd0 ⟨φ0, hφ, hP⟩ hS hls hL ⟨rfl, g1⟩)
theorem g_abs (C : Cx K l D ad dA z0 tt cc own nL R) {index : Nat} (m1 : Cond.methodLink own index Lib.Math.abs.name ∈ lw_all) (m2 : Cond.static Lib.Math.abs.name ∈ lw_all) (m3 : Cond.initialized "java/lang/Math" ∈ lw_all) (m4 : Cond.code Lib.Math.abs.name Lib.Math.abs.code 1 (some .int) ∈ lw_all) (hfr : 1 ≤ R.frames) (hlo : (st.map fun v => v.category).sum + 13 ≤ R.locals) {x : Int32} (hd : decode cc pc = .ok (.invokestatic index, 3)) (k : K σ φ (pc + 3) lv (.int (if 0 ≤ x then x else 0 - x) :: st)) : K σ φ pc lv (.int x :: st) := by
  obtain ⟨p, e, s, m, args, below, meth, c, Q, cells, slots, rfl, hx, hb, hml, hown, hts, hE, hcl, hsl⟩ := C
  intro d H locs ls l0 st0 hd0 hW hS hls hL hs
  obtain ⟨t1, rfl, g1⟩ := alS_int hs
  exact va_mabs (s := s.setDrawn d) hx hb (hml.trans hls.1.symm) hown (dr_words hts d _ m1) (dr_words hts d _ m2) (dr_words hts d _ m3) (dr_words hts d _ m4) hfr (by rw [alS_cat g1]; exact hlo) hcl hsl hd (k d H locs ls l0 _ hd0 hW hS hls hL ⟨rfl, g1⟩)
theorem g_copyi (C : Cx K l D ad dA z0 tt cc own nL R) {index a0 a n0 n1 : Nat} {f g : Nat → Int32} (m1 : Cond.methodLink own index arraycopyName ∈ lw_all) (m2 : Cond.native arraycopyName ∈ lw_all) (m3 : Cond.static arraycopyName ∈ lw_all) (m4 : Cond.initialized "java/lang/System" ∈ lw_all) (q0 q1 : Nat) (he0 : ∀ φ0 : Fl, (wJ ad dA σ φ0)[q0]? = some (a0, .inl (dA 0, n0, .inl f))) (he1 : ∀ φ0 : Fl, (wJ ad dA σ φ0)[q1]? = some (a, .inl (dA 0, n1, .inl g)))
    {sp dp n : Int32} (h1 : ¬ sp < 0) (h2 : ¬ dp < 0) (h3 : ¬ n < 0) (h4 : sp.toNatClampNeg + n.toNatClampNeg ≤ n0) (h5 : dp.toNatClampNeg + n.toNatClampNeg ≤ n1) (hfr : 1 ≤ R.frames) (hlo : (st.map fun v => v.category).sum + (nativeFrameWords "java/lang/System" "arraycopy" 5 + 11) ≤ R.locals) {σ1 : Sg} (he2 : ∀ φ0 : Fl, (wJ ad dA σ φ0).set q1 (a, .inl (dA 0, n1, .inl (va_cpy f g sp.toNatClampNeg dp.toNatClampNeg n.toNatClampNeg))) = wJ ad dA σ1 φ0) (hd : decode cc pc = .ok (.invokestatic index, 3)) (k : K σ1 φ (pc + 3) lv st) : K σ φ pc lv (.int n :: .int dp :: .ref a :: .int sp :: .ref a0 :: st) := by
  obtain ⟨p, e, s, m, args, below, meth, c, Q, cells, slots, rfl, hx, hb, hml, hown, hts, hE, hcl, hsl⟩ := C
  intro d H locs ls l0 st0 hd0 hW hS hls hL hs
  obtain ⟨t1, rfl, g1⟩ := alS_int hs
  obtain ⟨t2, rfl, g2⟩ := alS_int g1
  obtain ⟨t3, rfl, g3⟩ := alS_ref g2
  obtain ⟨t4, rfl, g4⟩ := alS_int g3
  obtain ⟨t5, rfl, g5⟩ := alS_ref g4
  obtain ⟨φ0, hφ, hP⟩ := hW
  refine va_copyi (s := s.setDrawn d) hx hb (hml.trans hls.1.symm) hown (dr_words hts d _ m1) (dr_words hts d _ m2) (dr_words hts d _ m3) (dr_words hts d _ m4) hE.1 hP (hE.2.2.2.2 σ φ0) hS q0 q1 0 0 (he0 φ0) (he1 φ0) rfl rfl rfl h1 h2 h3 h4 h5 (fun i _ => rfl) hfr (by rw [alS_cat g5]; exact hlo) hd (fun H1 locs1 hP1 hD1 hS1 => ?_)
  rw [he2] at hP1
  exact k d H1 locs1 ls l0 _ hd0 ⟨φ0, hφ, hP1⟩ hS1 hls hL g5
end RULES
end
section
/-! one place of the world is written -/
def sw (σ : Sg) (k i : Nat) (v : Int32) : Sg := va_up σ k (upd (σ k) i v)
def fw (φ : Fl) (k i : Nat) (v : UInt32) : Fl := va_up φ k (vf_upd (φ k) i v)
/-! calls -/
section CALLS
variable {K : KT} {l : Launch} {D : va_G} {ad : Nat → Nat} {dA : Nat → ClassId} {z0 : Nat} {tt : Nat → Nat} {cc : ByteArray} {own : String} {nL : Nat} {R : Room} {σ : Sg} {φ : Fl} {pc : Nat} {lv : List (Nat × Value)} {st : List Value}
theorem gw_in {w : Cond} (h : w ∈ lw_all) : w ∈ lw_all ∧ ((w.onTables && w.keeps) = true ∨ ∃ ty, w = .arrayClass ty) := ⟨h, good_of_word (List.mem_filter.mp h).2⟩
theorem gw_V {own Cn : String} {idx : Nat} {y : MethodName} {bytes : ByteArray} {maxL : Nat} {ret : Option FieldType} (m1 : Cond.methodLink own idx y ∈ lw_all) (m2 : Cond.instanceMethod y ∈ lw_all) (m3 : Cond.selects Cn y y ∈ lw_all) (m4 : Cond.initialized Cn ∈ lw_all) (m5 : Cond.code y bytes maxL ret ∈ lw_all) : GoodIn lw_all (wsV own idx Cn y (Cond.code y bytes maxL ret :: lw_all)) := by
  intro w hw
  unfold wsV at hw
  rcases List.mem_append.mp hw with h | h
  · simp only [List.mem_cons, List.not_mem_nil, or_false] at h
    rcases h with rfl | rfl | rfl | rfl
    · exact gw_in m1
    · exact gw_in m2
    · exact gw_in m3
    · exact gw_in m4
  · rcases List.mem_cons.mp h with rfl | h
    · exact gw_in m5
    · exact gw_in h
theorem gw_S {own : String} {idx : Nat} {y : MethodName} {bytes : ByteArray} {maxL : Nat} {ret : Option FieldType} (m1 : Cond.methodLink own idx y ∈ lw_all) (m2 : Cond.static y ∈ lw_all) (m3 : Cond.initialized y.cls ∈ lw_all) (m5 : Cond.code y bytes maxL ret ∈ lw_all) : GoodIn lw_all (va_wsS own idx y (Cond.code y bytes maxL ret :: lw_all)) := by
  intro w hw
  unfold va_wsS at hw
  rcases List.mem_append.mp hw with h | h
  · simp only [List.mem_cons, List.not_mem_nil, or_false] at h
    rcases h with rfl | rfl | rfl
    · exact gw_in m1
    · exact gw_in m2
    · exact gw_in m3
  · rcases List.mem_cons.mp h with rfl | h
    · exact gw_in m5
    · exact gw_in h
theorem gw_C {y : MethodName} {bytes : ByteArray} {maxL : Nat} {ret : Option FieldType} (m5 : Cond.code y bytes maxL ret ∈ lw_all) : GoodIn lw_all (Cond.code y bytes maxL ret :: lw_all) := by
  intro w hw
  rcases List.mem_cons.mp hw with rfl | h
  · exact gw_in m5
  · exact gw_in h
/-- behind a call -/
theorem g_run {p : Program} {e : Env} {s : State} {m : MethodId} {args : Array Value} {below : List Frame} {meth : Method} {c : Code} {Q : State → Prop} {cells slots : Nat} {P : Option Value → Sg → Fl → Prop} {d : Drawn} {H : Heap} {locs : List Loc} {ls : Array Slot} {l0 : List (Nat × Value)} {stk t1 : List Value} {a : Array Value}
    (hd0 : s.drawn.sameBut d lw_cs) (hS : va_S (fun q => z0 ≤ q) s.heap H locs) (hls : lv_has ls nL l0) (hL : alL l0 lv) (hs : alS t1 st)
    (hrun : va_RunD lw_cs p l e R (s.setDrawn d) m args below meth c H locs cells slots 0 0 (F0 m pc ls stk) t1 (QcG D ad dA z0 P a) (fun q => z0 ≤ q))
    (kk : ∀ (rv : Option Value) (σ' : Sg) (φ' : Fl), P rv σ' φ' → GK p l e R s m args below meth c Q nL z0 D ad dA cells slots σ' φ' (pc + 3) lv (rv.toList ++ st)) : W p l e R (s.setDrawn d) m args below meth c H locs cells slots Q (F0 m pc ls stk) := by
  intro T hT X
  obtain ⟨v, st₀, t, T', L, d', hd', h0, X', hL', e1, e2, ⟨⟨rv0, rv, σ', φ', hv, ho, hp, hw⟩, hz, hk⟩, stp⟩ := hrun T hT X
  cases hv
  rw [h0] at hz hk
  obtain ⟨t2, a1, b1⟩ := kk rv σ' φ' hp d' T'.heap (locs ++ L) ls l0 _ (hd0.trans hd') (by rw [e1]; exact hw)
    ⟨Nat.le_trans hS.1 (by rw [e1]; exact hz), fun q h1 h2 => by rw [e1, hk q (Nat.lt_of_lt_of_le h1 hS.1) h2]; exact hS.2.1 q h1 h2, fun q hq => by
      rcases List.mem_append.mp hq with h | h
      · exact hS.2.2 q h
      · exact hL' q h⟩ hls hL (alS_app ho hs) T' rfl X'
  exact ⟨t2, stp t2 a1, b1⟩
theorem g_callV (C : Cx K l D ad dA z0 tt cc own nL R) {y : MethodName} {bytes : ByteArray} {maxL idx b n : Nat} {ret : Option FieldType} {rm : Room} {As : List Value} {P : Option Value → Sg → Fl → Prop} {Cn : String} (hM : MC l D ad dA z0 tt y (Cond.code y bytes maxL ret :: lw_all) rm (.ref b :: As) σ φ P) (hn : As.length = n)
    (m1 : Cond.methodLink own idx y ∈ lw_all) (m2 : Cond.instanceMethod y ∈ lw_all) (m3 : Cond.selects Cn y y ∈ lw_all) (m4 : Cond.initialized Cn ∈ lw_all) (m5 : Cond.code y bytes maxL ret ∈ lw_all)
    (hdY : y.cls = Cn ∧ y.cls ≠ "java/lang/invoke/MethodHandle" ∧ y.cls ≠ "java/lang/invoke/VarHandle" ∧ (parseMethodDescriptor y.desc).map (fun d => d.parameters.length) = some n) (hrc : rm.cells = 0) (hrs : rm.slots = 0) (hR : rm.frames + 1 ≤ R.frames ∧ 8 + (maxL + 11) + rm.locals ≤ R.locals)
    (q0 ci : Nat) {fs : List Value} {T : u_T} {N : Nat} (he : ∀ φ0 : Fl, (wJ ad dA σ φ0)[q0]? = some (b, .inr (ci, fs))) (hc : vwCl[ci]? = some (Cn, T, N))
    (hdg : decode cc pc = .ok (.invokevirtual idx, 3)) {stk : List Value} (hstk : stk = As.reverse ++ .ref b :: st) (hroom : (st.map fun v => v.category).sum ≤ 8)
    (kk : ∀ (rv : Option Value) (σ' : Sg) (φ' : Fl), P rv σ' φ' → K σ' φ' (pc + 3) lv (rv.toList ++ st)) : K σ φ pc lv stk := by
  obtain ⟨p, e, s, m, args, below, meth, c, Q, cells, slots, rfl, hx, hb, hml, hown, hts, hE, hcl, hsl⟩ := C
  intro d H locs ls l0 st0 hd0 hW hS hls hL hs
  subst hstk
  obtain ⟨a0, b0, rfl, g1, g2⟩ := alS_split hs
  obtain ⟨t1, rfl, g3⟩ := alS_ref g2
  have ga : alS a0.reverse As := by have := alS_rev g1; rw [List.reverse_reverse] at this; exact this
  obtain ⟨φ0, hφ, hP⟩ := hW
  refine g_run hd0 hS hls hL g3 (va_runV_D (s := s.setDrawn d) (nL := nL) (As := a0.reverse) ⟨hx, hb, hml, hown, dr_words hts d⟩ hM (cwV n (dr_words hts d) (gw_V m1 m2 m3 m4 m5) rfl hrc hrs hdY hR) ⟨PcG.blind, va_recv hE.1 hP hc (he φ0), fun U hU hWm => ⟨⟨.ref b :: a0.reverse, rfl, rfl, ga⟩, (hE.drawn d).calls hS hU hWm, by rw [hU]; exact ⟨φ0, hφ, hP⟩⟩⟩ rfl ((alS_len ga).trans hn) hls.1 (by rw [List.reverse_reverse]) (lv_room (by rw [alS_cat g3]; exact hroom)) hdg ⟨hcl, hsl⟩) kk
theorem g_callS (C : Cx K l D ad dA z0 tt cc own nL R) {y : MethodName} {bytes : ByteArray} {maxL idx n : Nat} {ret : Option FieldType} {rm : Room} {As : List Value} {P : Option Value → Sg → Fl → Prop} (hM : MC l D ad dA z0 tt y (Cond.code y bytes maxL ret :: lw_all) rm As σ φ P) (hn : As.length = n)
    (m1 : Cond.methodLink own idx y ∈ lw_all) (m2 : Cond.static y ∈ lw_all) (m3 : Cond.initialized y.cls ∈ lw_all) (m5 : Cond.code y bytes maxL ret ∈ lw_all)
    (hdY : y.cls ≠ "java/lang/invoke/MethodHandle" ∧ y.cls ≠ "java/lang/invoke/VarHandle" ∧ (parseMethodDescriptor y.desc).map (fun d => d.parameters.length) = some n) (hrc : rm.cells = 0) (hrs : rm.slots = 0) (hR : rm.frames + 1 ≤ R.frames ∧ 8 + (maxL + 11) + rm.locals ≤ R.locals)
    (hdg : decode cc pc = .ok (.invokestatic idx, 3)) {stk : List Value} (hstk : stk = As.reverse ++ st) (hroom : (st.map fun v => v.category).sum ≤ 8)
    (kk : ∀ (rv : Option Value) (σ' : Sg) (φ' : Fl), P rv σ' φ' → K σ' φ' (pc + 3) lv (rv.toList ++ st)) : K σ φ pc lv stk := by
  obtain ⟨p, e, s, m, args, below, meth, c, Q, cells, slots, rfl, hx, hb, hml, hown, hts, hE, hcl, hsl⟩ := C
  intro d H locs ls l0 st0 hd0 hW hS hls hL hs
  subst hstk
  obtain ⟨a0, t1, rfl, g1, g3⟩ := alS_split hs
  have ga : alS a0.reverse As := by have := alS_rev g1; rw [List.reverse_reverse] at this; exact this
  refine g_run hd0 hS hls hL g3 (va_runS_D (s := s.setDrawn d) (nL := nL) (As := a0.reverse) ⟨hx, hb, hml, hown, dr_words hts d⟩ hM (va_cwS n (dr_words hts d) (gw_S m1 m2 m3 m5) rfl hrc hrs hdY hR) ⟨PcG.blind, fun U hU hWm => ⟨⟨a0.reverse, rfl, ga⟩, (hE.drawn d).calls hS hU hWm, by rw [hU]; exact hW⟩⟩ rfl ((alS_len ga).trans hn) hls.1 (by rw [List.reverse_reverse]) (lv_room (by rw [alS_cat g3]; exact hroom)) hdg ⟨hcl, hsl⟩) kk
theorem g_callSN (C : Cx K l D ad dA z0 tt cc own nL R) {y : MethodName} {host : String} {bytes : ByteArray} {maxL idx n : Nat} {ret : Option FieldType} {rm : Room} {As : List Value} {P : Option Value → Sg → Fl → Prop} (hM : MC l D ad dA z0 tt y (Cond.code y bytes maxL ret :: lw_all) rm As σ φ P) (hn : As.length = n)
    (m1 : Cond.methodLinkNest own idx y host ∈ lw_nest) (m2 : Cond.static y ∈ lw_all) (m3 : Cond.initialized y.cls ∈ lw_all) (m5 : Cond.code y bytes maxL ret ∈ lw_all)
    (hdY : y.cls ≠ "java/lang/invoke/MethodHandle" ∧ y.cls ≠ "java/lang/invoke/VarHandle" ∧ (parseMethodDescriptor y.desc).map (fun d => d.parameters.length) = some n) (hrc : rm.cells = 0) (hrs : rm.slots = 0) (hR : rm.frames + 1 ≤ R.frames ∧ 8 + (maxL + 11) + rm.locals ≤ R.locals)
    (hdg : decode cc pc = .ok (.invokestatic idx, 3)) {stk : List Value} (hstk : stk = As.reverse ++ st) (hroom : (st.map fun v => v.category).sum ≤ 8)
    (kk : ∀ (rv : Option Value) (σ' : Sg) (φ' : Fl), P rv σ' φ' → K σ' φ' (pc + 3) lv (rv.toList ++ st)) : K σ φ pc lv stk := by
  obtain ⟨p, e, s, m, args, below, meth, c, Q, cells, slots, rfl, hx, hb, hml, hown, hts, hE, hcl, hsl⟩ := C
  intro d H locs ls l0 st0 hd0 hW hS hls hL hs
  subst hstk
  obtain ⟨a0, t1, rfl, g1, g3⟩ := alS_split hs
  have ga : alS a0.reverse As := by have := alS_rev g1; rw [List.reverse_reverse] at this; exact this
  refine g_run hd0 hS hls hL g3 (va_runSN_D (s := s.setDrawn d) (nL := nL) (As := a0.reverse) ⟨hx, hb, hml, hown, dr_words hts d⟩ hM ⟨va_cnB n (dr_words hts d) (gw_C m5) rfl hrc hrs ((hE.drawn d).2.1 _ m1) (dr_words hts d _ m3) hdY hR, dr_words hts d _ m2, True.intro⟩ ⟨PcG.blind, fun U hU hWm => ⟨⟨a0.reverse, rfl, ga⟩, (hE.drawn d).calls hS hU hWm, by rw [hU]; exact hW⟩⟩ rfl ((alS_len ga).trans hn) hls.1 (by rw [List.reverse_reverse]) (lv_room (by rw [alS_cat g3]; exact hroom)) hdg ⟨hcl, hsl⟩) kk
/-- what comes back is known -/
theorem g_fn {rv : Option Value} {σ1 : Sg} {φ1 : Fl} (k : K σ1 φ1 (pc + 3) lv (rv.toList ++ st)) : ∀ (r : Option Value) (σ' : Sg) (φ' : Fl), Fn rv σ1 φ1 r σ' φ' → K σ' φ' (pc + 3) lv (r.toList ++ st) := by
  rintro r σ' φ' ⟨rfl, rfl, rfl⟩
  exact k
theorem g_fni {r : Int32} {σ1 : Sg} {φ1 : Fl} (k : K σ1 φ1 (pc + 3) lv (.int r :: st)) : ∀ (r' : Option Value) (σ' : Sg) (φ' : Fl), Fn (some (.int r)) σ1 φ1 r' σ' φ' → K σ' φ' (pc + 3) lv (r'.toList ++ st) := g_fn k
theorem g_fnf {r : UInt32} {σ1 : Sg} {φ1 : Fl} (k : K σ1 φ1 (pc + 3) lv (.float r :: st)) : ∀ (r' : Option Value) (σ' : Sg) (φ' : Fl), Fn (some (.float r)) σ1 φ1 r' σ' φ' → K σ' φ' (pc + 3) lv (r'.toList ++ st) := g_fn k
theorem g_fnv {σ1 : Sg} {φ1 : Fl} (k : K σ1 φ1 (pc + 3) lv st) : ∀ (r' : Option Value) (σ' : Sg) (φ' : Fl), Fn none σ1 φ1 r' σ' φ' → K σ' φ' (pc + 3) lv (r'.toList ++ st) := g_fn k
end CALLS
/-! the rules cell by cell -/
section CELLS
variable {K : KT} {l : Launch} {D : va_G} {ad : Nat → Nat} {dA : Nat → ClassId} {z0 : Nat} {tt : Nat → Nat} {cc : ByteArray} {own : String} {nL : Nat} {R : Room} {σ : Sg} {φ : Fl} {pc : Nat} {lv : List (Nat × Value)} {st : List Value}
theorem gg_0_0 (C : Cx K l D ad dA z0 tt cc own nL R) {index : Nat} (hl : Cond.fieldLink own index "CompositeDecoder" "picture" "LCompositeDecoder$Picture;" ∈ lw_all) (hd : decode cc pc = .ok (.getfield index, 3)) (k : K σ φ (pc + 3) lv (.ref (ad 1) :: st)) : K σ φ pc lv (.ref (ad 0) :: st) := g_get C (T := TX10) iu_10 0 (fun f => at_0 ad dA σ f) rfl 0 (by decide) hl rfl rfl hd k
theorem ggN_0_0 (C : Cx K l D ad dA z0 tt cc own nL R) {host : String} {index : Nat} (hl : Cond.fieldLinkNest own index "CompositeDecoder" "picture" "LCompositeDecoder$Picture;" host ∈ lw_nest) (hd : decode cc pc = .ok (.getfield index, 3)) (k : K σ φ (pc + 3) lv (.ref (ad 1) :: st)) : K σ φ pc lv (.ref (ad 0) :: st) := g_getN C (T := TX10) iu_10 0 (fun f => at_0 ad dA σ f) rfl 0 (by decide) hl rfl rfl hd k
theorem gg_0_1 (C : Cx K l D ad dA z0 tt cc own nL R) {index : Nat} (hl : Cond.fieldLink own index "CompositeDecoder" "text" "LCompositeDecoder$BarText;" ∈ lw_all) (hd : decode cc pc = .ok (.getfield index, 3)) (k : K σ φ (pc + 3) lv (.ref (ad 10) :: st)) : K σ φ pc lv (.ref (ad 0) :: st) := g_get C (T := TX10) iu_10 0 (fun f => at_0 ad dA σ f) rfl 1 (by decide) hl rfl rfl hd k
theorem ggN_0_1 (C : Cx K l D ad dA z0 tt cc own nL R) {host : String} {index : Nat} (hl : Cond.fieldLinkNest own index "CompositeDecoder" "text" "LCompositeDecoder$BarText;" host ∈ lw_nest) (hd : decode cc pc = .ok (.getfield index, 3)) (k : K σ φ (pc + 3) lv (.ref (ad 10) :: st)) : K σ φ pc lv (.ref (ad 0) :: st) := g_getN C (T := TX10) iu_10 0 (fun f => at_0 ad dA σ f) rfl 1 (by decide) hl rfl rfl hd k
theorem gg_0_2 (C : Cx K l D ad dA z0 tt cc own nL R) {index : Nat} (hl : Cond.fieldLink own index "CompositeDecoder" "settings" "LCompositeDecoder$Settings;" ∈ lw_all) (hd : decode cc pc = .ok (.getfield index, 3)) (k : K σ φ (pc + 3) lv (.ref (ad 13) :: st)) : K σ φ pc lv (.ref (ad 0) :: st) := g_get C (T := TX10) iu_10 0 (fun f => at_0 ad dA σ f) rfl 2 (by decide) hl rfl rfl hd k
theorem ggN_0_2 (C : Cx K l D ad dA z0 tt cc own nL R) {host : String} {index : Nat} (hl : Cond.fieldLinkNest own index "CompositeDecoder" "settings" "LCompositeDecoder$Settings;" host ∈ lw_nest) (hd : decode cc pc = .ok (.getfield index, 3)) (k : K σ φ (pc + 3) lv (.ref (ad 13) :: st)) : K σ φ pc lv (.ref (ad 0) :: st) := g_getN C (T := TX10) iu_10 0 (fun f => at_0 ad dA σ f) rfl 2 (by decide) hl rfl rfl hd k
theorem gg_0_3 (C : Cx K l D ad dA z0 tt cc own nL R) {index : Nat} (hl : Cond.fieldLink own index "CompositeDecoder" "signal" "LCompositeDecoder$Signal;" ∈ lw_all) (hd : decode cc pc = .ok (.getfield index, 3)) (k : K σ φ (pc + 3) lv (.ref (ad 15) :: st)) : K σ φ pc lv (.ref (ad 0) :: st) := g_get C (T := TX10) iu_10 0 (fun f => at_0 ad dA σ f) rfl 3 (by decide) hl rfl rfl hd k
theorem ggN_0_3 (C : Cx K l D ad dA z0 tt cc own nL R) {host : String} {index : Nat} (hl : Cond.fieldLinkNest own index "CompositeDecoder" "signal" "LCompositeDecoder$Signal;" host ∈ lw_nest) (hd : decode cc pc = .ok (.getfield index, 3)) (k : K σ φ (pc + 3) lv (.ref (ad 15) :: st)) : K σ φ pc lv (.ref (ad 0) :: st) := g_getN C (T := TX10) iu_10 0 (fun f => at_0 ad dA σ f) rfl 3 (by decide) hl rfl rfl hd k
theorem gg_0_4 (C : Cx K l D ad dA z0 tt cc own nL R) {index : Nat} (hl : Cond.fieldLink own index "CompositeDecoder" "finder" "LCompositeDecoder$LineFinder;" ∈ lw_all) (hd : decode cc pc = .ok (.getfield index, 3)) (k : K σ φ (pc + 3) lv (.ref (ad 25) :: st)) : K σ φ pc lv (.ref (ad 0) :: st) := g_get C (T := TX10) iu_10 0 (fun f => at_0 ad dA σ f) rfl 4 (by decide) hl rfl rfl hd k
theorem ggN_0_4 (C : Cx K l D ad dA z0 tt cc own nL R) {host : String} {index : Nat} (hl : Cond.fieldLinkNest own index "CompositeDecoder" "finder" "LCompositeDecoder$LineFinder;" host ∈ lw_nest) (hd : decode cc pc = .ok (.getfield index, 3)) (k : K σ φ (pc + 3) lv (.ref (ad 25) :: st)) : K σ φ pc lv (.ref (ad 0) :: st) := g_getN C (T := TX10) iu_10 0 (fun f => at_0 ad dA σ f) rfl 4 (by decide) hl rfl rfl hd k
theorem gg_0_5 (C : Cx K l D ad dA z0 tt cc own nL R) {index : Nat} (hl : Cond.fieldLink own index "CompositeDecoder" "bursts" "LCompositeDecoder$Bursts;" ∈ lw_all) (hd : decode cc pc = .ok (.getfield index, 3)) (k : K σ φ (pc + 3) lv (.ref (ad 30) :: st)) : K σ φ pc lv (.ref (ad 0) :: st) := g_get C (T := TX10) iu_10 0 (fun f => at_0 ad dA σ f) rfl 5 (by decide) hl rfl rfl hd k
theorem ggN_0_5 (C : Cx K l D ad dA z0 tt cc own nL R) {host : String} {index : Nat} (hl : Cond.fieldLinkNest own index "CompositeDecoder" "bursts" "LCompositeDecoder$Bursts;" host ∈ lw_nest) (hd : decode cc pc = .ok (.getfield index, 3)) (k : K σ φ (pc + 3) lv (.ref (ad 30) :: st)) : K σ φ pc lv (.ref (ad 0) :: st) := g_getN C (T := TX10) iu_10 0 (fun f => at_0 ad dA σ f) rfl 5 (by decide) hl rfl rfl hd k
theorem gg_0_6 (C : Cx K l D ad dA z0 tt cc own nL R) {index : Nat} (hl : Cond.fieldLink own index "CompositeDecoder" "phases" "LCompositeDecoder$PhaseReference;" ∈ lw_all) (hd : decode cc pc = .ok (.getfield index, 3)) (k : K σ φ (pc + 3) lv (.ref (ad 35) :: st)) : K σ φ pc lv (.ref (ad 0) :: st) := g_get C (T := TX10) iu_10 0 (fun f => at_0 ad dA σ f) rfl 6 (by decide) hl rfl rfl hd k
theorem ggN_0_6 (C : Cx K l D ad dA z0 tt cc own nL R) {host : String} {index : Nat} (hl : Cond.fieldLinkNest own index "CompositeDecoder" "phases" "LCompositeDecoder$PhaseReference;" host ∈ lw_nest) (hd : decode cc pc = .ok (.getfield index, 3)) (k : K σ φ (pc + 3) lv (.ref (ad 35) :: st)) : K σ φ pc lv (.ref (ad 0) :: st) := g_getN C (T := TX10) iu_10 0 (fun f => at_0 ad dA σ f) rfl 6 (by decide) hl rfl rfl hd k
theorem gg_0_7 (C : Cx K l D ad dA z0 tt cc own nL R) {index : Nat} (hl : Cond.fieldLink own index "CompositeDecoder" "combs" "LCompositeDecoder$Combs;" ∈ lw_all) (hd : decode cc pc = .ok (.getfield index, 3)) (k : K σ φ (pc + 3) lv (.ref (ad 38) :: st)) : K σ φ pc lv (.ref (ad 0) :: st) := g_get C (T := TX10) iu_10 0 (fun f => at_0 ad dA σ f) rfl 7 (by decide) hl rfl rfl hd k
theorem ggN_0_7 (C : Cx K l D ad dA z0 tt cc own nL R) {host : String} {index : Nat} (hl : Cond.fieldLinkNest own index "CompositeDecoder" "combs" "LCompositeDecoder$Combs;" host ∈ lw_nest) (hd : decode cc pc = .ok (.getfield index, 3)) (k : K σ φ (pc + 3) lv (.ref (ad 38) :: st)) : K σ φ pc lv (.ref (ad 0) :: st) := g_getN C (T := TX10) iu_10 0 (fun f => at_0 ad dA σ f) rfl 7 (by decide) hl rfl rfl hd k
theorem gg_0_8 (C : Cx K l D ad dA z0 tt cc own nL R) {index : Nat} (hl : Cond.fieldLink own index "CompositeDecoder" "colors" "LCompositeDecoder$Colors;" ∈ lw_all) (hd : decode cc pc = .ok (.getfield index, 3)) (k : K σ φ (pc + 3) lv (.ref (ad 44) :: st)) : K σ φ pc lv (.ref (ad 0) :: st) := g_get C (T := TX10) iu_10 0 (fun f => at_0 ad dA σ f) rfl 8 (by decide) hl rfl rfl hd k
theorem ggN_0_8 (C : Cx K l D ad dA z0 tt cc own nL R) {host : String} {index : Nat} (hl : Cond.fieldLinkNest own index "CompositeDecoder" "colors" "LCompositeDecoder$Colors;" host ∈ lw_nest) (hd : decode cc pc = .ok (.getfield index, 3)) (k : K σ φ (pc + 3) lv (.ref (ad 44) :: st)) : K σ φ pc lv (.ref (ad 0) :: st) := g_getN C (T := TX10) iu_10 0 (fun f => at_0 ad dA σ f) rfl 8 (by decide) hl rfl rfl hd k
theorem gg_0_9 (C : Cx K l D ad dA z0 tt cc own nL R) {index : Nat} (hl : Cond.fieldLink own index "CompositeDecoder" "movement" "LCompositeDecoder$Movement;" ∈ lw_all) (hd : decode cc pc = .ok (.getfield index, 3)) (k : K σ φ (pc + 3) lv (.ref (ad 49) :: st)) : K σ φ pc lv (.ref (ad 0) :: st) := g_get C (T := TX10) iu_10 0 (fun f => at_0 ad dA σ f) rfl 9 (by decide) hl rfl rfl hd k
theorem ggN_0_9 (C : Cx K l D ad dA z0 tt cc own nL R) {host : String} {index : Nat} (hl : Cond.fieldLinkNest own index "CompositeDecoder" "movement" "LCompositeDecoder$Movement;" host ∈ lw_nest) (hd : decode cc pc = .ok (.getfield index, 3)) (k : K σ φ (pc + 3) lv (.ref (ad 49) :: st)) : K σ φ pc lv (.ref (ad 0) :: st) := g_getN C (T := TX10) iu_10 0 (fun f => at_0 ad dA σ f) rfl 9 (by decide) hl rfl rfl hd k
theorem gg_0_10 (C : Cx K l D ad dA z0 tt cc own nL R) {index : Nat} (hl : Cond.fieldLink own index "CompositeDecoder" "decodings" "I" ∈ lw_all) (hd : decode cc pc = .ok (.getfield index, 3)) (k : K σ φ (pc + 3) lv (.int (σ 0 10) :: st)) : K σ φ pc lv (.ref (ad 0) :: st) := g_get C (T := TX10) iu_10 0 (fun f => at_0 ad dA σ f) rfl 10 (by decide) hl rfl rfl hd k
theorem gp_0_10 (C : Cx K l D ad dA z0 tt cc own nL R) {index : Nat} {x : Int32} (hl : Cond.fieldLink own index "CompositeDecoder" "decodings" "I" ∈ lw_all) (hd : decode cc pc = .ok (.putfield index, 3)) (k : K (sw σ 0 10 x) φ (pc + 3) lv st) : K σ φ pc lv (.int x :: .ref (ad 0) :: st) := g_put C (T := TX10) (ty := .int) iu_10 tyX10 tyX10_ok nmX10 0 (fun f => at_0 ad dA σ f) rfl 10 (by decide) hl rfl rfl rfl rfl rfl (Nat.le_of_ble_eq_true rfl) (fun f => set_0_10 ad dA σ f x) hd k
theorem ggN_0_10 (C : Cx K l D ad dA z0 tt cc own nL R) {host : String} {index : Nat} (hl : Cond.fieldLinkNest own index "CompositeDecoder" "decodings" "I" host ∈ lw_nest) (hd : decode cc pc = .ok (.getfield index, 3)) (k : K σ φ (pc + 3) lv (.int (σ 0 10) :: st)) : K σ φ pc lv (.ref (ad 0) :: st) := g_getN C (T := TX10) iu_10 0 (fun f => at_0 ad dA σ f) rfl 10 (by decide) hl rfl rfl hd k
theorem gpN_0_10 (C : Cx K l D ad dA z0 tt cc own nL R) {host : String} {index : Nat} {x : Int32} (hl : Cond.fieldLinkNest own index "CompositeDecoder" "decodings" "I" host ∈ lw_nest) (hd : decode cc pc = .ok (.putfield index, 3)) (k : K (sw σ 0 10 x) φ (pc + 3) lv st) : K σ φ pc lv (.int x :: .ref (ad 0) :: st) := g_putN C (T := TX10) (ty := .int) iu_10 tyX10 tyX10_ok nmX10 0 (fun f => at_0 ad dA σ f) rfl 10 (by decide) hl rfl rfl rfl rfl rfl (Nat.le_of_ble_eq_true rfl) (fun f => set_0_10 ad dA σ f x) hd k
theorem gg_1_0 (C : Cx K l D ad dA z0 tt cc own nL R) {index : Nat} (hl : Cond.fieldLink own index "CompositeDecoder$Picture" "lumas" "[I" ∈ lw_all) (hd : decode cc pc = .ok (.getfield index, 3)) (k : K σ φ (pc + 3) lv (.ref (ad 2) :: st)) : K σ φ pc lv (.ref (ad 1) :: st) := g_get C (T := TX7) iu_7 1 (fun f => at_1 ad dA σ f) rfl 0 (by decide) hl rfl rfl hd k
theorem ggN_1_0 (C : Cx K l D ad dA z0 tt cc own nL R) {host : String} {index : Nat} (hl : Cond.fieldLinkNest own index "CompositeDecoder$Picture" "lumas" "[I" host ∈ lw_nest) (hd : decode cc pc = .ok (.getfield index, 3)) (k : K σ φ (pc + 3) lv (.ref (ad 2) :: st)) : K σ φ pc lv (.ref (ad 1) :: st) := g_getN C (T := TX7) iu_7 1 (fun f => at_1 ad dA σ f) rfl 0 (by decide) hl rfl rfl hd k
theorem gg_1_1 (C : Cx K l D ad dA z0 tt cc own nL R) {index : Nat} (hl : Cond.fieldLink own index "CompositeDecoder$Picture" "us" "[I" ∈ lw_all) (hd : decode cc pc = .ok (.getfield index, 3)) (k : K σ φ (pc + 3) lv (.ref (ad 3) :: st)) : K σ φ pc lv (.ref (ad 1) :: st) := g_get C (T := TX7) iu_7 1 (fun f => at_1 ad dA σ f) rfl 1 (by decide) hl rfl rfl hd k
theorem ggN_1_1 (C : Cx K l D ad dA z0 tt cc own nL R) {host : String} {index : Nat} (hl : Cond.fieldLinkNest own index "CompositeDecoder$Picture" "us" "[I" host ∈ lw_nest) (hd : decode cc pc = .ok (.getfield index, 3)) (k : K σ φ (pc + 3) lv (.ref (ad 3) :: st)) : K σ φ pc lv (.ref (ad 1) :: st) := g_getN C (T := TX7) iu_7 1 (fun f => at_1 ad dA σ f) rfl 1 (by decide) hl rfl rfl hd k
theorem gg_1_2 (C : Cx K l D ad dA z0 tt cc own nL R) {index : Nat} (hl : Cond.fieldLink own index "CompositeDecoder$Picture" "vs" "[I" ∈ lw_all) (hd : decode cc pc = .ok (.getfield index, 3)) (k : K σ φ (pc + 3) lv (.ref (ad 4) :: st)) : K σ φ pc lv (.ref (ad 1) :: st) := g_get C (T := TX7) iu_7 1 (fun f => at_1 ad dA σ f) rfl 2 (by decide) hl rfl rfl hd k
theorem ggN_1_2 (C : Cx K l D ad dA z0 tt cc own nL R) {host : String} {index : Nat} (hl : Cond.fieldLinkNest own index "CompositeDecoder$Picture" "vs" "[I" host ∈ lw_nest) (hd : decode cc pc = .ok (.getfield index, 3)) (k : K σ φ (pc + 3) lv (.ref (ad 4) :: st)) : K σ φ pc lv (.ref (ad 1) :: st) := g_getN C (T := TX7) iu_7 1 (fun f => at_1 ad dA σ f) rfl 2 (by decide) hl rfl rfl hd k
theorem gg_1_3 (C : Cx K l D ad dA z0 tt cc own nL R) {index : Nat} (hl : Cond.fieldLink own index "CompositeDecoder$Picture" "jitters" "[I" ∈ lw_all) (hd : decode cc pc = .ok (.getfield index, 3)) (k : K σ φ (pc + 3) lv (.ref (ad 5) :: st)) : K σ φ pc lv (.ref (ad 1) :: st) := g_get C (T := TX7) iu_7 1 (fun f => at_1 ad dA σ f) rfl 3 (by decide) hl rfl rfl hd k
theorem ggN_1_3 (C : Cx K l D ad dA z0 tt cc own nL R) {host : String} {index : Nat} (hl : Cond.fieldLinkNest own index "CompositeDecoder$Picture" "jitters" "[I" host ∈ lw_nest) (hd : decode cc pc = .ok (.getfield index, 3)) (k : K σ φ (pc + 3) lv (.ref (ad 5) :: st)) : K σ φ pc lv (.ref (ad 1) :: st) := g_getN C (T := TX7) iu_7 1 (fun f => at_1 ad dA σ f) rfl 3 (by decide) hl rfl rfl hd k
theorem gg_1_4 (C : Cx K l D ad dA z0 tt cc own nL R) {index : Nat} (hl : Cond.fieldLink own index "CompositeDecoder$Picture" "amplitudes" "[I" ∈ lw_all) (hd : decode cc pc = .ok (.getfield index, 3)) (k : K σ φ (pc + 3) lv (.ref (ad 6) :: st)) : K σ φ pc lv (.ref (ad 1) :: st) := g_get C (T := TX7) iu_7 1 (fun f => at_1 ad dA σ f) rfl 4 (by decide) hl rfl rfl hd k
theorem ggN_1_4 (C : Cx K l D ad dA z0 tt cc own nL R) {host : String} {index : Nat} (hl : Cond.fieldLinkNest own index "CompositeDecoder$Picture" "amplitudes" "[I" host ∈ lw_nest) (hd : decode cc pc = .ok (.getfield index, 3)) (k : K σ φ (pc + 3) lv (.ref (ad 6) :: st)) : K σ φ pc lv (.ref (ad 1) :: st) := g_getN C (T := TX7) iu_7 1 (fun f => at_1 ad dA σ f) rfl 4 (by decide) hl rfl rfl hd k
theorem gg_1_5 (C : Cx K l D ad dA z0 tt cc own nL R) {index : Nat} (hl : Cond.fieldLink own index "CompositeDecoder$Picture" "phases" "[I" ∈ lw_all) (hd : decode cc pc = .ok (.getfield index, 3)) (k : K σ φ (pc + 3) lv (.ref (ad 7) :: st)) : K σ φ pc lv (.ref (ad 1) :: st) := g_get C (T := TX7) iu_7 1 (fun f => at_1 ad dA σ f) rfl 5 (by decide) hl rfl rfl hd k
theorem ggN_1_5 (C : Cx K l D ad dA z0 tt cc own nL R) {host : String} {index : Nat} (hl : Cond.fieldLinkNest own index "CompositeDecoder$Picture" "phases" "[I" host ∈ lw_nest) (hd : decode cc pc = .ok (.getfield index, 3)) (k : K σ φ (pc + 3) lv (.ref (ad 7) :: st)) : K σ φ pc lv (.ref (ad 1) :: st) := g_getN C (T := TX7) iu_7 1 (fun f => at_1 ad dA σ f) rfl 5 (by decide) hl rfl rfl hd k
theorem gg_1_6 (C : Cx K l D ad dA z0 tt cc own nL R) {index : Nat} (hl : Cond.fieldLink own index "CompositeDecoder$Picture" "noises" "[I" ∈ lw_all) (hd : decode cc pc = .ok (.getfield index, 3)) (k : K σ φ (pc + 3) lv (.ref (ad 8) :: st)) : K σ φ pc lv (.ref (ad 1) :: st) := g_get C (T := TX7) iu_7 1 (fun f => at_1 ad dA σ f) rfl 6 (by decide) hl rfl rfl hd k
theorem ggN_1_6 (C : Cx K l D ad dA z0 tt cc own nL R) {host : String} {index : Nat} (hl : Cond.fieldLinkNest own index "CompositeDecoder$Picture" "noises" "[I" host ∈ lw_nest) (hd : decode cc pc = .ok (.getfield index, 3)) (k : K σ φ (pc + 3) lv (.ref (ad 8) :: st)) : K σ φ pc lv (.ref (ad 1) :: st) := g_getN C (T := TX7) iu_7 1 (fun f => at_1 ad dA σ f) rfl 6 (by decide) hl rfl rfl hd k
theorem gg_1_7 (C : Cx K l D ad dA z0 tt cc own nL R) {index : Nat} (hl : Cond.fieldLink own index "CompositeDecoder$Picture" "missing" "[Z" ∈ lw_all) (hd : decode cc pc = .ok (.getfield index, 3)) (k : K σ φ (pc + 3) lv (.ref (ad 9) :: st)) : K σ φ pc lv (.ref (ad 1) :: st) := g_get C (T := TX7) iu_7 1 (fun f => at_1 ad dA σ f) rfl 7 (by decide) hl rfl rfl hd k
theorem ggN_1_7 (C : Cx K l D ad dA z0 tt cc own nL R) {host : String} {index : Nat} (hl : Cond.fieldLinkNest own index "CompositeDecoder$Picture" "missing" "[Z" host ∈ lw_nest) (hd : decode cc pc = .ok (.getfield index, 3)) (k : K σ φ (pc + 3) lv (.ref (ad 9) :: st)) : K σ φ pc lv (.ref (ad 1) :: st) := g_getN C (T := TX7) iu_7 1 (fun f => at_1 ad dA σ f) rfl 7 (by decide) hl rfl rfl hd k
theorem gg_1_8 (C : Cx K l D ad dA z0 tt cc own nL R) {index : Nat} (hl : Cond.fieldLink own index "CompositeDecoder$Picture" "standard" "I" ∈ lw_all) (hd : decode cc pc = .ok (.getfield index, 3)) (k : K σ φ (pc + 3) lv (.int (σ 1 8) :: st)) : K σ φ pc lv (.ref (ad 1) :: st) := g_get C (T := TX7) iu_7 1 (fun f => at_1 ad dA σ f) rfl 8 (by decide) hl rfl rfl hd k
theorem gp_1_8 (C : Cx K l D ad dA z0 tt cc own nL R) {index : Nat} {x : Int32} (hl : Cond.fieldLink own index "CompositeDecoder$Picture" "standard" "I" ∈ lw_all) (hd : decode cc pc = .ok (.putfield index, 3)) (k : K (sw σ 1 8 x) φ (pc + 3) lv st) : K σ φ pc lv (.int x :: .ref (ad 1) :: st) := g_put C (T := TX7) (ty := .int) iu_7 tyX7 tyX7_ok nmX7 1 (fun f => at_1 ad dA σ f) rfl 8 (by decide) hl rfl rfl rfl rfl rfl (Nat.le_of_ble_eq_true rfl) (fun f => set_1_8 ad dA σ f x) hd k
theorem ggN_1_8 (C : Cx K l D ad dA z0 tt cc own nL R) {host : String} {index : Nat} (hl : Cond.fieldLinkNest own index "CompositeDecoder$Picture" "standard" "I" host ∈ lw_nest) (hd : decode cc pc = .ok (.getfield index, 3)) (k : K σ φ (pc + 3) lv (.int (σ 1 8) :: st)) : K σ φ pc lv (.ref (ad 1) :: st) := g_getN C (T := TX7) iu_7 1 (fun f => at_1 ad dA σ f) rfl 8 (by decide) hl rfl rfl hd k
theorem gpN_1_8 (C : Cx K l D ad dA z0 tt cc own nL R) {host : String} {index : Nat} {x : Int32} (hl : Cond.fieldLinkNest own index "CompositeDecoder$Picture" "standard" "I" host ∈ lw_nest) (hd : decode cc pc = .ok (.putfield index, 3)) (k : K (sw σ 1 8 x) φ (pc + 3) lv st) : K σ φ pc lv (.int x :: .ref (ad 1) :: st) := g_putN C (T := TX7) (ty := .int) iu_7 tyX7 tyX7_ok nmX7 1 (fun f => at_1 ad dA σ f) rfl 8 (by decide) hl rfl rfl rfl rfl rfl (Nat.le_of_ble_eq_true rfl) (fun f => set_1_8 ad dA σ f x) hd k
theorem ld_2 (C : Cx K l D ad dA z0 tt cc own nL R) {i : Int32} (hin : vp_in i 80) (hd : decode cc pc = .ok (.iaload, 1)) (k : K σ φ (pc + 1) lv (.int (σ 2 i.toNatClampNeg) :: st)) : K σ φ pc lv (.int i :: .ref (ad 2) :: st) := g_iald C 2 (fun f => at_2 ad dA σ f) hin hd k
theorem sd_2 (C : Cx K l D ad dA z0 tt cc own nL R) {i x : Int32} (hin : vp_in i 80) (hd : decode cc pc = .ok (.iastore, 1)) (k : K (sw σ 2 i.toNatClampNeg x) φ (pc + 1) lv st) : K σ φ pc lv (.int x :: .int i :: .ref (ad 2) :: st) := g_iast C 2 (fun f => at_2 ad dA σ f) hin (fun f => set_2 ad dA σ f _) hd k
theorem ld_3 (C : Cx K l D ad dA z0 tt cc own nL R) {i : Int32} (hin : vp_in i 80) (hd : decode cc pc = .ok (.iaload, 1)) (k : K σ φ (pc + 1) lv (.int (σ 3 i.toNatClampNeg) :: st)) : K σ φ pc lv (.int i :: .ref (ad 3) :: st) := g_iald C 3 (fun f => at_3 ad dA σ f) hin hd k
theorem sd_3 (C : Cx K l D ad dA z0 tt cc own nL R) {i x : Int32} (hin : vp_in i 80) (hd : decode cc pc = .ok (.iastore, 1)) (k : K (sw σ 3 i.toNatClampNeg x) φ (pc + 1) lv st) : K σ φ pc lv (.int x :: .int i :: .ref (ad 3) :: st) := g_iast C 3 (fun f => at_3 ad dA σ f) hin (fun f => set_3 ad dA σ f _) hd k
theorem ld_4 (C : Cx K l D ad dA z0 tt cc own nL R) {i : Int32} (hin : vp_in i 80) (hd : decode cc pc = .ok (.iaload, 1)) (k : K σ φ (pc + 1) lv (.int (σ 4 i.toNatClampNeg) :: st)) : K σ φ pc lv (.int i :: .ref (ad 4) :: st) := g_iald C 4 (fun f => at_4 ad dA σ f) hin hd k
theorem sd_4 (C : Cx K l D ad dA z0 tt cc own nL R) {i x : Int32} (hin : vp_in i 80) (hd : decode cc pc = .ok (.iastore, 1)) (k : K (sw σ 4 i.toNatClampNeg x) φ (pc + 1) lv st) : K σ φ pc lv (.int x :: .int i :: .ref (ad 4) :: st) := g_iast C 4 (fun f => at_4 ad dA σ f) hin (fun f => set_4 ad dA σ f _) hd k
theorem ld_5 (C : Cx K l D ad dA z0 tt cc own nL R) {i : Int32} (hin : vp_in i 8) (hd : decode cc pc = .ok (.iaload, 1)) (k : K σ φ (pc + 1) lv (.int (σ 5 i.toNatClampNeg) :: st)) : K σ φ pc lv (.int i :: .ref (ad 5) :: st) := g_iald C 5 (fun f => at_5 ad dA σ f) hin hd k
theorem sd_5 (C : Cx K l D ad dA z0 tt cc own nL R) {i x : Int32} (hin : vp_in i 8) (hd : decode cc pc = .ok (.iastore, 1)) (k : K (sw σ 5 i.toNatClampNeg x) φ (pc + 1) lv st) : K σ φ pc lv (.int x :: .int i :: .ref (ad 5) :: st) := g_iast C 5 (fun f => at_5 ad dA σ f) hin (fun f => set_5 ad dA σ f _) hd k
theorem ld_6 (C : Cx K l D ad dA z0 tt cc own nL R) {i : Int32} (hin : vp_in i 8) (hd : decode cc pc = .ok (.iaload, 1)) (k : K σ φ (pc + 1) lv (.int (σ 6 i.toNatClampNeg) :: st)) : K σ φ pc lv (.int i :: .ref (ad 6) :: st) := g_iald C 6 (fun f => at_6 ad dA σ f) hin hd k
theorem sd_6 (C : Cx K l D ad dA z0 tt cc own nL R) {i x : Int32} (hin : vp_in i 8) (hd : decode cc pc = .ok (.iastore, 1)) (k : K (sw σ 6 i.toNatClampNeg x) φ (pc + 1) lv st) : K σ φ pc lv (.int x :: .int i :: .ref (ad 6) :: st) := g_iast C 6 (fun f => at_6 ad dA σ f) hin (fun f => set_6 ad dA σ f _) hd k
theorem ld_7 (C : Cx K l D ad dA z0 tt cc own nL R) {i : Int32} (hin : vp_in i 8) (hd : decode cc pc = .ok (.iaload, 1)) (k : K σ φ (pc + 1) lv (.int (σ 7 i.toNatClampNeg) :: st)) : K σ φ pc lv (.int i :: .ref (ad 7) :: st) := g_iald C 7 (fun f => at_7 ad dA σ f) hin hd k
theorem sd_7 (C : Cx K l D ad dA z0 tt cc own nL R) {i x : Int32} (hin : vp_in i 8) (hd : decode cc pc = .ok (.iastore, 1)) (k : K (sw σ 7 i.toNatClampNeg x) φ (pc + 1) lv st) : K σ φ pc lv (.int x :: .int i :: .ref (ad 7) :: st) := g_iast C 7 (fun f => at_7 ad dA σ f) hin (fun f => set_7 ad dA σ f _) hd k
theorem ld_8 (C : Cx K l D ad dA z0 tt cc own nL R) {i : Int32} (hin : vp_in i 8) (hd : decode cc pc = .ok (.iaload, 1)) (k : K σ φ (pc + 1) lv (.int (σ 8 i.toNatClampNeg) :: st)) : K σ φ pc lv (.int i :: .ref (ad 8) :: st) := g_iald C 8 (fun f => at_8 ad dA σ f) hin hd k
theorem sd_8 (C : Cx K l D ad dA z0 tt cc own nL R) {i x : Int32} (hin : vp_in i 8) (hd : decode cc pc = .ok (.iastore, 1)) (k : K (sw σ 8 i.toNatClampNeg x) φ (pc + 1) lv st) : K σ φ pc lv (.int x :: .int i :: .ref (ad 8) :: st) := g_iast C 8 (fun f => at_8 ad dA σ f) hin (fun f => set_8 ad dA σ f _) hd k
theorem ld_9 (C : Cx K l D ad dA z0 tt cc own nL R) {i : Int32} (hin : vp_in i 8) (hd : decode cc pc = .ok (.baload, 1)) (k : K σ φ (pc + 1) lv (.int (σ 9 i.toNatClampNeg) :: st)) : K σ φ pc lv (.int i :: .ref (ad 9) :: st) := g_zald C 9 (fun f => at_9 ad dA σ f) hin hd k
theorem sd_9 (C : Cx K l D ad dA z0 tt cc own nL R) {i x : Int32} (hin : vp_in i 8) (hd : decode cc pc = .ok (.bastore, 1)) (k : K (sw σ 9 i.toNatClampNeg (vp_nar .boolean x)) φ (pc + 1) lv st) : K σ φ pc lv (.int x :: .int i :: .ref (ad 9) :: st) := g_zast C 9 (fun f => at_9 ad dA σ f) hin (fun f => set_9 ad dA σ f _) hd k
theorem gg_10_0 (C : Cx K l D ad dA z0 tt cc own nL R) {index : Nat} (hl : Cond.fieldLink own index "CompositeDecoder$BarText" "characters" "[C" ∈ lw_all) (hd : decode cc pc = .ok (.getfield index, 3)) (k : K σ φ (pc + 3) lv (.ref (ad 11) :: st)) : K σ φ pc lv (.ref (ad 10) :: st) := g_get C (T := TX0) iu_0 10 (fun f => at_10 ad dA σ f) rfl 0 (by decide) hl rfl rfl hd k
theorem ggN_10_0 (C : Cx K l D ad dA z0 tt cc own nL R) {host : String} {index : Nat} (hl : Cond.fieldLinkNest own index "CompositeDecoder$BarText" "characters" "[C" host ∈ lw_nest) (hd : decode cc pc = .ok (.getfield index, 3)) (k : K σ φ (pc + 3) lv (.ref (ad 11) :: st)) : K σ φ pc lv (.ref (ad 10) :: st) := g_getN C (T := TX0) iu_0 10 (fun f => at_10 ad dA σ f) rfl 0 (by decide) hl rfl rfl hd k
theorem gg_10_1 (C : Cx K l D ad dA z0 tt cc own nL R) {index : Nat} (hl : Cond.fieldLink own index "CompositeDecoder$BarText" "used" "I" ∈ lw_all) (hd : decode cc pc = .ok (.getfield index, 3)) (k : K σ φ (pc + 3) lv (.int (σ 10 1) :: st)) : K σ φ pc lv (.ref (ad 10) :: st) := g_get C (T := TX0) iu_0 10 (fun f => at_10 ad dA σ f) rfl 1 (by decide) hl rfl rfl hd k
theorem gp_10_1 (C : Cx K l D ad dA z0 tt cc own nL R) {index : Nat} {x : Int32} (hl : Cond.fieldLink own index "CompositeDecoder$BarText" "used" "I" ∈ lw_all) (hd : decode cc pc = .ok (.putfield index, 3)) (k : K (sw σ 10 1 x) φ (pc + 3) lv st) : K σ φ pc lv (.int x :: .ref (ad 10) :: st) := g_put C (T := TX0) (ty := .int) iu_0 tyX0 tyX0_ok nmX0 10 (fun f => at_10 ad dA σ f) rfl 1 (by decide) hl rfl rfl rfl rfl rfl (Nat.le_of_ble_eq_true rfl) (fun f => set_10_1 ad dA σ f x) hd k
theorem ggN_10_1 (C : Cx K l D ad dA z0 tt cc own nL R) {host : String} {index : Nat} (hl : Cond.fieldLinkNest own index "CompositeDecoder$BarText" "used" "I" host ∈ lw_nest) (hd : decode cc pc = .ok (.getfield index, 3)) (k : K σ φ (pc + 3) lv (.int (σ 10 1) :: st)) : K σ φ pc lv (.ref (ad 10) :: st) := g_getN C (T := TX0) iu_0 10 (fun f => at_10 ad dA σ f) rfl 1 (by decide) hl rfl rfl hd k
theorem gpN_10_1 (C : Cx K l D ad dA z0 tt cc own nL R) {host : String} {index : Nat} {x : Int32} (hl : Cond.fieldLinkNest own index "CompositeDecoder$BarText" "used" "I" host ∈ lw_nest) (hd : decode cc pc = .ok (.putfield index, 3)) (k : K (sw σ 10 1 x) φ (pc + 3) lv st) : K σ φ pc lv (.int x :: .ref (ad 10) :: st) := g_putN C (T := TX0) (ty := .int) iu_0 tyX0 tyX0_ok nmX0 10 (fun f => at_10 ad dA σ f) rfl 1 (by decide) hl rfl rfl rfl rfl rfl (Nat.le_of_ble_eq_true rfl) (fun f => set_10_1 ad dA σ f x) hd k
theorem gg_10_2 (C : Cx K l D ad dA z0 tt cc own nL R) {index : Nat} (hl : Cond.fieldLink own index "CompositeDecoder$BarText" "bars" "[I" ∈ lw_all) (hd : decode cc pc = .ok (.getfield index, 3)) (k : K σ φ (pc + 3) lv (.ref (ad 12) :: st)) : K σ φ pc lv (.ref (ad 10) :: st) := g_get C (T := TX0) iu_0 10 (fun f => at_10 ad dA σ f) rfl 2 (by decide) hl rfl rfl hd k
theorem ggN_10_2 (C : Cx K l D ad dA z0 tt cc own nL R) {host : String} {index : Nat} (hl : Cond.fieldLinkNest own index "CompositeDecoder$BarText" "bars" "[I" host ∈ lw_nest) (hd : decode cc pc = .ok (.getfield index, 3)) (k : K σ φ (pc + 3) lv (.ref (ad 12) :: st)) : K σ φ pc lv (.ref (ad 10) :: st) := g_getN C (T := TX0) iu_0 10 (fun f => at_10 ad dA σ f) rfl 2 (by decide) hl rfl rfl hd k
theorem gg_10_3 (C : Cx K l D ad dA z0 tt cc own nL R) {index : Nat} (hl : Cond.fieldLink own index "CompositeDecoder$BarText" "letters" "I" ∈ lw_all) (hd : decode cc pc = .ok (.getfield index, 3)) (k : K σ φ (pc + 3) lv (.int (σ 10 3) :: st)) : K σ φ pc lv (.ref (ad 10) :: st) := g_get C (T := TX0) iu_0 10 (fun f => at_10 ad dA σ f) rfl 3 (by decide) hl rfl rfl hd k
theorem gp_10_3 (C : Cx K l D ad dA z0 tt cc own nL R) {index : Nat} {x : Int32} (hl : Cond.fieldLink own index "CompositeDecoder$BarText" "letters" "I" ∈ lw_all) (hd : decode cc pc = .ok (.putfield index, 3)) (k : K (sw σ 10 3 x) φ (pc + 3) lv st) : K σ φ pc lv (.int x :: .ref (ad 10) :: st) := g_put C (T := TX0) (ty := .int) iu_0 tyX0 tyX0_ok nmX0 10 (fun f => at_10 ad dA σ f) rfl 3 (by decide) hl rfl rfl rfl rfl rfl (Nat.le_of_ble_eq_true rfl) (fun f => set_10_3 ad dA σ f x) hd k
theorem ggN_10_3 (C : Cx K l D ad dA z0 tt cc own nL R) {host : String} {index : Nat} (hl : Cond.fieldLinkNest own index "CompositeDecoder$BarText" "letters" "I" host ∈ lw_nest) (hd : decode cc pc = .ok (.getfield index, 3)) (k : K σ φ (pc + 3) lv (.int (σ 10 3) :: st)) : K σ φ pc lv (.ref (ad 10) :: st) := g_getN C (T := TX0) iu_0 10 (fun f => at_10 ad dA σ f) rfl 3 (by decide) hl rfl rfl hd k
theorem gpN_10_3 (C : Cx K l D ad dA z0 tt cc own nL R) {host : String} {index : Nat} {x : Int32} (hl : Cond.fieldLinkNest own index "CompositeDecoder$BarText" "letters" "I" host ∈ lw_nest) (hd : decode cc pc = .ok (.putfield index, 3)) (k : K (sw σ 10 3 x) φ (pc + 3) lv st) : K σ φ pc lv (.int x :: .ref (ad 10) :: st) := g_putN C (T := TX0) (ty := .int) iu_0 tyX0 tyX0_ok nmX0 10 (fun f => at_10 ad dA σ f) rfl 3 (by decide) hl rfl rfl rfl rfl rfl (Nat.le_of_ble_eq_true rfl) (fun f => set_10_3 ad dA σ f x) hd k
theorem ld_11 (C : Cx K l D ad dA z0 tt cc own nL R) {i : Int32} (hin : vp_in i 60) (hd : decode cc pc = .ok (.caload, 1)) (k : K σ φ (pc + 1) lv (.int (σ 11 i.toNatClampNeg) :: st)) : K σ φ pc lv (.int i :: .ref (ad 11) :: st) := g_cald C 11 (fun f => at_11 ad dA σ f) hin hd k
theorem sd_11 (C : Cx K l D ad dA z0 tt cc own nL R) {i x : Int32} (hin : vp_in i 60) (hd : decode cc pc = .ok (.castore, 1)) (k : K (sw σ 11 i.toNatClampNeg (vp_nar .char x)) φ (pc + 1) lv st) : K σ φ pc lv (.int x :: .int i :: .ref (ad 11) :: st) := g_cast C 11 (fun f => at_11 ad dA σ f) hin (fun f => set_11 ad dA σ f _) hd k
theorem ld_12 (C : Cx K l D ad dA z0 tt cc own nL R) {i : Int32} (hin : vp_in i 10) (hd : decode cc pc = .ok (.iaload, 1)) (k : K σ φ (pc + 1) lv (.int (σ 12 i.toNatClampNeg) :: st)) : K σ φ pc lv (.int i :: .ref (ad 12) :: st) := g_iald C 12 (fun f => at_12 ad dA σ f) hin hd k
theorem sd_12 (C : Cx K l D ad dA z0 tt cc own nL R) {i x : Int32} (hin : vp_in i 10) (hd : decode cc pc = .ok (.iastore, 1)) (k : K (sw σ 12 i.toNatClampNeg x) φ (pc + 1) lv st) : K σ φ pc lv (.int x :: .int i :: .ref (ad 12) :: st) := g_iast C 12 (fun f => at_12 ad dA σ f) hin (fun f => set_12 ad dA σ f _) hd k
theorem gg_13_0 (C : Cx K l D ad dA z0 tt cc own nL R) {index : Nat} (hl : Cond.fieldLink own index "CompositeDecoder$Settings" "values" "[I" ∈ lw_all) (hd : decode cc pc = .ok (.getfield index, 3)) (k : K σ φ (pc + 3) lv (.ref (ad 14) :: st)) : K σ φ pc lv (.ref (ad 13) :: st) := g_get C (T := TX8) iu_8 13 (fun f => at_13 ad dA σ f) rfl 0 (by decide) hl rfl rfl hd k
theorem ggN_13_0 (C : Cx K l D ad dA z0 tt cc own nL R) {host : String} {index : Nat} (hl : Cond.fieldLinkNest own index "CompositeDecoder$Settings" "values" "[I" host ∈ lw_nest) (hd : decode cc pc = .ok (.getfield index, 3)) (k : K σ φ (pc + 3) lv (.ref (ad 14) :: st)) : K σ φ pc lv (.ref (ad 13) :: st) := g_getN C (T := TX8) iu_8 13 (fun f => at_13 ad dA σ f) rfl 0 (by decide) hl rfl rfl hd k
theorem ld_14 (C : Cx K l D ad dA z0 tt cc own nL R) {i : Int32} (hin : vp_in i 4) (hd : decode cc pc = .ok (.iaload, 1)) (k : K σ φ (pc + 1) lv (.int (σ 14 i.toNatClampNeg) :: st)) : K σ φ pc lv (.int i :: .ref (ad 14) :: st) := g_iald C 14 (fun f => at_14 ad dA σ f) hin hd k
theorem sd_14 (C : Cx K l D ad dA z0 tt cc own nL R) {i x : Int32} (hin : vp_in i 4) (hd : decode cc pc = .ok (.iastore, 1)) (k : K (sw σ 14 i.toNatClampNeg x) φ (pc + 1) lv st) : K σ φ pc lv (.int x :: .int i :: .ref (ad 14) :: st) := g_iast C 14 (fun f => at_14 ad dA σ f) hin (fun f => set_14 ad dA σ f _) hd k
theorem gg_15_0 (C : Cx K l D ad dA z0 tt cc own nL R) {index : Nat} (hl : Cond.fieldLink own index "CompositeDecoder$Signal" "rows" "[[I" ∈ lw_all) (hd : decode cc pc = .ok (.getfield index, 3)) (k : K σ φ (pc + 3) lv (.ref (ad 16) :: st)) : K σ φ pc lv (.ref (ad 15) :: st) := g_get C (T := TX9) iu_9 15 (fun f => at_15 ad dA σ f) rfl 0 (by decide) hl rfl rfl hd k
theorem ggN_15_0 (C : Cx K l D ad dA z0 tt cc own nL R) {host : String} {index : Nat} (hl : Cond.fieldLinkNest own index "CompositeDecoder$Signal" "rows" "[[I" host ∈ lw_nest) (hd : decode cc pc = .ok (.getfield index, 3)) (k : K σ φ (pc + 3) lv (.ref (ad 16) :: st)) : K σ φ pc lv (.ref (ad 15) :: st) := g_getN C (T := TX9) iu_9 15 (fun f => at_15 ad dA σ f) rfl 0 (by decide) hl rfl rfl hd k
theorem ld_17 (C : Cx K l D ad dA z0 tt cc own nL R) {i : Int32} (hin : vp_in i 112) (hd : decode cc pc = .ok (.iaload, 1)) (k : K σ φ (pc + 1) lv (.int (σ 17 i.toNatClampNeg) :: st)) : K σ φ pc lv (.int i :: .ref (ad 17) :: st) := g_iald C 17 (fun f => at_17 ad dA σ f) hin hd k
theorem sd_17 (C : Cx K l D ad dA z0 tt cc own nL R) {i x : Int32} (hin : vp_in i 112) (hd : decode cc pc = .ok (.iastore, 1)) (k : K (sw σ 17 i.toNatClampNeg x) φ (pc + 1) lv st) : K σ φ pc lv (.int x :: .int i :: .ref (ad 17) :: st) := g_iast C 17 (fun f => at_17 ad dA σ f) hin (fun f => set_17 ad dA σ f _) hd k
theorem ld_18 (C : Cx K l D ad dA z0 tt cc own nL R) {i : Int32} (hin : vp_in i 112) (hd : decode cc pc = .ok (.iaload, 1)) (k : K σ φ (pc + 1) lv (.int (σ 18 i.toNatClampNeg) :: st)) : K σ φ pc lv (.int i :: .ref (ad 18) :: st) := g_iald C 18 (fun f => at_18 ad dA σ f) hin hd k
theorem sd_18 (C : Cx K l D ad dA z0 tt cc own nL R) {i x : Int32} (hin : vp_in i 112) (hd : decode cc pc = .ok (.iastore, 1)) (k : K (sw σ 18 i.toNatClampNeg x) φ (pc + 1) lv st) : K σ φ pc lv (.int x :: .int i :: .ref (ad 18) :: st) := g_iast C 18 (fun f => at_18 ad dA σ f) hin (fun f => set_18 ad dA σ f _) hd k
theorem ld_19 (C : Cx K l D ad dA z0 tt cc own nL R) {i : Int32} (hin : vp_in i 112) (hd : decode cc pc = .ok (.iaload, 1)) (k : K σ φ (pc + 1) lv (.int (σ 19 i.toNatClampNeg) :: st)) : K σ φ pc lv (.int i :: .ref (ad 19) :: st) := g_iald C 19 (fun f => at_19 ad dA σ f) hin hd k
theorem sd_19 (C : Cx K l D ad dA z0 tt cc own nL R) {i x : Int32} (hin : vp_in i 112) (hd : decode cc pc = .ok (.iastore, 1)) (k : K (sw σ 19 i.toNatClampNeg x) φ (pc + 1) lv st) : K σ φ pc lv (.int x :: .int i :: .ref (ad 19) :: st) := g_iast C 19 (fun f => at_19 ad dA σ f) hin (fun f => set_19 ad dA σ f _) hd k
theorem ld_20 (C : Cx K l D ad dA z0 tt cc own nL R) {i : Int32} (hin : vp_in i 112) (hd : decode cc pc = .ok (.iaload, 1)) (k : K σ φ (pc + 1) lv (.int (σ 20 i.toNatClampNeg) :: st)) : K σ φ pc lv (.int i :: .ref (ad 20) :: st) := g_iald C 20 (fun f => at_20 ad dA σ f) hin hd k
theorem sd_20 (C : Cx K l D ad dA z0 tt cc own nL R) {i x : Int32} (hin : vp_in i 112) (hd : decode cc pc = .ok (.iastore, 1)) (k : K (sw σ 20 i.toNatClampNeg x) φ (pc + 1) lv st) : K σ φ pc lv (.int x :: .int i :: .ref (ad 20) :: st) := g_iast C 20 (fun f => at_20 ad dA σ f) hin (fun f => set_20 ad dA σ f _) hd k
theorem ld_21 (C : Cx K l D ad dA z0 tt cc own nL R) {i : Int32} (hin : vp_in i 112) (hd : decode cc pc = .ok (.iaload, 1)) (k : K σ φ (pc + 1) lv (.int (σ 21 i.toNatClampNeg) :: st)) : K σ φ pc lv (.int i :: .ref (ad 21) :: st) := g_iald C 21 (fun f => at_21 ad dA σ f) hin hd k
theorem sd_21 (C : Cx K l D ad dA z0 tt cc own nL R) {i x : Int32} (hin : vp_in i 112) (hd : decode cc pc = .ok (.iastore, 1)) (k : K (sw σ 21 i.toNatClampNeg x) φ (pc + 1) lv st) : K σ φ pc lv (.int x :: .int i :: .ref (ad 21) :: st) := g_iast C 21 (fun f => at_21 ad dA σ f) hin (fun f => set_21 ad dA σ f _) hd k
theorem ld_22 (C : Cx K l D ad dA z0 tt cc own nL R) {i : Int32} (hin : vp_in i 112) (hd : decode cc pc = .ok (.iaload, 1)) (k : K σ φ (pc + 1) lv (.int (σ 22 i.toNatClampNeg) :: st)) : K σ φ pc lv (.int i :: .ref (ad 22) :: st) := g_iald C 22 (fun f => at_22 ad dA σ f) hin hd k
theorem sd_22 (C : Cx K l D ad dA z0 tt cc own nL R) {i x : Int32} (hin : vp_in i 112) (hd : decode cc pc = .ok (.iastore, 1)) (k : K (sw σ 22 i.toNatClampNeg x) φ (pc + 1) lv st) : K σ φ pc lv (.int x :: .int i :: .ref (ad 22) :: st) := g_iast C 22 (fun f => at_22 ad dA σ f) hin (fun f => set_22 ad dA σ f _) hd k
theorem ld_23 (C : Cx K l D ad dA z0 tt cc own nL R) {i : Int32} (hin : vp_in i 112) (hd : decode cc pc = .ok (.iaload, 1)) (k : K σ φ (pc + 1) lv (.int (σ 23 i.toNatClampNeg) :: st)) : K σ φ pc lv (.int i :: .ref (ad 23) :: st) := g_iald C 23 (fun f => at_23 ad dA σ f) hin hd k
theorem sd_23 (C : Cx K l D ad dA z0 tt cc own nL R) {i x : Int32} (hin : vp_in i 112) (hd : decode cc pc = .ok (.iastore, 1)) (k : K (sw σ 23 i.toNatClampNeg x) φ (pc + 1) lv st) : K σ φ pc lv (.int x :: .int i :: .ref (ad 23) :: st) := g_iast C 23 (fun f => at_23 ad dA σ f) hin (fun f => set_23 ad dA σ f _) hd k
theorem ld_24 (C : Cx K l D ad dA z0 tt cc own nL R) {i : Int32} (hin : vp_in i 112) (hd : decode cc pc = .ok (.iaload, 1)) (k : K σ φ (pc + 1) lv (.int (σ 24 i.toNatClampNeg) :: st)) : K σ φ pc lv (.int i :: .ref (ad 24) :: st) := g_iald C 24 (fun f => at_24 ad dA σ f) hin hd k
theorem sd_24 (C : Cx K l D ad dA z0 tt cc own nL R) {i x : Int32} (hin : vp_in i 112) (hd : decode cc pc = .ok (.iastore, 1)) (k : K (sw σ 24 i.toNatClampNeg x) φ (pc + 1) lv st) : K σ φ pc lv (.int x :: .int i :: .ref (ad 24) :: st) := g_iast C 24 (fun f => at_24 ad dA σ f) hin (fun f => set_24 ad dA σ f _) hd k
theorem gg_25_0 (C : Cx K l D ad dA z0 tt cc own nL R) {index : Nat} (hl : Cond.fieldLink own index "CompositeDecoder$LineFinder" "pulses" "[I" ∈ lw_all) (hd : decode cc pc = .ok (.getfield index, 3)) (k : K σ φ (pc + 3) lv (.ref (ad 26) :: st)) : K σ φ pc lv (.ref (ad 25) :: st) := g_get C (T := TX4) iu_4 25 (fun f => at_25 ad dA σ f) rfl 0 (by decide) hl rfl rfl hd k
theorem ggN_25_0 (C : Cx K l D ad dA z0 tt cc own nL R) {host : String} {index : Nat} (hl : Cond.fieldLinkNest own index "CompositeDecoder$LineFinder" "pulses" "[I" host ∈ lw_nest) (hd : decode cc pc = .ok (.getfield index, 3)) (k : K σ φ (pc + 3) lv (.ref (ad 26) :: st)) : K σ φ pc lv (.ref (ad 25) :: st) := g_getN C (T := TX4) iu_4 25 (fun f => at_25 ad dA σ f) rfl 0 (by decide) hl rfl rfl hd k
theorem gg_25_1 (C : Cx K l D ad dA z0 tt cc own nL R) {index : Nat} (hl : Cond.fieldLink own index "CompositeDecoder$LineFinder" "starts" "[I" ∈ lw_all) (hd : decode cc pc = .ok (.getfield index, 3)) (k : K σ φ (pc + 3) lv (.ref (ad 27) :: st)) : K σ φ pc lv (.ref (ad 25) :: st) := g_get C (T := TX4) iu_4 25 (fun f => at_25 ad dA σ f) rfl 1 (by decide) hl rfl rfl hd k
theorem ggN_25_1 (C : Cx K l D ad dA z0 tt cc own nL R) {host : String} {index : Nat} (hl : Cond.fieldLinkNest own index "CompositeDecoder$LineFinder" "starts" "[I" host ∈ lw_nest) (hd : decode cc pc = .ok (.getfield index, 3)) (k : K σ φ (pc + 3) lv (.ref (ad 27) :: st)) : K σ φ pc lv (.ref (ad 25) :: st) := g_getN C (T := TX4) iu_4 25 (fun f => at_25 ad dA σ f) rfl 1 (by decide) hl rfl rfl hd k
theorem gg_25_2 (C : Cx K l D ad dA z0 tt cc own nL R) {index : Nat} (hl : Cond.fieldLink own index "CompositeDecoder$LineFinder" "positions" "[I" ∈ lw_all) (hd : decode cc pc = .ok (.getfield index, 3)) (k : K σ φ (pc + 3) lv (.ref (ad 28) :: st)) : K σ φ pc lv (.ref (ad 25) :: st) := g_get C (T := TX4) iu_4 25 (fun f => at_25 ad dA σ f) rfl 2 (by decide) hl rfl rfl hd k
theorem ggN_25_2 (C : Cx K l D ad dA z0 tt cc own nL R) {host : String} {index : Nat} (hl : Cond.fieldLinkNest own index "CompositeDecoder$LineFinder" "positions" "[I" host ∈ lw_nest) (hd : decode cc pc = .ok (.getfield index, 3)) (k : K σ φ (pc + 3) lv (.ref (ad 28) :: st)) : K σ φ pc lv (.ref (ad 25) :: st) := g_getN C (T := TX4) iu_4 25 (fun f => at_25 ad dA σ f) rfl 2 (by decide) hl rfl rfl hd k
theorem gg_25_3 (C : Cx K l D ad dA z0 tt cc own nL R) {index : Nat} (hl : Cond.fieldLink own index "CompositeDecoder$LineFinder" "locked" "[Z" ∈ lw_all) (hd : decode cc pc = .ok (.getfield index, 3)) (k : K σ φ (pc + 3) lv (.ref (ad 29) :: st)) : K σ φ pc lv (.ref (ad 25) :: st) := g_get C (T := TX4) iu_4 25 (fun f => at_25 ad dA σ f) rfl 3 (by decide) hl rfl rfl hd k
theorem ggN_25_3 (C : Cx K l D ad dA z0 tt cc own nL R) {host : String} {index : Nat} (hl : Cond.fieldLinkNest own index "CompositeDecoder$LineFinder" "locked" "[Z" host ∈ lw_nest) (hd : decode cc pc = .ok (.getfield index, 3)) (k : K σ φ (pc + 3) lv (.ref (ad 29) :: st)) : K σ φ pc lv (.ref (ad 25) :: st) := g_getN C (T := TX4) iu_4 25 (fun f => at_25 ad dA σ f) rfl 3 (by decide) hl rfl rfl hd k
theorem gg_25_4 (C : Cx K l D ad dA z0 tt cc own nL R) {index : Nat} (hl : Cond.fieldLink own index "CompositeDecoder$LineFinder" "position" "I" ∈ lw_all) (hd : decode cc pc = .ok (.getfield index, 3)) (k : K σ φ (pc + 3) lv (.int (σ 25 4) :: st)) : K σ φ pc lv (.ref (ad 25) :: st) := g_get C (T := TX4) iu_4 25 (fun f => at_25 ad dA σ f) rfl 4 (by decide) hl rfl rfl hd k
theorem gp_25_4 (C : Cx K l D ad dA z0 tt cc own nL R) {index : Nat} {x : Int32} (hl : Cond.fieldLink own index "CompositeDecoder$LineFinder" "position" "I" ∈ lw_all) (hd : decode cc pc = .ok (.putfield index, 3)) (k : K (sw σ 25 4 x) φ (pc + 3) lv st) : K σ φ pc lv (.int x :: .ref (ad 25) :: st) := g_put C (T := TX4) (ty := .int) iu_4 tyX4 tyX4_ok nmX4 25 (fun f => at_25 ad dA σ f) rfl 4 (by decide) hl rfl rfl rfl rfl rfl (Nat.le_of_ble_eq_true rfl) (fun f => set_25_4 ad dA σ f x) hd k
theorem ggN_25_4 (C : Cx K l D ad dA z0 tt cc own nL R) {host : String} {index : Nat} (hl : Cond.fieldLinkNest own index "CompositeDecoder$LineFinder" "position" "I" host ∈ lw_nest) (hd : decode cc pc = .ok (.getfield index, 3)) (k : K σ φ (pc + 3) lv (.int (σ 25 4) :: st)) : K σ φ pc lv (.ref (ad 25) :: st) := g_getN C (T := TX4) iu_4 25 (fun f => at_25 ad dA σ f) rfl 4 (by decide) hl rfl rfl hd k
theorem gpN_25_4 (C : Cx K l D ad dA z0 tt cc own nL R) {host : String} {index : Nat} {x : Int32} (hl : Cond.fieldLinkNest own index "CompositeDecoder$LineFinder" "position" "I" host ∈ lw_nest) (hd : decode cc pc = .ok (.putfield index, 3)) (k : K (sw σ 25 4 x) φ (pc + 3) lv st) : K σ φ pc lv (.int x :: .ref (ad 25) :: st) := g_putN C (T := TX4) (ty := .int) iu_4 tyX4 tyX4_ok nmX4 25 (fun f => at_25 ad dA σ f) rfl 4 (by decide) hl rfl rfl rfl rfl rfl (Nat.le_of_ble_eq_true rfl) (fun f => set_25_4 ad dA σ f x) hd k
theorem gg_25_5 (C : Cx K l D ad dA z0 tt cc own nL R) {index : Nat} (hl : Cond.fieldLink own index "CompositeDecoder$LineFinder" "hits" "I" ∈ lw_all) (hd : decode cc pc = .ok (.getfield index, 3)) (k : K σ φ (pc + 3) lv (.int (σ 25 5) :: st)) : K σ φ pc lv (.ref (ad 25) :: st) := g_get C (T := TX4) iu_4 25 (fun f => at_25 ad dA σ f) rfl 5 (by decide) hl rfl rfl hd k
theorem gp_25_5 (C : Cx K l D ad dA z0 tt cc own nL R) {index : Nat} {x : Int32} (hl : Cond.fieldLink own index "CompositeDecoder$LineFinder" "hits" "I" ∈ lw_all) (hd : decode cc pc = .ok (.putfield index, 3)) (k : K (sw σ 25 5 x) φ (pc + 3) lv st) : K σ φ pc lv (.int x :: .ref (ad 25) :: st) := g_put C (T := TX4) (ty := .int) iu_4 tyX4 tyX4_ok nmX4 25 (fun f => at_25 ad dA σ f) rfl 5 (by decide) hl rfl rfl rfl rfl rfl (Nat.le_of_ble_eq_true rfl) (fun f => set_25_5 ad dA σ f x) hd k
theorem ggN_25_5 (C : Cx K l D ad dA z0 tt cc own nL R) {host : String} {index : Nat} (hl : Cond.fieldLinkNest own index "CompositeDecoder$LineFinder" "hits" "I" host ∈ lw_nest) (hd : decode cc pc = .ok (.getfield index, 3)) (k : K σ φ (pc + 3) lv (.int (σ 25 5) :: st)) : K σ φ pc lv (.ref (ad 25) :: st) := g_getN C (T := TX4) iu_4 25 (fun f => at_25 ad dA σ f) rfl 5 (by decide) hl rfl rfl hd k
theorem gpN_25_5 (C : Cx K l D ad dA z0 tt cc own nL R) {host : String} {index : Nat} {x : Int32} (hl : Cond.fieldLinkNest own index "CompositeDecoder$LineFinder" "hits" "I" host ∈ lw_nest) (hd : decode cc pc = .ok (.putfield index, 3)) (k : K (sw σ 25 5 x) φ (pc + 3) lv st) : K σ φ pc lv (.int x :: .ref (ad 25) :: st) := g_putN C (T := TX4) (ty := .int) iu_4 tyX4 tyX4_ok nmX4 25 (fun f => at_25 ad dA σ f) rfl 5 (by decide) hl rfl rfl rfl rfl rfl (Nat.le_of_ble_eq_true rfl) (fun f => set_25_5 ad dA σ f x) hd k
theorem gg_25_6 (C : Cx K l D ad dA z0 tt cc own nL R) {index : Nat} (hl : Cond.fieldLink own index "CompositeDecoder$LineFinder" "misses" "I" ∈ lw_all) (hd : decode cc pc = .ok (.getfield index, 3)) (k : K σ φ (pc + 3) lv (.int (σ 25 6) :: st)) : K σ φ pc lv (.ref (ad 25) :: st) := g_get C (T := TX4) iu_4 25 (fun f => at_25 ad dA σ f) rfl 6 (by decide) hl rfl rfl hd k
theorem gp_25_6 (C : Cx K l D ad dA z0 tt cc own nL R) {index : Nat} {x : Int32} (hl : Cond.fieldLink own index "CompositeDecoder$LineFinder" "misses" "I" ∈ lw_all) (hd : decode cc pc = .ok (.putfield index, 3)) (k : K (sw σ 25 6 x) φ (pc + 3) lv st) : K σ φ pc lv (.int x :: .ref (ad 25) :: st) := g_put C (T := TX4) (ty := .int) iu_4 tyX4 tyX4_ok nmX4 25 (fun f => at_25 ad dA σ f) rfl 6 (by decide) hl rfl rfl rfl rfl rfl (Nat.le_of_ble_eq_true rfl) (fun f => set_25_6 ad dA σ f x) hd k
theorem ggN_25_6 (C : Cx K l D ad dA z0 tt cc own nL R) {host : String} {index : Nat} (hl : Cond.fieldLinkNest own index "CompositeDecoder$LineFinder" "misses" "I" host ∈ lw_nest) (hd : decode cc pc = .ok (.getfield index, 3)) (k : K σ φ (pc + 3) lv (.int (σ 25 6) :: st)) : K σ φ pc lv (.ref (ad 25) :: st) := g_getN C (T := TX4) iu_4 25 (fun f => at_25 ad dA σ f) rfl 6 (by decide) hl rfl rfl hd k
theorem gpN_25_6 (C : Cx K l D ad dA z0 tt cc own nL R) {host : String} {index : Nat} {x : Int32} (hl : Cond.fieldLinkNest own index "CompositeDecoder$LineFinder" "misses" "I" host ∈ lw_nest) (hd : decode cc pc = .ok (.putfield index, 3)) (k : K (sw σ 25 6 x) φ (pc + 3) lv st) : K σ φ pc lv (.int x :: .ref (ad 25) :: st) := g_putN C (T := TX4) (ty := .int) iu_4 tyX4 tyX4_ok nmX4 25 (fun f => at_25 ad dA σ f) rfl 6 (by decide) hl rfl rfl rfl rfl rfl (Nat.le_of_ble_eq_true rfl) (fun f => set_25_6 ad dA σ f x) hd k
theorem gg_25_7 (C : Cx K l D ad dA z0 tt cc own nL R) {index : Nat} (hl : Cond.fieldLink own index "CompositeDecoder$LineFinder" "isLocked" "Z" ∈ lw_all) (hd : decode cc pc = .ok (.getfield index, 3)) (k : K σ φ (pc + 3) lv (.int (σ 25 7) :: st)) : K σ φ pc lv (.ref (ad 25) :: st) := g_get C (T := TX4) iu_4 25 (fun f => at_25 ad dA σ f) rfl 7 (by decide) hl rfl rfl hd k
theorem gp_25_7 (C : Cx K l D ad dA z0 tt cc own nL R) {index : Nat} {x : Int32} (hl : Cond.fieldLink own index "CompositeDecoder$LineFinder" "isLocked" "Z" ∈ lw_all) (hz : x = 0 ∨ x = 1) (hd : decode cc pc = .ok (.putfield index, 3)) (k : K (sw σ 25 7 x) φ (pc + 3) lv st) : K σ φ pc lv (.int x :: .ref (ad 25) :: st) := g_put C (T := TX4) (ty := .boolean) iu_4 tyX4 tyX4_ok nmX4 25 (fun f => at_25 ad dA σ f) rfl 7 (by decide) hl rfl rfl rfl (lv_narrowZ hz).1 (lv_narrowZ hz).2.1 (Nat.le_of_ble_eq_true rfl) (fun f => set_25_7 ad dA σ f x) hd k
theorem ggN_25_7 (C : Cx K l D ad dA z0 tt cc own nL R) {host : String} {index : Nat} (hl : Cond.fieldLinkNest own index "CompositeDecoder$LineFinder" "isLocked" "Z" host ∈ lw_nest) (hd : decode cc pc = .ok (.getfield index, 3)) (k : K σ φ (pc + 3) lv (.int (σ 25 7) :: st)) : K σ φ pc lv (.ref (ad 25) :: st) := g_getN C (T := TX4) iu_4 25 (fun f => at_25 ad dA σ f) rfl 7 (by decide) hl rfl rfl hd k
theorem gpN_25_7 (C : Cx K l D ad dA z0 tt cc own nL R) {host : String} {index : Nat} {x : Int32} (hl : Cond.fieldLinkNest own index "CompositeDecoder$LineFinder" "isLocked" "Z" host ∈ lw_nest) (hz : x = 0 ∨ x = 1) (hd : decode cc pc = .ok (.putfield index, 3)) (k : K (sw σ 25 7 x) φ (pc + 3) lv st) : K σ φ pc lv (.int x :: .ref (ad 25) :: st) := g_putN C (T := TX4) (ty := .boolean) iu_4 tyX4 tyX4_ok nmX4 25 (fun f => at_25 ad dA σ f) rfl 7 (by decide) hl rfl rfl rfl (lv_narrowZ hz).1 (lv_narrowZ hz).2.1 (Nat.le_of_ble_eq_true rfl) (fun f => set_25_7 ad dA σ f x) hd k
theorem ld_26 (C : Cx K l D ad dA z0 tt cc own nL R) {i : Int32} (hin : vp_in i 8) (hd : decode cc pc = .ok (.iaload, 1)) (k : K σ φ (pc + 1) lv (.int (σ 26 i.toNatClampNeg) :: st)) : K σ φ pc lv (.int i :: .ref (ad 26) :: st) := g_iald C 26 (fun f => at_26 ad dA σ f) hin hd k
theorem sd_26 (C : Cx K l D ad dA z0 tt cc own nL R) {i x : Int32} (hin : vp_in i 8) (hd : decode cc pc = .ok (.iastore, 1)) (k : K (sw σ 26 i.toNatClampNeg x) φ (pc + 1) lv st) : K σ φ pc lv (.int x :: .int i :: .ref (ad 26) :: st) := g_iast C 26 (fun f => at_26 ad dA σ f) hin (fun f => set_26 ad dA σ f _) hd k
theorem ld_27 (C : Cx K l D ad dA z0 tt cc own nL R) {i : Int32} (hin : vp_in i 8) (hd : decode cc pc = .ok (.iaload, 1)) (k : K σ φ (pc + 1) lv (.int (σ 27 i.toNatClampNeg) :: st)) : K σ φ pc lv (.int i :: .ref (ad 27) :: st) := g_iald C 27 (fun f => at_27 ad dA σ f) hin hd k
theorem sd_27 (C : Cx K l D ad dA z0 tt cc own nL R) {i x : Int32} (hin : vp_in i 8) (hd : decode cc pc = .ok (.iastore, 1)) (k : K (sw σ 27 i.toNatClampNeg x) φ (pc + 1) lv st) : K σ φ pc lv (.int x :: .int i :: .ref (ad 27) :: st) := g_iast C 27 (fun f => at_27 ad dA σ f) hin (fun f => set_27 ad dA σ f _) hd k
theorem ld_28 (C : Cx K l D ad dA z0 tt cc own nL R) {i : Int32} (hin : vp_in i 8) (hd : decode cc pc = .ok (.iaload, 1)) (k : K σ φ (pc + 1) lv (.int (σ 28 i.toNatClampNeg) :: st)) : K σ φ pc lv (.int i :: .ref (ad 28) :: st) := g_iald C 28 (fun f => at_28 ad dA σ f) hin hd k
theorem sd_28 (C : Cx K l D ad dA z0 tt cc own nL R) {i x : Int32} (hin : vp_in i 8) (hd : decode cc pc = .ok (.iastore, 1)) (k : K (sw σ 28 i.toNatClampNeg x) φ (pc + 1) lv st) : K σ φ pc lv (.int x :: .int i :: .ref (ad 28) :: st) := g_iast C 28 (fun f => at_28 ad dA σ f) hin (fun f => set_28 ad dA σ f _) hd k
theorem ld_29 (C : Cx K l D ad dA z0 tt cc own nL R) {i : Int32} (hin : vp_in i 8) (hd : decode cc pc = .ok (.baload, 1)) (k : K σ φ (pc + 1) lv (.int (σ 29 i.toNatClampNeg) :: st)) : K σ φ pc lv (.int i :: .ref (ad 29) :: st) := g_zald C 29 (fun f => at_29 ad dA σ f) hin hd k
theorem sd_29 (C : Cx K l D ad dA z0 tt cc own nL R) {i x : Int32} (hin : vp_in i 8) (hd : decode cc pc = .ok (.bastore, 1)) (k : K (sw σ 29 i.toNatClampNeg (vp_nar .boolean x)) φ (pc + 1) lv st) : K σ φ pc lv (.int x :: .int i :: .ref (ad 29) :: st) := g_zast C 29 (fun f => at_29 ad dA σ f) hin (fun f => set_29 ad dA σ f _) hd k
theorem gg_30_0 (C : Cx K l D ad dA z0 tt cc own nL R) {index : Nat} (hl : Cond.fieldLink own index "CompositeDecoder$Bursts" "sines" "[I" ∈ lw_all) (hd : decode cc pc = .ok (.getfield index, 3)) (k : K σ φ (pc + 3) lv (.ref (ad 31) :: st)) : K σ φ pc lv (.ref (ad 30) :: st) := g_get C (T := TX1) iu_1 30 (fun f => at_30 ad dA σ f) rfl 0 (by decide) hl rfl rfl hd k
theorem ggN_30_0 (C : Cx K l D ad dA z0 tt cc own nL R) {host : String} {index : Nat} (hl : Cond.fieldLinkNest own index "CompositeDecoder$Bursts" "sines" "[I" host ∈ lw_nest) (hd : decode cc pc = .ok (.getfield index, 3)) (k : K σ φ (pc + 3) lv (.ref (ad 31) :: st)) : K σ φ pc lv (.ref (ad 30) :: st) := g_getN C (T := TX1) iu_1 30 (fun f => at_30 ad dA σ f) rfl 0 (by decide) hl rfl rfl hd k
theorem gg_30_1 (C : Cx K l D ad dA z0 tt cc own nL R) {index : Nat} (hl : Cond.fieldLink own index "CompositeDecoder$Bursts" "cosines" "[I" ∈ lw_all) (hd : decode cc pc = .ok (.getfield index, 3)) (k : K σ φ (pc + 3) lv (.ref (ad 32) :: st)) : K σ φ pc lv (.ref (ad 30) :: st) := g_get C (T := TX1) iu_1 30 (fun f => at_30 ad dA σ f) rfl 1 (by decide) hl rfl rfl hd k
theorem ggN_30_1 (C : Cx K l D ad dA z0 tt cc own nL R) {host : String} {index : Nat} (hl : Cond.fieldLinkNest own index "CompositeDecoder$Bursts" "cosines" "[I" host ∈ lw_nest) (hd : decode cc pc = .ok (.getfield index, 3)) (k : K σ φ (pc + 3) lv (.ref (ad 32) :: st)) : K σ φ pc lv (.ref (ad 30) :: st) := g_getN C (T := TX1) iu_1 30 (fun f => at_30 ad dA σ f) rfl 1 (by decide) hl rfl rfl hd k
theorem gg_30_2 (C : Cx K l D ad dA z0 tt cc own nL R) {index : Nat} (hl : Cond.fieldLink own index "CompositeDecoder$Bursts" "good" "[Z" ∈ lw_all) (hd : decode cc pc = .ok (.getfield index, 3)) (k : K σ φ (pc + 3) lv (.ref (ad 33) :: st)) : K σ φ pc lv (.ref (ad 30) :: st) := g_get C (T := TX1) iu_1 30 (fun f => at_30 ad dA σ f) rfl 2 (by decide) hl rfl rfl hd k
theorem ggN_30_2 (C : Cx K l D ad dA z0 tt cc own nL R) {host : String} {index : Nat} (hl : Cond.fieldLinkNest own index "CompositeDecoder$Bursts" "good" "[Z" host ∈ lw_nest) (hd : decode cc pc = .ok (.getfield index, 3)) (k : K σ φ (pc + 3) lv (.ref (ad 33) :: st)) : K σ φ pc lv (.ref (ad 30) :: st) := g_getN C (T := TX1) iu_1 30 (fun f => at_30 ad dA σ f) rfl 2 (by decide) hl rfl rfl hd k
theorem gg_30_3 (C : Cx K l D ad dA z0 tt cc own nL R) {index : Nat} (hl : Cond.fieldLink own index "CompositeDecoder$Bursts" "colorOn" "[Z" ∈ lw_all) (hd : decode cc pc = .ok (.getfield index, 3)) (k : K σ φ (pc + 3) lv (.ref (ad 34) :: st)) : K σ φ pc lv (.ref (ad 30) :: st) := g_get C (T := TX1) iu_1 30 (fun f => at_30 ad dA σ f) rfl 3 (by decide) hl rfl rfl hd k
theorem ggN_30_3 (C : Cx K l D ad dA z0 tt cc own nL R) {host : String} {index : Nat} (hl : Cond.fieldLinkNest own index "CompositeDecoder$Bursts" "colorOn" "[Z" host ∈ lw_nest) (hd : decode cc pc = .ok (.getfield index, 3)) (k : K σ φ (pc + 3) lv (.ref (ad 34) :: st)) : K σ φ pc lv (.ref (ad 30) :: st) := g_getN C (T := TX1) iu_1 30 (fun f => at_30 ad dA σ f) rfl 3 (by decide) hl rfl rfl hd k
theorem gg_30_4 (C : Cx K l D ad dA z0 tt cc own nL R) {index : Nat} (hl : Cond.fieldLink own index "CompositeDecoder$Bursts" "turnedPairs" "I" ∈ lw_all) (hd : decode cc pc = .ok (.getfield index, 3)) (k : K σ φ (pc + 3) lv (.int (σ 30 4) :: st)) : K σ φ pc lv (.ref (ad 30) :: st) := g_get C (T := TX1) iu_1 30 (fun f => at_30 ad dA σ f) rfl 4 (by decide) hl rfl rfl hd k
theorem gp_30_4 (C : Cx K l D ad dA z0 tt cc own nL R) {index : Nat} {x : Int32} (hl : Cond.fieldLink own index "CompositeDecoder$Bursts" "turnedPairs" "I" ∈ lw_all) (hd : decode cc pc = .ok (.putfield index, 3)) (k : K (sw σ 30 4 x) φ (pc + 3) lv st) : K σ φ pc lv (.int x :: .ref (ad 30) :: st) := g_put C (T := TX1) (ty := .int) iu_1 tyX1 tyX1_ok nmX1 30 (fun f => at_30 ad dA σ f) rfl 4 (by decide) hl rfl rfl rfl rfl rfl (Nat.le_of_ble_eq_true rfl) (fun f => set_30_4 ad dA σ f x) hd k
theorem ggN_30_4 (C : Cx K l D ad dA z0 tt cc own nL R) {host : String} {index : Nat} (hl : Cond.fieldLinkNest own index "CompositeDecoder$Bursts" "turnedPairs" "I" host ∈ lw_nest) (hd : decode cc pc = .ok (.getfield index, 3)) (k : K σ φ (pc + 3) lv (.int (σ 30 4) :: st)) : K σ φ pc lv (.ref (ad 30) :: st) := g_getN C (T := TX1) iu_1 30 (fun f => at_30 ad dA σ f) rfl 4 (by decide) hl rfl rfl hd k
theorem gpN_30_4 (C : Cx K l D ad dA z0 tt cc own nL R) {host : String} {index : Nat} {x : Int32} (hl : Cond.fieldLinkNest own index "CompositeDecoder$Bursts" "turnedPairs" "I" host ∈ lw_nest) (hd : decode cc pc = .ok (.putfield index, 3)) (k : K (sw σ 30 4 x) φ (pc + 3) lv st) : K σ φ pc lv (.int x :: .ref (ad 30) :: st) := g_putN C (T := TX1) (ty := .int) iu_1 tyX1 tyX1_ok nmX1 30 (fun f => at_30 ad dA σ f) rfl 4 (by decide) hl rfl rfl rfl rfl rfl (Nat.le_of_ble_eq_true rfl) (fun f => set_30_4 ad dA σ f x) hd k
theorem gg_30_5 (C : Cx K l D ad dA z0 tt cc own nL R) {index : Nat} (hl : Cond.fieldLink own index "CompositeDecoder$Bursts" "steadyPairs" "I" ∈ lw_all) (hd : decode cc pc = .ok (.getfield index, 3)) (k : K σ φ (pc + 3) lv (.int (σ 30 5) :: st)) : K σ φ pc lv (.ref (ad 30) :: st) := g_get C (T := TX1) iu_1 30 (fun f => at_30 ad dA σ f) rfl 5 (by decide) hl rfl rfl hd k
theorem gp_30_5 (C : Cx K l D ad dA z0 tt cc own nL R) {index : Nat} {x : Int32} (hl : Cond.fieldLink own index "CompositeDecoder$Bursts" "steadyPairs" "I" ∈ lw_all) (hd : decode cc pc = .ok (.putfield index, 3)) (k : K (sw σ 30 5 x) φ (pc + 3) lv st) : K σ φ pc lv (.int x :: .ref (ad 30) :: st) := g_put C (T := TX1) (ty := .int) iu_1 tyX1 tyX1_ok nmX1 30 (fun f => at_30 ad dA σ f) rfl 5 (by decide) hl rfl rfl rfl rfl rfl (Nat.le_of_ble_eq_true rfl) (fun f => set_30_5 ad dA σ f x) hd k
theorem ggN_30_5 (C : Cx K l D ad dA z0 tt cc own nL R) {host : String} {index : Nat} (hl : Cond.fieldLinkNest own index "CompositeDecoder$Bursts" "steadyPairs" "I" host ∈ lw_nest) (hd : decode cc pc = .ok (.getfield index, 3)) (k : K σ φ (pc + 3) lv (.int (σ 30 5) :: st)) : K σ φ pc lv (.ref (ad 30) :: st) := g_getN C (T := TX1) iu_1 30 (fun f => at_30 ad dA σ f) rfl 5 (by decide) hl rfl rfl hd k
theorem gpN_30_5 (C : Cx K l D ad dA z0 tt cc own nL R) {host : String} {index : Nat} {x : Int32} (hl : Cond.fieldLinkNest own index "CompositeDecoder$Bursts" "steadyPairs" "I" host ∈ lw_nest) (hd : decode cc pc = .ok (.putfield index, 3)) (k : K (sw σ 30 5 x) φ (pc + 3) lv st) : K σ φ pc lv (.int x :: .ref (ad 30) :: st) := g_putN C (T := TX1) (ty := .int) iu_1 tyX1 tyX1_ok nmX1 30 (fun f => at_30 ad dA σ f) rfl 5 (by decide) hl rfl rfl rfl rfl rfl (Nat.le_of_ble_eq_true rfl) (fun f => set_30_5 ad dA σ f x) hd k
theorem ld_31 (C : Cx K l D ad dA z0 tt cc own nL R) {i : Int32} (hin : vp_in i 8) (hd : decode cc pc = .ok (.iaload, 1)) (k : K σ φ (pc + 1) lv (.int (σ 31 i.toNatClampNeg) :: st)) : K σ φ pc lv (.int i :: .ref (ad 31) :: st) := g_iald C 31 (fun f => at_31 ad dA σ f) hin hd k
theorem sd_31 (C : Cx K l D ad dA z0 tt cc own nL R) {i x : Int32} (hin : vp_in i 8) (hd : decode cc pc = .ok (.iastore, 1)) (k : K (sw σ 31 i.toNatClampNeg x) φ (pc + 1) lv st) : K σ φ pc lv (.int x :: .int i :: .ref (ad 31) :: st) := g_iast C 31 (fun f => at_31 ad dA σ f) hin (fun f => set_31 ad dA σ f _) hd k
theorem ld_32 (C : Cx K l D ad dA z0 tt cc own nL R) {i : Int32} (hin : vp_in i 8) (hd : decode cc pc = .ok (.iaload, 1)) (k : K σ φ (pc + 1) lv (.int (σ 32 i.toNatClampNeg) :: st)) : K σ φ pc lv (.int i :: .ref (ad 32) :: st) := g_iald C 32 (fun f => at_32 ad dA σ f) hin hd k
theorem sd_32 (C : Cx K l D ad dA z0 tt cc own nL R) {i x : Int32} (hin : vp_in i 8) (hd : decode cc pc = .ok (.iastore, 1)) (k : K (sw σ 32 i.toNatClampNeg x) φ (pc + 1) lv st) : K σ φ pc lv (.int x :: .int i :: .ref (ad 32) :: st) := g_iast C 32 (fun f => at_32 ad dA σ f) hin (fun f => set_32 ad dA σ f _) hd k
theorem ld_33 (C : Cx K l D ad dA z0 tt cc own nL R) {i : Int32} (hin : vp_in i 8) (hd : decode cc pc = .ok (.baload, 1)) (k : K σ φ (pc + 1) lv (.int (σ 33 i.toNatClampNeg) :: st)) : K σ φ pc lv (.int i :: .ref (ad 33) :: st) := g_zald C 33 (fun f => at_33 ad dA σ f) hin hd k
theorem sd_33 (C : Cx K l D ad dA z0 tt cc own nL R) {i x : Int32} (hin : vp_in i 8) (hd : decode cc pc = .ok (.bastore, 1)) (k : K (sw σ 33 i.toNatClampNeg (vp_nar .boolean x)) φ (pc + 1) lv st) : K σ φ pc lv (.int x :: .int i :: .ref (ad 33) :: st) := g_zast C 33 (fun f => at_33 ad dA σ f) hin (fun f => set_33 ad dA σ f _) hd k
theorem ld_34 (C : Cx K l D ad dA z0 tt cc own nL R) {i : Int32} (hin : vp_in i 8) (hd : decode cc pc = .ok (.baload, 1)) (k : K σ φ (pc + 1) lv (.int (σ 34 i.toNatClampNeg) :: st)) : K σ φ pc lv (.int i :: .ref (ad 34) :: st) := g_zald C 34 (fun f => at_34 ad dA σ f) hin hd k
theorem sd_34 (C : Cx K l D ad dA z0 tt cc own nL R) {i x : Int32} (hin : vp_in i 8) (hd : decode cc pc = .ok (.bastore, 1)) (k : K (sw σ 34 i.toNatClampNeg (vp_nar .boolean x)) φ (pc + 1) lv st) : K σ φ pc lv (.int x :: .int i :: .ref (ad 34) :: st) := g_zast C 34 (fun f => at_34 ad dA σ f) hin (fun f => set_34 ad dA σ f _) hd k
theorem gg_35_0 (C : Cx K l D ad dA z0 tt cc own nL R) {index : Nat} (hl : Cond.fieldLink own index "CompositeDecoder$PhaseReference" "sines" "[F" ∈ lw_all) (hd : decode cc pc = .ok (.getfield index, 3)) (k : K σ φ (pc + 3) lv (.ref (ad 36) :: st)) : K σ φ pc lv (.ref (ad 35) :: st) := g_get C (T := TX6) iu_6 35 (fun f => at_35 ad dA σ f) rfl 0 (by decide) hl rfl rfl hd k
theorem ggN_35_0 (C : Cx K l D ad dA z0 tt cc own nL R) {host : String} {index : Nat} (hl : Cond.fieldLinkNest own index "CompositeDecoder$PhaseReference" "sines" "[F" host ∈ lw_nest) (hd : decode cc pc = .ok (.getfield index, 3)) (k : K σ φ (pc + 3) lv (.ref (ad 36) :: st)) : K σ φ pc lv (.ref (ad 35) :: st) := g_getN C (T := TX6) iu_6 35 (fun f => at_35 ad dA σ f) rfl 0 (by decide) hl rfl rfl hd k
theorem gg_35_1 (C : Cx K l D ad dA z0 tt cc own nL R) {index : Nat} (hl : Cond.fieldLink own index "CompositeDecoder$PhaseReference" "cosines" "[F" ∈ lw_all) (hd : decode cc pc = .ok (.getfield index, 3)) (k : K σ φ (pc + 3) lv (.ref (ad 37) :: st)) : K σ φ pc lv (.ref (ad 35) :: st) := g_get C (T := TX6) iu_6 35 (fun f => at_35 ad dA σ f) rfl 1 (by decide) hl rfl rfl hd k
theorem ggN_35_1 (C : Cx K l D ad dA z0 tt cc own nL R) {host : String} {index : Nat} (hl : Cond.fieldLinkNest own index "CompositeDecoder$PhaseReference" "cosines" "[F" host ∈ lw_nest) (hd : decode cc pc = .ok (.getfield index, 3)) (k : K σ φ (pc + 3) lv (.ref (ad 37) :: st)) : K σ φ pc lv (.ref (ad 35) :: st) := g_getN C (T := TX6) iu_6 35 (fun f => at_35 ad dA σ f) rfl 1 (by decide) hl rfl rfl hd k
theorem ld_36 (C : Cx K l D ad dA z0 tt cc own nL R) {i : Int32} (hin : vp_in i 8) (hd : decode cc pc = .ok (.faload, 1)) (k : K σ φ (pc + 1) lv (.float (φ 36 i.toNatClampNeg) :: st)) : K σ φ pc lv (.int i :: .ref (ad 36) :: st) := g_fald C 36 (fun f => at_36 ad dA σ f) hin hd k
theorem sd_36 (C : Cx K l D ad dA z0 tt cc own nL R) {i : Int32} {x : UInt32} (hin : vp_in i 8) (hd : decode cc pc = .ok (.fastore, 1)) (k : K σ (fw φ 36 i.toNatClampNeg x) (pc + 1) lv st) : K σ φ pc lv (.float x :: .int i :: .ref (ad 36) :: st) := g_fast C 36 (fun f => at_36 ad dA σ f) hin (fun f g => set_36 ad dA σ f g) hd k
theorem ld_37 (C : Cx K l D ad dA z0 tt cc own nL R) {i : Int32} (hin : vp_in i 8) (hd : decode cc pc = .ok (.faload, 1)) (k : K σ φ (pc + 1) lv (.float (φ 37 i.toNatClampNeg) :: st)) : K σ φ pc lv (.int i :: .ref (ad 37) :: st) := g_fald C 37 (fun f => at_37 ad dA σ f) hin hd k
theorem sd_37 (C : Cx K l D ad dA z0 tt cc own nL R) {i : Int32} {x : UInt32} (hin : vp_in i 8) (hd : decode cc pc = .ok (.fastore, 1)) (k : K σ (fw φ 37 i.toNatClampNeg x) (pc + 1) lv st) : K σ φ pc lv (.float x :: .int i :: .ref (ad 37) :: st) := g_fast C 37 (fun f => at_37 ad dA σ f) hin (fun f g => set_37 ad dA σ f g) hd k
theorem gg_38_0 (C : Cx K l D ad dA z0 tt cc own nL R) {index : Nat} (hl : Cond.fieldLink own index "CompositeDecoder$Combs" "sums" "[I" ∈ lw_all) (hd : decode cc pc = .ok (.getfield index, 3)) (k : K σ φ (pc + 3) lv (.ref (ad 39) :: st)) : K σ φ pc lv (.ref (ad 38) :: st) := g_get C (T := TX3) iu_3 38 (fun f => at_38 ad dA σ f) rfl 0 (by decide) hl rfl rfl hd k
theorem ggN_38_0 (C : Cx K l D ad dA z0 tt cc own nL R) {host : String} {index : Nat} (hl : Cond.fieldLinkNest own index "CompositeDecoder$Combs" "sums" "[I" host ∈ lw_nest) (hd : decode cc pc = .ok (.getfield index, 3)) (k : K σ φ (pc + 3) lv (.ref (ad 39) :: st)) : K σ φ pc lv (.ref (ad 38) :: st) := g_getN C (T := TX3) iu_3 38 (fun f => at_38 ad dA σ f) rfl 0 (by decide) hl rfl rfl hd k
theorem gg_38_1 (C : Cx K l D ad dA z0 tt cc own nL R) {index : Nat} (hl : Cond.fieldLink own index "CompositeDecoder$Combs" "lumas" "[I" ∈ lw_all) (hd : decode cc pc = .ok (.getfield index, 3)) (k : K σ φ (pc + 3) lv (.ref (ad 40) :: st)) : K σ φ pc lv (.ref (ad 38) :: st) := g_get C (T := TX3) iu_3 38 (fun f => at_38 ad dA σ f) rfl 1 (by decide) hl rfl rfl hd k
theorem ggN_38_1 (C : Cx K l D ad dA z0 tt cc own nL R) {host : String} {index : Nat} (hl : Cond.fieldLinkNest own index "CompositeDecoder$Combs" "lumas" "[I" host ∈ lw_nest) (hd : decode cc pc = .ok (.getfield index, 3)) (k : K σ φ (pc + 3) lv (.ref (ad 40) :: st)) : K σ φ pc lv (.ref (ad 38) :: st) := g_getN C (T := TX3) iu_3 38 (fun f => at_38 ad dA σ f) rfl 1 (by decide) hl rfl rfl hd k
theorem gg_38_2 (C : Cx K l D ad dA z0 tt cc own nL R) {index : Nat} (hl : Cond.fieldLink own index "CompositeDecoder$Combs" "ways" "[I" ∈ lw_all) (hd : decode cc pc = .ok (.getfield index, 3)) (k : K σ φ (pc + 3) lv (.ref (ad 41) :: st)) : K σ φ pc lv (.ref (ad 38) :: st) := g_get C (T := TX3) iu_3 38 (fun f => at_38 ad dA σ f) rfl 2 (by decide) hl rfl rfl hd k
theorem ggN_38_2 (C : Cx K l D ad dA z0 tt cc own nL R) {host : String} {index : Nat} (hl : Cond.fieldLinkNest own index "CompositeDecoder$Combs" "ways" "[I" host ∈ lw_nest) (hd : decode cc pc = .ok (.getfield index, 3)) (k : K σ φ (pc + 3) lv (.ref (ad 41) :: st)) : K σ φ pc lv (.ref (ad 38) :: st) := g_getN C (T := TX3) iu_3 38 (fun f => at_38 ad dA σ f) rfl 2 (by decide) hl rfl rfl hd k
theorem gg_38_3 (C : Cx K l D ad dA z0 tt cc own nL R) {index : Nat} (hl : Cond.fieldLink own index "CompositeDecoder$Combs" "sines" "[I" ∈ lw_all) (hd : decode cc pc = .ok (.getfield index, 3)) (k : K σ φ (pc + 3) lv (.ref (ad 42) :: st)) : K σ φ pc lv (.ref (ad 38) :: st) := g_get C (T := TX3) iu_3 38 (fun f => at_38 ad dA σ f) rfl 3 (by decide) hl rfl rfl hd k
theorem ggN_38_3 (C : Cx K l D ad dA z0 tt cc own nL R) {host : String} {index : Nat} (hl : Cond.fieldLinkNest own index "CompositeDecoder$Combs" "sines" "[I" host ∈ lw_nest) (hd : decode cc pc = .ok (.getfield index, 3)) (k : K σ φ (pc + 3) lv (.ref (ad 42) :: st)) : K σ φ pc lv (.ref (ad 38) :: st) := g_getN C (T := TX3) iu_3 38 (fun f => at_38 ad dA σ f) rfl 3 (by decide) hl rfl rfl hd k
theorem gg_38_4 (C : Cx K l D ad dA z0 tt cc own nL R) {index : Nat} (hl : Cond.fieldLink own index "CompositeDecoder$Combs" "cosines" "[I" ∈ lw_all) (hd : decode cc pc = .ok (.getfield index, 3)) (k : K σ φ (pc + 3) lv (.ref (ad 43) :: st)) : K σ φ pc lv (.ref (ad 38) :: st) := g_get C (T := TX3) iu_3 38 (fun f => at_38 ad dA σ f) rfl 4 (by decide) hl rfl rfl hd k
theorem ggN_38_4 (C : Cx K l D ad dA z0 tt cc own nL R) {host : String} {index : Nat} (hl : Cond.fieldLinkNest own index "CompositeDecoder$Combs" "cosines" "[I" host ∈ lw_nest) (hd : decode cc pc = .ok (.getfield index, 3)) (k : K σ φ (pc + 3) lv (.ref (ad 43) :: st)) : K σ φ pc lv (.ref (ad 38) :: st) := g_getN C (T := TX3) iu_3 38 (fun f => at_38 ad dA σ f) rfl 4 (by decide) hl rfl rfl hd k
theorem ld_39 (C : Cx K l D ad dA z0 tt cc own nL R) {i : Int32} (hin : vp_in i 80) (hd : decode cc pc = .ok (.iaload, 1)) (k : K σ φ (pc + 1) lv (.int (σ 39 i.toNatClampNeg) :: st)) : K σ φ pc lv (.int i :: .ref (ad 39) :: st) := g_iald C 39 (fun f => at_39 ad dA σ f) hin hd k
theorem sd_39 (C : Cx K l D ad dA z0 tt cc own nL R) {i x : Int32} (hin : vp_in i 80) (hd : decode cc pc = .ok (.iastore, 1)) (k : K (sw σ 39 i.toNatClampNeg x) φ (pc + 1) lv st) : K σ φ pc lv (.int x :: .int i :: .ref (ad 39) :: st) := g_iast C 39 (fun f => at_39 ad dA σ f) hin (fun f => set_39 ad dA σ f _) hd k
theorem ld_40 (C : Cx K l D ad dA z0 tt cc own nL R) {i : Int32} (hin : vp_in i 80) (hd : decode cc pc = .ok (.iaload, 1)) (k : K σ φ (pc + 1) lv (.int (σ 40 i.toNatClampNeg) :: st)) : K σ φ pc lv (.int i :: .ref (ad 40) :: st) := g_iald C 40 (fun f => at_40 ad dA σ f) hin hd k
theorem sd_40 (C : Cx K l D ad dA z0 tt cc own nL R) {i x : Int32} (hin : vp_in i 80) (hd : decode cc pc = .ok (.iastore, 1)) (k : K (sw σ 40 i.toNatClampNeg x) φ (pc + 1) lv st) : K σ φ pc lv (.int x :: .int i :: .ref (ad 40) :: st) := g_iast C 40 (fun f => at_40 ad dA σ f) hin (fun f => set_40 ad dA σ f _) hd k
theorem ld_41 (C : Cx K l D ad dA z0 tt cc own nL R) {i : Int32} (hin : vp_in i 80) (hd : decode cc pc = .ok (.iaload, 1)) (k : K σ φ (pc + 1) lv (.int (σ 41 i.toNatClampNeg) :: st)) : K σ φ pc lv (.int i :: .ref (ad 41) :: st) := g_iald C 41 (fun f => at_41 ad dA σ f) hin hd k
theorem sd_41 (C : Cx K l D ad dA z0 tt cc own nL R) {i x : Int32} (hin : vp_in i 80) (hd : decode cc pc = .ok (.iastore, 1)) (k : K (sw σ 41 i.toNatClampNeg x) φ (pc + 1) lv st) : K σ φ pc lv (.int x :: .int i :: .ref (ad 41) :: st) := g_iast C 41 (fun f => at_41 ad dA σ f) hin (fun f => set_41 ad dA σ f _) hd k
theorem ld_42 (C : Cx K l D ad dA z0 tt cc own nL R) {i : Int32} (hin : vp_in i 80) (hd : decode cc pc = .ok (.iaload, 1)) (k : K σ φ (pc + 1) lv (.int (σ 42 i.toNatClampNeg) :: st)) : K σ φ pc lv (.int i :: .ref (ad 42) :: st) := g_iald C 42 (fun f => at_42 ad dA σ f) hin hd k
theorem sd_42 (C : Cx K l D ad dA z0 tt cc own nL R) {i x : Int32} (hin : vp_in i 80) (hd : decode cc pc = .ok (.iastore, 1)) (k : K (sw σ 42 i.toNatClampNeg x) φ (pc + 1) lv st) : K σ φ pc lv (.int x :: .int i :: .ref (ad 42) :: st) := g_iast C 42 (fun f => at_42 ad dA σ f) hin (fun f => set_42 ad dA σ f _) hd k
theorem ld_43 (C : Cx K l D ad dA z0 tt cc own nL R) {i : Int32} (hin : vp_in i 80) (hd : decode cc pc = .ok (.iaload, 1)) (k : K σ φ (pc + 1) lv (.int (σ 43 i.toNatClampNeg) :: st)) : K σ φ pc lv (.int i :: .ref (ad 43) :: st) := g_iald C 43 (fun f => at_43 ad dA σ f) hin hd k
theorem sd_43 (C : Cx K l D ad dA z0 tt cc own nL R) {i x : Int32} (hin : vp_in i 80) (hd : decode cc pc = .ok (.iastore, 1)) (k : K (sw σ 43 i.toNatClampNeg x) φ (pc + 1) lv st) : K σ φ pc lv (.int x :: .int i :: .ref (ad 43) :: st) := g_iast C 43 (fun f => at_43 ad dA σ f) hin (fun f => set_43 ad dA σ f _) hd k
theorem gg_44_0 (C : Cx K l D ad dA z0 tt cc own nL R) {index : Nat} (hl : Cond.fieldLink own index "CompositeDecoder$Colors" "rawUs" "[F" ∈ lw_all) (hd : decode cc pc = .ok (.getfield index, 3)) (k : K σ φ (pc + 3) lv (.ref (ad 45) :: st)) : K σ φ pc lv (.ref (ad 44) :: st) := g_get C (T := TX2) iu_2 44 (fun f => at_44 ad dA σ f) rfl 0 (by decide) hl rfl rfl hd k
theorem ggN_44_0 (C : Cx K l D ad dA z0 tt cc own nL R) {host : String} {index : Nat} (hl : Cond.fieldLinkNest own index "CompositeDecoder$Colors" "rawUs" "[F" host ∈ lw_nest) (hd : decode cc pc = .ok (.getfield index, 3)) (k : K σ φ (pc + 3) lv (.ref (ad 45) :: st)) : K σ φ pc lv (.ref (ad 44) :: st) := g_getN C (T := TX2) iu_2 44 (fun f => at_44 ad dA σ f) rfl 0 (by decide) hl rfl rfl hd k
theorem gg_44_1 (C : Cx K l D ad dA z0 tt cc own nL R) {index : Nat} (hl : Cond.fieldLink own index "CompositeDecoder$Colors" "rawVs" "[F" ∈ lw_all) (hd : decode cc pc = .ok (.getfield index, 3)) (k : K σ φ (pc + 3) lv (.ref (ad 46) :: st)) : K σ φ pc lv (.ref (ad 44) :: st) := g_get C (T := TX2) iu_2 44 (fun f => at_44 ad dA σ f) rfl 1 (by decide) hl rfl rfl hd k
theorem ggN_44_1 (C : Cx K l D ad dA z0 tt cc own nL R) {host : String} {index : Nat} (hl : Cond.fieldLinkNest own index "CompositeDecoder$Colors" "rawVs" "[F" host ∈ lw_nest) (hd : decode cc pc = .ok (.getfield index, 3)) (k : K σ φ (pc + 3) lv (.ref (ad 46) :: st)) : K σ φ pc lv (.ref (ad 44) :: st) := g_getN C (T := TX2) iu_2 44 (fun f => at_44 ad dA σ f) rfl 1 (by decide) hl rfl rfl hd k
theorem gg_44_2 (C : Cx K l D ad dA z0 tt cc own nL R) {index : Nat} (hl : Cond.fieldLink own index "CompositeDecoder$Colors" "us" "[F" ∈ lw_all) (hd : decode cc pc = .ok (.getfield index, 3)) (k : K σ φ (pc + 3) lv (.ref (ad 47) :: st)) : K σ φ pc lv (.ref (ad 44) :: st) := g_get C (T := TX2) iu_2 44 (fun f => at_44 ad dA σ f) rfl 2 (by decide) hl rfl rfl hd k
theorem ggN_44_2 (C : Cx K l D ad dA z0 tt cc own nL R) {host : String} {index : Nat} (hl : Cond.fieldLinkNest own index "CompositeDecoder$Colors" "us" "[F" host ∈ lw_nest) (hd : decode cc pc = .ok (.getfield index, 3)) (k : K σ φ (pc + 3) lv (.ref (ad 47) :: st)) : K σ φ pc lv (.ref (ad 44) :: st) := g_getN C (T := TX2) iu_2 44 (fun f => at_44 ad dA σ f) rfl 2 (by decide) hl rfl rfl hd k
theorem gg_44_3 (C : Cx K l D ad dA z0 tt cc own nL R) {index : Nat} (hl : Cond.fieldLink own index "CompositeDecoder$Colors" "vs" "[F" ∈ lw_all) (hd : decode cc pc = .ok (.getfield index, 3)) (k : K σ φ (pc + 3) lv (.ref (ad 48) :: st)) : K σ φ pc lv (.ref (ad 44) :: st) := g_get C (T := TX2) iu_2 44 (fun f => at_44 ad dA σ f) rfl 3 (by decide) hl rfl rfl hd k
theorem ggN_44_3 (C : Cx K l D ad dA z0 tt cc own nL R) {host : String} {index : Nat} (hl : Cond.fieldLinkNest own index "CompositeDecoder$Colors" "vs" "[F" host ∈ lw_nest) (hd : decode cc pc = .ok (.getfield index, 3)) (k : K σ φ (pc + 3) lv (.ref (ad 48) :: st)) : K σ φ pc lv (.ref (ad 44) :: st) := g_getN C (T := TX2) iu_2 44 (fun f => at_44 ad dA σ f) rfl 3 (by decide) hl rfl rfl hd k
theorem ld_45 (C : Cx K l D ad dA z0 tt cc own nL R) {i : Int32} (hin : vp_in i 80) (hd : decode cc pc = .ok (.faload, 1)) (k : K σ φ (pc + 1) lv (.float (φ 45 i.toNatClampNeg) :: st)) : K σ φ pc lv (.int i :: .ref (ad 45) :: st) := g_fald C 45 (fun f => at_45 ad dA σ f) hin hd k
theorem sd_45 (C : Cx K l D ad dA z0 tt cc own nL R) {i : Int32} {x : UInt32} (hin : vp_in i 80) (hd : decode cc pc = .ok (.fastore, 1)) (k : K σ (fw φ 45 i.toNatClampNeg x) (pc + 1) lv st) : K σ φ pc lv (.float x :: .int i :: .ref (ad 45) :: st) := g_fast C 45 (fun f => at_45 ad dA σ f) hin (fun f g => set_45 ad dA σ f g) hd k
theorem ld_46 (C : Cx K l D ad dA z0 tt cc own nL R) {i : Int32} (hin : vp_in i 80) (hd : decode cc pc = .ok (.faload, 1)) (k : K σ φ (pc + 1) lv (.float (φ 46 i.toNatClampNeg) :: st)) : K σ φ pc lv (.int i :: .ref (ad 46) :: st) := g_fald C 46 (fun f => at_46 ad dA σ f) hin hd k
theorem sd_46 (C : Cx K l D ad dA z0 tt cc own nL R) {i : Int32} {x : UInt32} (hin : vp_in i 80) (hd : decode cc pc = .ok (.fastore, 1)) (k : K σ (fw φ 46 i.toNatClampNeg x) (pc + 1) lv st) : K σ φ pc lv (.float x :: .int i :: .ref (ad 46) :: st) := g_fast C 46 (fun f => at_46 ad dA σ f) hin (fun f g => set_46 ad dA σ f g) hd k
theorem ld_47 (C : Cx K l D ad dA z0 tt cc own nL R) {i : Int32} (hin : vp_in i 80) (hd : decode cc pc = .ok (.faload, 1)) (k : K σ φ (pc + 1) lv (.float (φ 47 i.toNatClampNeg) :: st)) : K σ φ pc lv (.int i :: .ref (ad 47) :: st) := g_fald C 47 (fun f => at_47 ad dA σ f) hin hd k
theorem sd_47 (C : Cx K l D ad dA z0 tt cc own nL R) {i : Int32} {x : UInt32} (hin : vp_in i 80) (hd : decode cc pc = .ok (.fastore, 1)) (k : K σ (fw φ 47 i.toNatClampNeg x) (pc + 1) lv st) : K σ φ pc lv (.float x :: .int i :: .ref (ad 47) :: st) := g_fast C 47 (fun f => at_47 ad dA σ f) hin (fun f g => set_47 ad dA σ f g) hd k
theorem ld_48 (C : Cx K l D ad dA z0 tt cc own nL R) {i : Int32} (hin : vp_in i 80) (hd : decode cc pc = .ok (.faload, 1)) (k : K σ φ (pc + 1) lv (.float (φ 48 i.toNatClampNeg) :: st)) : K σ φ pc lv (.int i :: .ref (ad 48) :: st) := g_fald C 48 (fun f => at_48 ad dA σ f) hin hd k
theorem sd_48 (C : Cx K l D ad dA z0 tt cc own nL R) {i : Int32} {x : UInt32} (hin : vp_in i 80) (hd : decode cc pc = .ok (.fastore, 1)) (k : K σ (fw φ 48 i.toNatClampNeg x) (pc + 1) lv st) : K σ φ pc lv (.float x :: .int i :: .ref (ad 48) :: st) := g_fast C 48 (fun f => at_48 ad dA σ f) hin (fun f g => set_48 ad dA σ f g) hd k
theorem gg_49_0 (C : Cx K l D ad dA z0 tt cc own nL R) {index : Nat} (hl : Cond.fieldLink own index "CompositeDecoder$Movement" "lumasBefore" "[I" ∈ lw_all) (hd : decode cc pc = .ok (.getfield index, 3)) (k : K σ φ (pc + 3) lv (.ref (ad 50) :: st)) : K σ φ pc lv (.ref (ad 49) :: st) := g_get C (T := TX5) iu_5 49 (fun f => at_49 ad dA σ f) rfl 0 (by decide) hl rfl rfl hd k
theorem ggN_49_0 (C : Cx K l D ad dA z0 tt cc own nL R) {host : String} {index : Nat} (hl : Cond.fieldLinkNest own index "CompositeDecoder$Movement" "lumasBefore" "[I" host ∈ lw_nest) (hd : decode cc pc = .ok (.getfield index, 3)) (k : K σ φ (pc + 3) lv (.ref (ad 50) :: st)) : K σ φ pc lv (.ref (ad 49) :: st) := g_getN C (T := TX5) iu_5 49 (fun f => at_49 ad dA σ f) rfl 0 (by decide) hl rfl rfl hd k
theorem gg_49_1 (C : Cx K l D ad dA z0 tt cc own nL R) {index : Nat} (hl : Cond.fieldLink own index "CompositeDecoder$Movement" "changed" "[Z" ∈ lw_all) (hd : decode cc pc = .ok (.getfield index, 3)) (k : K σ φ (pc + 3) lv (.ref (ad 51) :: st)) : K σ φ pc lv (.ref (ad 49) :: st) := g_get C (T := TX5) iu_5 49 (fun f => at_49 ad dA σ f) rfl 1 (by decide) hl rfl rfl hd k
theorem ggN_49_1 (C : Cx K l D ad dA z0 tt cc own nL R) {host : String} {index : Nat} (hl : Cond.fieldLinkNest own index "CompositeDecoder$Movement" "changed" "[Z" host ∈ lw_nest) (hd : decode cc pc = .ok (.getfield index, 3)) (k : K σ φ (pc + 3) lv (.ref (ad 51) :: st)) : K σ φ pc lv (.ref (ad 49) :: st) := g_getN C (T := TX5) iu_5 49 (fun f => at_49 ad dA σ f) rfl 1 (by decide) hl rfl rfl hd k
theorem gg_49_2 (C : Cx K l D ad dA z0 tt cc own nL R) {index : Nat} (hl : Cond.fieldLink own index "CompositeDecoder$Movement" "kinds" "[I" ∈ lw_all) (hd : decode cc pc = .ok (.getfield index, 3)) (k : K σ φ (pc + 3) lv (.ref (ad 52) :: st)) : K σ φ pc lv (.ref (ad 49) :: st) := g_get C (T := TX5) iu_5 49 (fun f => at_49 ad dA σ f) rfl 2 (by decide) hl rfl rfl hd k
theorem ggN_49_2 (C : Cx K l D ad dA z0 tt cc own nL R) {host : String} {index : Nat} (hl : Cond.fieldLinkNest own index "CompositeDecoder$Movement" "kinds" "[I" host ∈ lw_nest) (hd : decode cc pc = .ok (.getfield index, 3)) (k : K σ φ (pc + 3) lv (.ref (ad 52) :: st)) : K σ φ pc lv (.ref (ad 49) :: st) := g_getN C (T := TX5) iu_5 49 (fun f => at_49 ad dA σ f) rfl 2 (by decide) hl rfl rfl hd k
theorem ld_50 (C : Cx K l D ad dA z0 tt cc own nL R) {i : Int32} (hin : vp_in i 80) (hd : decode cc pc = .ok (.iaload, 1)) (k : K σ φ (pc + 1) lv (.int (σ 50 i.toNatClampNeg) :: st)) : K σ φ pc lv (.int i :: .ref (ad 50) :: st) := g_iald C 50 (fun f => at_50 ad dA σ f) hin hd k
theorem sd_50 (C : Cx K l D ad dA z0 tt cc own nL R) {i x : Int32} (hin : vp_in i 80) (hd : decode cc pc = .ok (.iastore, 1)) (k : K (sw σ 50 i.toNatClampNeg x) φ (pc + 1) lv st) : K σ φ pc lv (.int x :: .int i :: .ref (ad 50) :: st) := g_iast C 50 (fun f => at_50 ad dA σ f) hin (fun f => set_50 ad dA σ f _) hd k
theorem ld_51 (C : Cx K l D ad dA z0 tt cc own nL R) {i : Int32} (hin : vp_in i 80) (hd : decode cc pc = .ok (.baload, 1)) (k : K σ φ (pc + 1) lv (.int (σ 51 i.toNatClampNeg) :: st)) : K σ φ pc lv (.int i :: .ref (ad 51) :: st) := g_zald C 51 (fun f => at_51 ad dA σ f) hin hd k
theorem sd_51 (C : Cx K l D ad dA z0 tt cc own nL R) {i x : Int32} (hin : vp_in i 80) (hd : decode cc pc = .ok (.bastore, 1)) (k : K (sw σ 51 i.toNatClampNeg (vp_nar .boolean x)) φ (pc + 1) lv st) : K σ φ pc lv (.int x :: .int i :: .ref (ad 51) :: st) := g_zast C 51 (fun f => at_51 ad dA σ f) hin (fun f => set_51 ad dA σ f _) hd k
theorem ld_52 (C : Cx K l D ad dA z0 tt cc own nL R) {i : Int32} (hin : vp_in i 80) (hd : decode cc pc = .ok (.iaload, 1)) (k : K σ φ (pc + 1) lv (.int (σ 52 i.toNatClampNeg) :: st)) : K σ φ pc lv (.int i :: .ref (ad 52) :: st) := g_iald C 52 (fun f => at_52 ad dA σ f) hin hd k
theorem sd_52 (C : Cx K l D ad dA z0 tt cc own nL R) {i x : Int32} (hin : vp_in i 80) (hd : decode cc pc = .ok (.iastore, 1)) (k : K (sw σ 52 i.toNatClampNeg x) φ (pc + 1) lv st) : K σ φ pc lv (.int x :: .int i :: .ref (ad 52) :: st) := g_iast C 52 (fun f => at_52 ad dA σ f) hin (fun f => set_52 ad dA σ f _) hd k
theorem ld_53 (C : Cx K l D ad dA z0 tt cc own nL R) {i : Int32} (hin : vp_in i 40) (hd : decode cc pc = .ok (.iaload, 1)) (k : K σ φ (pc + 1) lv (.int (σ 53 i.toNatClampNeg) :: st)) : K σ φ pc lv (.int i :: .ref (ad 53) :: st) := g_iald C 53 (fun f => at_53 ad dA σ f) hin hd k
theorem sd_53 (C : Cx K l D ad dA z0 tt cc own nL R) {i x : Int32} (hin : vp_in i 40) (hd : decode cc pc = .ok (.iastore, 1)) (k : K (sw σ 53 i.toNatClampNeg x) φ (pc + 1) lv st) : K σ φ pc lv (.int x :: .int i :: .ref (ad 53) :: st) := g_iast C 53 (fun f => at_53 ad dA σ f) hin (fun f => set_53 ad dA σ f _) hd k
theorem ld_54 (C : Cx K l D ad dA z0 tt cc own nL R) {i : Int32} (hin : vp_in i 40) (hd : decode cc pc = .ok (.iaload, 1)) (k : K σ φ (pc + 1) lv (.int (σ 54 i.toNatClampNeg) :: st)) : K σ φ pc lv (.int i :: .ref (ad 54) :: st) := g_iald C 54 (fun f => at_54 ad dA σ f) hin hd k
theorem sd_54 (C : Cx K l D ad dA z0 tt cc own nL R) {i x : Int32} (hin : vp_in i 40) (hd : decode cc pc = .ok (.iastore, 1)) (k : K (sw σ 54 i.toNatClampNeg x) φ (pc + 1) lv st) : K σ φ pc lv (.int x :: .int i :: .ref (ad 54) :: st) := g_iast C 54 (fun f => at_54 ad dA σ f) hin (fun f => set_54 ad dA σ f _) hd k
theorem ld_row (C : Cx K l D ad dA z0 tt cc own nL R) {r : Nat} {i : Int32} (hr : r < 8) (hin : vp_in i 112) (hd : decode cc pc = .ok (.iaload, 1)) (k : K σ φ (pc + 1) lv (.int (σ (17 + r) i.toNatClampNeg) :: st)) : K σ φ pc lv (.int i :: .ref (ad (17 + r)) :: st) := g_iald C (17 + r) (fun f => at_row ad dA σ f r hr) hin hd k
theorem sd_row (C : Cx K l D ad dA z0 tt cc own nL R) {r : Nat} {i x : Int32} (hr : r < 8) (hin : vp_in i 112) (hd : decode cc pc = .ok (.iastore, 1)) (k : K (sw σ (17 + r) i.toNatClampNeg x) φ (pc + 1) lv st) : K σ φ pc lv (.int x :: .int i :: .ref (ad (17 + r)) :: st) := g_iast C (17 + r) (fun f => at_row ad dA σ f r hr) hin (fun f => set_row ad dA σ f r hr _) hd k
end CELLS
end
section
/-! what the printed walks use -/
theorem vp_lit {i : Int32} {n : Nat} (h : ¬ (i < 0 ∨ n ≤ i.toNatClampNeg)) : vp_in i n := h
theorem vp_lt {i : Int32} {n : Nat} (h : vp_in i n) : i.toNatClampNeg < n := Nat.not_le.mp fun q => h (Or.inr q)
theorem nI_1s (x : Int32) (j : Nat) : x + nI j + 1 = x + nI (j + 1) := by rw [Int32.add_assoc, nI_1]
theorem i32_ne {x c : Int32} {n : Int} (hc : c.toInt = n) (h : ¬ x = c) : ¬ x.toInt = n := fun e => h (Int32.toInt_inj.mp (e.trans hc.symm))
def i_abs (x : Int32) : Int32 := if 0 ≤ x then x else 0 - x
theorem zo_ite {c : Prop} [Decidable c] {a b : Int32} (ha : a = 0 ∨ a = 1) (hb : b = 0 ∨ b = 1) : (if c then a else b) = 0 ∨ (if c then a else b) = 1 := by
  by_cases h : c
  · rw [if_pos h]; exact ha
  · rw [if_neg h]; exact hb
/-- a loop with a counter: its state behind n rounds -/
def loopF {τ : Type} (B : Nat → τ → τ) : Nat → τ → τ
  | 0, s => s
  | n + 1, s => B n (loopF B n s)
theorem loopF_ind {τ : Type} (B : Nat → τ → τ) (N : Nat) (KH : Nat → τ → Prop) (I : τ) (step : ∀ (j : Nat) (s : τ), j < N → (∀ s' : τ, B j s = s' → KH (j + 1) s') → KH j s) (done : KH N (loopF B N I)) : KH 0 I := by
  have key : ∀ n j : Nat, j + n = N → KH j (loopF B j I) := by
    intro n
    induction n with
    | zero => intro j h; rw [show j = N by omega]; exact done
    | succ n ih => intro j h; exact step j _ (by omega) (fun s' e => by rw [← e]; exact ih (j + 1) (by omega))
  exact key N 0 (by omega)
/-- a loop that may end with an answer -/
def loopE {ρ τ : Type} (B : Nat → τ → ρ ⊕ τ) : Nat → Nat → τ → ρ ⊕ τ
  | 0, _, s => .inr s
  | n + 1, j, s => match B j s with
    | .inl r => .inl r
    | .inr s' => loopE B n (j + 1) s'
theorem loopE_inl {ρ τ : Type} {B : Nat → τ → ρ ⊕ τ} (n : Nat) {j : Nat} {s : τ} {r : ρ} (h : B j s = .inl r) : loopE B (n + 1) j s = .inl r := by
  simp only [loopE, h]
theorem loopE_inr {ρ τ : Type} {B : Nat → τ → ρ ⊕ τ} (n : Nat) {j : Nat} {s s' : τ} (h : B j s = .inr s') : loopE B (n + 1) j s = loopE B n (j + 1) s' := by
  simp only [loopE, h]
theorem loopE_ind {ρ τ : Type} (B : Nat → τ → ρ ⊕ τ) (N : Nat) (KH : Nat → τ → Prop) (I : τ) (step : ∀ (n j : Nat) (s : τ), j + (n + 1) = N → loopE B N 0 I = loopE B (n + 1) j s → (∀ s' : τ, B j s = .inr s' → KH (j + 1) s') → KH j s) (done : ∀ s : τ, loopE B N 0 I = .inr s → KH N s) : KH 0 I := by
  have key : ∀ (n j : Nat) (s : τ), j + n = N → loopE B N 0 I = loopE B n j s → KH j s := by
    intro n
    induction n with
    | zero => intro j s h hF; rw [show j = N by omega]; exact done s hF
    | succ n ih => intro j s h hF; exact step n j s h hF (fun s' e => ih (j + 1) s' (by omega) (hF.trans (loopE_inr n e)))
  exact key N 0 I (by omega) rfl
def sumE {ρ τ : Type} (x : ρ ⊕ τ) (f : τ → ρ) : ρ := match x with
  | .inl r => r
  | .inr s => f s
theorem sumE_inl {ρ τ : Type} {x : ρ ⊕ τ} {f : τ → ρ} {r : ρ} (h : x = .inl r) : sumE x f = r := by rw [h]; rfl
theorem sumE_inr {ρ τ : Type} {x : ρ ⊕ τ} {f : τ → ρ} {s : τ} (h : x = .inr s) : sumE x f = f s := by rw [h]; rfl
def sumB {ρ τ υ : Type} (x : ρ ⊕ τ) (f : τ → ρ ⊕ υ) : ρ ⊕ υ := match x with
  | .inl r => .inl r
  | .inr s => f s
theorem sumB_inl {ρ τ υ : Type} {x : ρ ⊕ τ} {f : τ → ρ ⊕ υ} {r : ρ} (h : x = .inl r) : sumB x f = .inl r := by rw [h]; rfl
theorem sumB_inr {ρ τ υ : Type} {x : ρ ⊕ τ} {f : τ → ρ ⊕ υ} {s : τ} (h : x = .inr s) : sumB x f = f s := by rw [h]; rfl
theorem ofWF {cs : List Choice} {l : Launch} {y : MethodName} {ws ws' : List Cond} {rm : Room} {Pc : Array Value → State → Prop} {Qc : Array Value → State → Outcome → State → Prop} {mc ms : Nat} {free : Addr → Prop} {cc : ByteArray} {maxL : Nat} {ret : Option FieldType}
    (hy : plainFor y = true) (hw : ws = Cond.code y cc maxL ret :: ws')
    (body : ∀ p e s m args below meth c s₁, BodyLoose p l y (headSpec ws rm) cc maxL ret e s m args below meth c s₁ → c.maxLocals = maxL → Pc args s → s.drawn.sameBut s.drawn cs →
      W p l e (headSpec ws rm).room (s.setDrawn s.drawn) m args below meth c s.heap [] 0 0 (MQD cs below Qc args s mc ms free) (entryFrame m args maxL)) : MetD cs l y ws rm Pc Qc mc ms free := by
  refine MetFree.of_bodySF (code := cc) (maxLocals := maxL) (ret := ret) hy ?_ ?_
  · intro args s m h hn
    obtain ⟨meth, c, h1, h2, h3, h4, h5, h6, -, -⟩ := Cond.code_spec hn (atoms_spec (ws := ws) h _ (by rw [hw]; exact List.mem_cons_self))
    exact ⟨meth, c, h1, h2, h3, h4, h5, h6⟩
  · intro p e s m args below meth c s₁ B hml hP _
    have hh0 : s₁.heap = s.heap := by rw [B.state]; rfl
    have X0 : Stand p l e (headSpec ws rm).room (s.setDrawn s.drawn) m args below meth c s₁ [] 0 0 := Stand.of_body B
    obtain ⟨t, a1, d, hd, o, b1, b2, b3, b4⟩ := body p e s m args below meth c s₁ B hml hP (Drawn.sameBut.refl _ _) s₁ hh0 X0
    exact ⟨t, o, a1, b1, b2, d, hd, b3, b4⟩
/-- the same for a method of the JDK's -/
theorem mk_MCF {l : Launch} {D : va_G} {ad : Nat → Nat} {dA : Nat → ClassId} {z0 : Nat} {tt : Nat → Nat} {y : MethodName} {rm : Room} {As : List Value} {σ : Sg} {φ : Fl} {P : Option Value → Sg → Fl → Prop} {cc : ByteArray} {nL : Nat} {ret : Option FieldType} (hy : plainFor y = true) (hlen : (lg_sl As).length ≤ nL)
    (body : ∀ K : KT, Cx K l D ad dA z0 tt cc y.cls nL rm →
      (∀ (v : Int32) (ty : FieldType) (σ' : Sg) (φ' : Fl) (pc : Nat) (lv : List (Nat × Value)), ret = some ty → decode cc pc = .ok (.ireturn, 1) → narrow ty (.int v) = .int v → P (some (.int v)) σ' φ' → K σ' φ' pc lv [.int v]) →
      (∀ (v : UInt32) (σ' : Sg) (φ' : Fl) (pc : Nat) (lv : List (Nat × Value)), ret = some .float → decode cc pc = .ok (.freturn, 1) → P (some (.float v)) σ' φ' → K σ' φ' pc lv [.float v]) →
      (∀ (σ' : Sg) (φ' : Fl) (pc : Nat) (lv : List (Nat × Value)), ret = none → decode cc pc = .ok (.return_, 1) → P none σ' φ' → K σ' φ' pc lv []) → K σ φ 0 (lv_args 0 As) []) :
    MC l D ad dA z0 tt y (Cond.code y cc nL ret :: lw_all) rm As σ φ P := by
  refine ofWF (cc := cc) (maxL := nL) (ret := ret) hy rfl ?_
  intro p e s m args below meth c s₁ B hml hv hd0
  obtain ⟨⟨As0, rfl, hAs⟩, hE, hWd⟩ := hv
  have hx := B.exec
  have hb := B.bytes
  have hr := B.returns
  have hts := atoms_spec (ws := Cond.code y cc nL ret :: lw_all) B.pre
  have hown : s.vm.findClass y.cls = some m.cls := findClass_of_methodNamed B.named
  have hlocks := B.notSynchronized
  have hl := lv_entry As0 (n := nL) (by rw [alS_sl hAs]; exact hlen)
  rw [lg_entry_eq]
  have key := body (GK p l e (headSpec (Cond.code y cc nL ret :: lw_all) rm).room s m As0.toArray below meth c (MQD lw_cs below (QcG D ad dA z0 P) As0.toArray s 0 0 (fun q => z0 ≤ q)) nL z0 D ad dA 0 0)
    ⟨p, e, s, m, As0.toArray, below, meth, c, _, 0, 0, rfl, hx, hb, hml, hown, fun w h => hts w (List.mem_cons_of_mem _ h), hE, Nat.zero_le _, Nat.zero_le _⟩ ?_ ?_ ?_
  · exact key s.drawn s.heap [] _ _ [] hd0 hWd va_S.rf hl (alL_args 0 hAs) True.intro
  · intro v ty σ' φ' pc lv e1 hdg hn hP d H locs ls l0 st0 hd hW hS hls hL hs
    obtain ⟨st1, rfl, hs1⟩ := alS_int hs
    cases alS_nil hs1
    refine W.endD hd ?_
    exact W.zret hx hb (hr.trans e1) hn (fun t ht hWm => ⟨⟨some (.int v), some (.int v), σ', φ', rfl, alS_rf _, hP, by rw [ht]; exact hW⟩, hS.F ht⟩) hS.2.2 hdg hlocks
  · intro v σ' φ' pc lv e1 hdg hP d H locs ls l0 st0 hd hW hS hls hL hs
    obtain ⟨a, st1, rfl, ha, hs1⟩ := alS_flt hs
    cases alS_nil hs1
    refine W.endD hd ?_
    exact W.fret hx hb (hr.trans e1) (fun t ht hWm => ⟨⟨some (.float a), some (.float v), σ', φ', rfl, ⟨⟨a, rfl, ha⟩, True.intro⟩, hP, by rw [ht]; exact hW⟩, hS.F ht⟩) hS.2.2 hdg hlocks
  · intro σ' φ' pc lv e1 hdg hP d H locs ls l0 st0 hd hW hS hls hL hs
    cases alS_nil hs
    refine W.endD hd ?_
    exact W.vret hx hb (hr.trans e1) (fun t ht hWm => ⟨⟨none, none, σ', φ', rfl, True.intro, hP, by rw [ht]; exact hW⟩, hS.F ht⟩) hS.2.2 hdg hlocks
section NAMING
variable {K : KT} {l : Launch} {D : va_G} {ad : Nat → Nat} {dA : Nat → ClassId} {z0 : Nat} {tt : Nat → Nat} {cc : ByteArray} {own : String} {nL : Nat} {R : Room} {σ : Sg} {φ : Fl} {pc : Nat} {lv : List (Nat × Value)} {st : List Value}
theorem g_nmi (C : Cx K l D ad dA z0 tt cc own nL R) {x : Int32} (k : ∀ y : Int32, x = y → K σ φ pc lv (.int y :: st)) : K σ φ pc lv (.int x :: st) := k x rfl
theorem g_nmf (C : Cx K l D ad dA z0 tt cc own nL R) {x : UInt32} (k : ∀ y : UInt32, x = y → K σ φ pc lv (.float y :: st)) : K σ φ pc lv (.float x :: st) := k x rfl
theorem g_nms (C : Cx K l D ad dA z0 tt cc own nL R) (k : ∀ s : Sg, σ = s → K s φ pc lv st) : K σ φ pc lv st := k σ rfl
theorem g_nmp (C : Cx K l D ad dA z0 tt cc own nL R) (k : ∀ s : Fl, φ = s → K σ s pc lv st) : K σ φ pc lv st := k φ rfl
theorem g_absn (C : Cx K l D ad dA z0 tt cc own nL R) {x : Int32} (k : K σ φ pc lv (.int (i_abs x) :: st)) : K σ φ pc lv (.int (if 0 ≤ x then x else 0 - x) :: st) := k
theorem g_getsN (C : Cx K l D ad dA z0 tt cc own nL R) {C0 n0 d0 ref host : String} {v : Value} {index : Nat} (hZ : ∀ (s : State), STz tt (fun q => z0 ≤ q) s s.heap → va_Z C0 n0 d0 v (fun q => z0 ≤ q) s s.heap) (hlink : Cond.fieldLinkNest own index ref n0 d0 host ∈ lw_nest) (hsame : ref = C0) (hd : decode cc pc = .ok (.getstatic index, 3)) (k : K σ φ (pc + 3) lv (v :: st)) : K σ φ pc lv st := by
  obtain ⟨p, e, s, m, args, below, meth, c, Q, cells, slots, rfl, hx, hb, hml, hown, hts, hE, hcl, hsl⟩ := C
  intro d H locs ls l0 st0 hd0 hW hS hls hL hs
  subst hsame
  exact va_getsN (s := s.setDrawn d) hx hb (hZ (s.setDrawn d) (hE.drawn d).2.2.1) hS hown (nest_at hE.2.1 hlink rfl d) (fun _ h => h) hd (k d H locs ls l0 _ hd0 hW hS hls hL ⟨alV_rf v, hs⟩)
end NAMING
theorem hZ0 {tt : Nat → Nat} {z0 : Nat} (s : State) (h : STz tt (fun q => z0 ≤ q) s s.heap) : va_Z "CompositeDecoder" "SINE" "[I" (.ref (tt 0)) (fun q => z0 ≤ q) s s.heap := h.1.1
theorem hT0 {tt : Nat → Nat} {z0 : Nat} (s : State) (h : STz tt (fun q => z0 ≤ q) s s.heap) : va_T .int (tt 0) 4 (fun j => .int (sa_0 j)) (fun q => z0 ≤ q) s s.heap := h.1.2
theorem hZ1 {tt : Nat → Nat} {z0 : Nat} (s : State) (h : STz tt (fun q => z0 ≤ q) s s.heap) : va_Z "CompositeDecoder" "COSINE" "[I" (.ref (tt 1)) (fun q => z0 ≤ q) s s.heap := h.2.1.1
theorem hT1 {tt : Nat → Nat} {z0 : Nat} (s : State) (h : STz tt (fun q => z0 ≤ q) s s.heap) : va_T .int (tt 1) 4 (fun j => .int (sa_1 j)) (fun q => z0 ≤ q) s s.heap := h.2.1.2
theorem hZ2 {tt : Nat → Nat} {z0 : Nat} (s : State) (h : STz tt (fun q => z0 ≤ q) s s.heap) : va_Z "CompositeDecoder$BarText" "LETTERS" "[C" (.ref (tt 2)) (fun q => z0 ≤ q) s s.heap := h.2.2.1.1
theorem hT2 {tt : Nat → Nat} {z0 : Nat} (s : State) (h : STz tt (fun q => z0 ≤ q) s s.heap) : va_T .char (tt 2) 8 (fun j => .int (sa_2 j)) (fun q => z0 ≤ q) s s.heap := h.2.2.1.2
theorem hZ3 {tt : Nat → Nat} {z0 : Nat} (s : State) (h : STz tt (fun q => z0 ≤ q) s s.heap) : va_Z "CompositeDecoder$BarText" "BAR_LUMAS" "[I" (.ref (tt 3)) (fun q => z0 ≤ q) s s.heap := h.2.2.2.1.1
theorem hT3 {tt : Nat → Nat} {z0 : Nat} (s : State) (h : STz tt (fun q => z0 ≤ q) s s.heap) : va_T .int (tt 3) 8 (fun j => .int (sa_3 j)) (fun q => z0 ≤ q) s s.heap := h.2.2.2.1.2
theorem hZ4 {tt : Nat → Nat} {z0 : Nat} (s : State) (h : STz tt (fun q => z0 ≤ q) s s.heap) : va_Z "CompositeDecoder$BarText" "BAR_US" "[I" (.ref (tt 4)) (fun q => z0 ≤ q) s s.heap := h.2.2.2.2.1.1
theorem hT4 {tt : Nat → Nat} {z0 : Nat} (s : State) (h : STz tt (fun q => z0 ≤ q) s s.heap) : va_T .int (tt 4) 8 (fun j => .int (sa_4 j)) (fun q => z0 ≤ q) s s.heap := h.2.2.2.2.1.2
theorem hZ5 {tt : Nat → Nat} {z0 : Nat} (s : State) (h : STz tt (fun q => z0 ≤ q) s s.heap) : va_Z "CompositeDecoder$BarText" "BAR_VS" "[I" (.ref (tt 5)) (fun q => z0 ≤ q) s s.heap := h.2.2.2.2.2.1.1
theorem hT5 {tt : Nat → Nat} {z0 : Nat} (s : State) (h : STz tt (fun q => z0 ≤ q) s s.heap) : va_T .int (tt 5) 8 (fun j => .int (sa_5 j)) (fun q => z0 ≤ q) s s.heap := h.2.2.2.2.2.1.2
theorem hZ6 {tt : Nat → Nat} {z0 : Nat} (s : State) (h : STz tt (fun q => z0 ≤ q) s s.heap) : va_Z "CompositeDecoder$Settings" "LOWEST" "[I" (.ref (tt 6)) (fun q => z0 ≤ q) s s.heap := h.2.2.2.2.2.2.1.1
theorem hT6 {tt : Nat → Nat} {z0 : Nat} (s : State) (h : STz tt (fun q => z0 ≤ q) s s.heap) : va_T .int (tt 6) 4 (fun j => .int (sa_6 j)) (fun q => z0 ≤ q) s s.heap := h.2.2.2.2.2.2.1.2
theorem hZ7 {tt : Nat → Nat} {z0 : Nat} (s : State) (h : STz tt (fun q => z0 ≤ q) s s.heap) : va_Z "CompositeDecoder$Settings" "HIGHEST" "[I" (.ref (tt 7)) (fun q => z0 ≤ q) s s.heap := h.2.2.2.2.2.2.2.1.1
theorem hT7 {tt : Nat → Nat} {z0 : Nat} (s : State) (h : STz tt (fun q => z0 ≤ q) s s.heap) : va_T .int (tt 7) 4 (fun j => .int (sa_7 j)) (fun q => z0 ≤ q) s s.heap := h.2.2.2.2.2.2.2.1.2
theorem hT8 {tt : Nat → Nat} {z0 : Nat} (s : State) (h : STz tt (fun q => z0 ≤ q) s s.heap) : va_T .int (tt 8) (tt 9) (fun j => .int (sa_8 tt j)) (fun q => z0 ≤ q) s s.heap := h.2.2.2.2.2.2.2.2
theorem dyV_X0_append : yX0_append.cls = "CompositeDecoder$BarText" ∧ yX0_append.cls ≠ "java/lang/invoke/MethodHandle" ∧ yX0_append.cls ≠ "java/lang/invoke/VarHandle" ∧ (parseMethodDescriptor yX0_append.desc).map (fun d => d.parameters.length) = some 1 := by decide +kernel
theorem dyS_X0_append : yX0_append.cls ≠ "java/lang/invoke/MethodHandle" ∧ yX0_append.cls ≠ "java/lang/invoke/VarHandle" ∧ (parseMethodDescriptor yX0_append.desc).map (fun d => d.parameters.length) = some 1 := by decide +kernel
theorem dyV_X0_parse : yX0_parse.cls = "CompositeDecoder$BarText" ∧ yX0_parse.cls ≠ "java/lang/invoke/MethodHandle" ∧ yX0_parse.cls ≠ "java/lang/invoke/VarHandle" ∧ (parseMethodDescriptor yX0_parse.desc).map (fun d => d.parameters.length) = some 0 := by decide +kernel
theorem dyS_X0_parse : yX0_parse.cls ≠ "java/lang/invoke/MethodHandle" ∧ yX0_parse.cls ≠ "java/lang/invoke/VarHandle" ∧ (parseMethodDescriptor yX0_parse.desc).map (fun d => d.parameters.length) = some 0 := by decide +kernel
theorem dyV_X0_repeatBar : yX0_repeatBar.cls = "CompositeDecoder$BarText" ∧ yX0_repeatBar.cls ≠ "java/lang/invoke/MethodHandle" ∧ yX0_repeatBar.cls ≠ "java/lang/invoke/VarHandle" ∧ (parseMethodDescriptor yX0_repeatBar.desc).map (fun d => d.parameters.length) = some 2 := by decide +kernel
theorem dyS_X0_repeatBar : yX0_repeatBar.cls ≠ "java/lang/invoke/MethodHandle" ∧ yX0_repeatBar.cls ≠ "java/lang/invoke/VarHandle" ∧ (parseMethodDescriptor yX0_repeatBar.desc).map (fun d => d.parameters.length) = some 2 := by decide +kernel
theorem dyV_X0_paintBar : yX0_paintBar.cls = "CompositeDecoder$BarText" ∧ yX0_paintBar.cls ≠ "java/lang/invoke/MethodHandle" ∧ yX0_paintBar.cls ≠ "java/lang/invoke/VarHandle" ∧ (parseMethodDescriptor yX0_paintBar.desc).map (fun d => d.parameters.length) = some 3 := by decide +kernel
theorem dyS_X0_paintBar : yX0_paintBar.cls ≠ "java/lang/invoke/MethodHandle" ∧ yX0_paintBar.cls ≠ "java/lang/invoke/VarHandle" ∧ (parseMethodDescriptor yX0_paintBar.desc).map (fun d => d.parameters.length) = some 3 := by decide +kernel
theorem dyV_X0_barOf : yX0_barOf.cls = "CompositeDecoder$BarText" ∧ yX0_barOf.cls ≠ "java/lang/invoke/MethodHandle" ∧ yX0_barOf.cls ≠ "java/lang/invoke/VarHandle" ∧ (parseMethodDescriptor yX0_barOf.desc).map (fun d => d.parameters.length) = some 1 := by decide +kernel
theorem dyS_X0_barOf : yX0_barOf.cls ≠ "java/lang/invoke/MethodHandle" ∧ yX0_barOf.cls ≠ "java/lang/invoke/VarHandle" ∧ (parseMethodDescriptor yX0_barOf.desc).map (fun d => d.parameters.length) = some 1 := by decide +kernel
theorem dyV_X0_digitOf : yX0_digitOf.cls = "CompositeDecoder$BarText" ∧ yX0_digitOf.cls ≠ "java/lang/invoke/MethodHandle" ∧ yX0_digitOf.cls ≠ "java/lang/invoke/VarHandle" ∧ (parseMethodDescriptor yX0_digitOf.desc).map (fun d => d.parameters.length) = some 1 := by decide +kernel
theorem dyS_X0_digitOf : yX0_digitOf.cls ≠ "java/lang/invoke/MethodHandle" ∧ yX0_digitOf.cls ≠ "java/lang/invoke/VarHandle" ∧ (parseMethodDescriptor yX0_digitOf.desc).map (fun d => d.parameters.length) = some 1 := by decide +kernel
theorem dyV_X1_measure : yX1_measure.cls = "CompositeDecoder$Bursts" ∧ yX1_measure.cls ≠ "java/lang/invoke/MethodHandle" ∧ yX1_measure.cls ≠ "java/lang/invoke/VarHandle" ∧ (parseMethodDescriptor yX1_measure.desc).map (fun d => d.parameters.length) = some 3 := by decide +kernel
theorem dyS_X1_measure : yX1_measure.cls ≠ "java/lang/invoke/MethodHandle" ∧ yX1_measure.cls ≠ "java/lang/invoke/VarHandle" ∧ (parseMethodDescriptor yX1_measure.desc).map (fun d => d.parameters.length) = some 3 := by decide +kernel
theorem dyV_X1_sumUp : yX1_sumUp.cls = "CompositeDecoder$Bursts" ∧ yX1_sumUp.cls ≠ "java/lang/invoke/MethodHandle" ∧ yX1_sumUp.cls ≠ "java/lang/invoke/VarHandle" ∧ (parseMethodDescriptor yX1_sumUp.desc).map (fun d => d.parameters.length) = some 3 := by decide +kernel
theorem dyS_X1_sumUp : yX1_sumUp.cls ≠ "java/lang/invoke/MethodHandle" ∧ yX1_sumUp.cls ≠ "java/lang/invoke/VarHandle" ∧ (parseMethodDescriptor yX1_sumUp.desc).map (fun d => d.parameters.length) = some 3 := by decide +kernel
theorem dyV_X1_countPair : yX1_countPair.cls = "CompositeDecoder$Bursts" ∧ yX1_countPair.cls ≠ "java/lang/invoke/MethodHandle" ∧ yX1_countPair.cls ≠ "java/lang/invoke/VarHandle" ∧ (parseMethodDescriptor yX1_countPair.desc).map (fun d => d.parameters.length) = some 2 := by decide +kernel
theorem dyS_X1_countPair : yX1_countPair.cls ≠ "java/lang/invoke/MethodHandle" ∧ yX1_countPair.cls ≠ "java/lang/invoke/VarHandle" ∧ (parseMethodDescriptor yX1_countPair.desc).map (fun d => d.parameters.length) = some 2 := by decide +kernel
theorem dyV_X1_guessedStandard : yX1_guessedStandard.cls = "CompositeDecoder$Bursts" ∧ yX1_guessedStandard.cls ≠ "java/lang/invoke/MethodHandle" ∧ yX1_guessedStandard.cls ≠ "java/lang/invoke/VarHandle" ∧ (parseMethodDescriptor yX1_guessedStandard.desc).map (fun d => d.parameters.length) = some 0 := by decide +kernel
theorem dyS_X1_guessedStandard : yX1_guessedStandard.cls ≠ "java/lang/invoke/MethodHandle" ∧ yX1_guessedStandard.cls ≠ "java/lang/invoke/VarHandle" ∧ (parseMethodDescriptor yX1_guessedStandard.desc).map (fun d => d.parameters.length) = some 0 := by decide +kernel
theorem dyV_X2_turn : yX2_turn.cls = "CompositeDecoder$Colors" ∧ yX2_turn.cls ≠ "java/lang/invoke/MethodHandle" ∧ yX2_turn.cls ≠ "java/lang/invoke/VarHandle" ∧ (parseMethodDescriptor yX2_turn.desc).map (fun d => d.parameters.length) = some 4 := by decide +kernel
theorem dyS_X2_turn : yX2_turn.cls ≠ "java/lang/invoke/MethodHandle" ∧ yX2_turn.cls ≠ "java/lang/invoke/VarHandle" ∧ (parseMethodDescriptor yX2_turn.desc).map (fun d => d.parameters.length) = some 4 := by decide +kernel
theorem dyV_X2_turnSegment : yX2_turnSegment.cls = "CompositeDecoder$Colors" ∧ yX2_turnSegment.cls ≠ "java/lang/invoke/MethodHandle" ∧ yX2_turnSegment.cls ≠ "java/lang/invoke/VarHandle" ∧ (parseMethodDescriptor yX2_turnSegment.desc).map (fun d => d.parameters.length) = some 5 := by decide +kernel
theorem dyS_X2_turnSegment : yX2_turnSegment.cls ≠ "java/lang/invoke/MethodHandle" ∧ yX2_turnSegment.cls ≠ "java/lang/invoke/VarHandle" ∧ (parseMethodDescriptor yX2_turnSegment.desc).map (fun d => d.parameters.length) = some 5 := by decide +kernel
theorem dyV_X2_mixSegment : yX2_mixSegment.cls = "CompositeDecoder$Colors" ∧ yX2_mixSegment.cls ≠ "java/lang/invoke/MethodHandle" ∧ yX2_mixSegment.cls ≠ "java/lang/invoke/VarHandle" ∧ (parseMethodDescriptor yX2_mixSegment.desc).map (fun d => d.parameters.length) = some 2 := by decide +kernel
theorem dyS_X2_mixSegment : yX2_mixSegment.cls ≠ "java/lang/invoke/MethodHandle" ∧ yX2_mixSegment.cls ≠ "java/lang/invoke/VarHandle" ∧ (parseMethodDescriptor yX2_mixSegment.desc).map (fun d => d.parameters.length) = some 2 := by decide +kernel
theorem dyV_X3_separate : yX3_separate.cls = "CompositeDecoder$Combs" ∧ yX3_separate.cls ≠ "java/lang/invoke/MethodHandle" ∧ yX3_separate.cls ≠ "java/lang/invoke/VarHandle" ∧ (parseMethodDescriptor yX3_separate.desc).map (fun d => d.parameters.length) = some 4 := by decide +kernel
theorem dyS_X3_separate : yX3_separate.cls ≠ "java/lang/invoke/MethodHandle" ∧ yX3_separate.cls ≠ "java/lang/invoke/VarHandle" ∧ (parseMethodDescriptor yX3_separate.desc).map (fun d => d.parameters.length) = some 4 := by decide +kernel
theorem dyV_X3_sumUp : yX3_sumUp.cls = "CompositeDecoder$Combs" ∧ yX3_sumUp.cls ≠ "java/lang/invoke/MethodHandle" ∧ yX3_sumUp.cls ≠ "java/lang/invoke/VarHandle" ∧ (parseMethodDescriptor yX3_sumUp.desc).map (fun d => d.parameters.length) = some 2 := by decide +kernel
theorem dyS_X3_sumUp : yX3_sumUp.cls ≠ "java/lang/invoke/MethodHandle" ∧ yX3_sumUp.cls ≠ "java/lang/invoke/VarHandle" ∧ (parseMethodDescriptor yX3_sumUp.desc).map (fun d => d.parameters.length) = some 2 := by decide +kernel
theorem dyV_X3_wayFor : yX3_wayFor.cls = "CompositeDecoder$Combs" ∧ yX3_wayFor.cls ≠ "java/lang/invoke/MethodHandle" ∧ yX3_wayFor.cls ≠ "java/lang/invoke/VarHandle" ∧ (parseMethodDescriptor yX3_wayFor.desc).map (fun d => d.parameters.length) = some 4 := by decide +kernel
theorem dyS_X3_wayFor : yX3_wayFor.cls ≠ "java/lang/invoke/MethodHandle" ∧ yX3_wayFor.cls ≠ "java/lang/invoke/VarHandle" ∧ (parseMethodDescriptor yX3_wayFor.desc).map (fun d => d.parameters.length) = some 4 := by decide +kernel
theorem dyV_X3_isNear : yX3_isNear.cls = "CompositeDecoder$Combs" ∧ yX3_isNear.cls ≠ "java/lang/invoke/MethodHandle" ∧ yX3_isNear.cls ≠ "java/lang/invoke/VarHandle" ∧ (parseMethodDescriptor yX3_isNear.desc).map (fun d => d.parameters.length) = some 3 := by decide +kernel
theorem dyS_X3_isNear : yX3_isNear.cls ≠ "java/lang/invoke/MethodHandle" ∧ yX3_isNear.cls ≠ "java/lang/invoke/VarHandle" ∧ (parseMethodDescriptor yX3_isNear.desc).map (fun d => d.parameters.length) = some 3 := by decide +kernel
theorem dyV_X3_splitSegment : yX3_splitSegment.cls = "CompositeDecoder$Combs" ∧ yX3_splitSegment.cls ≠ "java/lang/invoke/MethodHandle" ∧ yX3_splitSegment.cls ≠ "java/lang/invoke/VarHandle" ∧ (parseMethodDescriptor yX3_splitSegment.desc).map (fun d => d.parameters.length) = some 5 := by decide +kernel
theorem dyS_X3_splitSegment : yX3_splitSegment.cls ≠ "java/lang/invoke/MethodHandle" ∧ yX3_splitSegment.cls ≠ "java/lang/invoke/VarHandle" ∧ (parseMethodDescriptor yX3_splitSegment.desc).map (fun d => d.parameters.length) = some 5 := by decide +kernel
theorem dyV_X3_chromaAt : yX3_chromaAt.cls = "CompositeDecoder$Combs" ∧ yX3_chromaAt.cls ≠ "java/lang/invoke/MethodHandle" ∧ yX3_chromaAt.cls ≠ "java/lang/invoke/VarHandle" ∧ (parseMethodDescriptor yX3_chromaAt.desc).map (fun d => d.parameters.length) = some 5 := by decide +kernel
theorem dyS_X3_chromaAt : yX3_chromaAt.cls ≠ "java/lang/invoke/MethodHandle" ∧ yX3_chromaAt.cls ≠ "java/lang/invoke/VarHandle" ∧ (parseMethodDescriptor yX3_chromaAt.desc).map (fun d => d.parameters.length) = some 5 := by decide +kernel
theorem dyV_X3_sampleAt : yX3_sampleAt.cls = "CompositeDecoder$Combs" ∧ yX3_sampleAt.cls ≠ "java/lang/invoke/MethodHandle" ∧ yX3_sampleAt.cls ≠ "java/lang/invoke/VarHandle" ∧ (parseMethodDescriptor yX3_sampleAt.desc).map (fun d => d.parameters.length) = some 4 := by decide +kernel
theorem dyS_X3_sampleAt : yX3_sampleAt.cls ≠ "java/lang/invoke/MethodHandle" ∧ yX3_sampleAt.cls ≠ "java/lang/invoke/VarHandle" ∧ (parseMethodDescriptor yX3_sampleAt.desc).map (fun d => d.parameters.length) = some 4 := by decide +kernel
theorem dyV_X4_find : yX4_find.cls = "CompositeDecoder$LineFinder" ∧ yX4_find.cls ≠ "java/lang/invoke/MethodHandle" ∧ yX4_find.cls ≠ "java/lang/invoke/VarHandle" ∧ (parseMethodDescriptor yX4_find.desc).map (fun d => d.parameters.length) = some 1 := by decide +kernel
theorem dyS_X4_find : yX4_find.cls ≠ "java/lang/invoke/MethodHandle" ∧ yX4_find.cls ≠ "java/lang/invoke/VarHandle" ∧ (parseMethodDescriptor yX4_find.desc).map (fun d => d.parameters.length) = some 1 := by decide +kernel
theorem dyV_X4_steer : yX4_steer.cls = "CompositeDecoder$LineFinder" ∧ yX4_steer.cls ≠ "java/lang/invoke/MethodHandle" ∧ yX4_steer.cls ≠ "java/lang/invoke/VarHandle" ∧ (parseMethodDescriptor yX4_steer.desc).map (fun d => d.parameters.length) = some 1 := by decide +kernel
theorem dyS_X4_steer : yX4_steer.cls ≠ "java/lang/invoke/MethodHandle" ∧ yX4_steer.cls ≠ "java/lang/invoke/VarHandle" ∧ (parseMethodDescriptor yX4_steer.desc).map (fun d => d.parameters.length) = some 1 := by decide +kernel
theorem dyV_X5_watch : yX5_watch.cls = "CompositeDecoder$Movement" ∧ yX5_watch.cls ≠ "java/lang/invoke/MethodHandle" ∧ yX5_watch.cls ≠ "java/lang/invoke/VarHandle" ∧ (parseMethodDescriptor yX5_watch.desc).map (fun d => d.parameters.length) = some 3 := by decide +kernel
theorem dyS_X5_watch : yX5_watch.cls ≠ "java/lang/invoke/MethodHandle" ∧ yX5_watch.cls ≠ "java/lang/invoke/VarHandle" ∧ (parseMethodDescriptor yX5_watch.desc).map (fun d => d.parameters.length) = some 3 := by decide +kernel
theorem dyV_X5_kindOf : yX5_kindOf.cls = "CompositeDecoder$Movement" ∧ yX5_kindOf.cls ≠ "java/lang/invoke/MethodHandle" ∧ yX5_kindOf.cls ≠ "java/lang/invoke/VarHandle" ∧ (parseMethodDescriptor yX5_kindOf.desc).map (fun d => d.parameters.length) = some 2 := by decide +kernel
theorem dyS_X5_kindOf : yX5_kindOf.cls ≠ "java/lang/invoke/MethodHandle" ∧ yX5_kindOf.cls ≠ "java/lang/invoke/VarHandle" ∧ (parseMethodDescriptor yX5_kindOf.desc).map (fun d => d.parameters.length) = some 2 := by decide +kernel
theorem dyV_X5_hasChanged : yX5_hasChanged.cls = "CompositeDecoder$Movement" ∧ yX5_hasChanged.cls ≠ "java/lang/invoke/MethodHandle" ∧ yX5_hasChanged.cls ≠ "java/lang/invoke/VarHandle" ∧ (parseMethodDescriptor yX5_hasChanged.desc).map (fun d => d.parameters.length) = some 2 := by decide +kernel
theorem dyS_X5_hasChanged : yX5_hasChanged.cls ≠ "java/lang/invoke/MethodHandle" ∧ yX5_hasChanged.cls ≠ "java/lang/invoke/VarHandle" ∧ (parseMethodDescriptor yX5_hasChanged.desc).map (fun d => d.parameters.length) = some 2 := by decide +kernel
theorem dyV_X6_follow : yX6_follow.cls = "CompositeDecoder$PhaseReference" ∧ yX6_follow.cls ≠ "java/lang/invoke/MethodHandle" ∧ yX6_follow.cls ≠ "java/lang/invoke/VarHandle" ∧ (parseMethodDescriptor yX6_follow.desc).map (fun d => d.parameters.length) = some 2 := by decide +kernel
theorem dyS_X6_follow : yX6_follow.cls ≠ "java/lang/invoke/MethodHandle" ∧ yX6_follow.cls ≠ "java/lang/invoke/VarHandle" ∧ (parseMethodDescriptor yX6_follow.desc).map (fun d => d.parameters.length) = some 2 := by decide +kernel
theorem dyV_X6_aimOf : yX6_aimOf.cls = "CompositeDecoder$PhaseReference" ∧ yX6_aimOf.cls ≠ "java/lang/invoke/MethodHandle" ∧ yX6_aimOf.cls ≠ "java/lang/invoke/VarHandle" ∧ (parseMethodDescriptor yX6_aimOf.desc).map (fun d => d.parameters.length) = some 3 := by decide +kernel
theorem dyS_X6_aimOf : yX6_aimOf.cls ≠ "java/lang/invoke/MethodHandle" ∧ yX6_aimOf.cls ≠ "java/lang/invoke/VarHandle" ∧ (parseMethodDescriptor yX6_aimOf.desc).map (fun d => d.parameters.length) = some 3 := by decide +kernel
theorem dyV_X7_paint : yX7_paint.cls = "CompositeDecoder$Picture" ∧ yX7_paint.cls ≠ "java/lang/invoke/MethodHandle" ∧ yX7_paint.cls ≠ "java/lang/invoke/VarHandle" ∧ (parseMethodDescriptor yX7_paint.desc).map (fun d => d.parameters.length) = some 4 := by decide +kernel
theorem dyS_X7_paint : yX7_paint.cls ≠ "java/lang/invoke/MethodHandle" ∧ yX7_paint.cls ≠ "java/lang/invoke/VarHandle" ∧ (parseMethodDescriptor yX7_paint.desc).map (fun d => d.parameters.length) = some 4 := by decide +kernel
theorem dyV_X7_sampleAt : yX7_sampleAt.cls = "CompositeDecoder$Picture" ∧ yX7_sampleAt.cls ≠ "java/lang/invoke/MethodHandle" ∧ yX7_sampleAt.cls ≠ "java/lang/invoke/VarHandle" ∧ (parseMethodDescriptor yX7_sampleAt.desc).map (fun d => d.parameters.length) = some 2 := by decide +kernel
theorem dyS_X7_sampleAt : yX7_sampleAt.cls ≠ "java/lang/invoke/MethodHandle" ∧ yX7_sampleAt.cls ≠ "java/lang/invoke/VarHandle" ∧ (parseMethodDescriptor yX7_sampleAt.desc).map (fun d => d.parameters.length) = some 2 := by decide +kernel
theorem dyV_X7_noiseAt : yX7_noiseAt.cls = "CompositeDecoder$Picture" ∧ yX7_noiseAt.cls ≠ "java/lang/invoke/MethodHandle" ∧ yX7_noiseAt.cls ≠ "java/lang/invoke/VarHandle" ∧ (parseMethodDescriptor yX7_noiseAt.desc).map (fun d => d.parameters.length) = some 2 := by decide +kernel
theorem dyS_X7_noiseAt : yX7_noiseAt.cls ≠ "java/lang/invoke/MethodHandle" ∧ yX7_noiseAt.cls ≠ "java/lang/invoke/VarHandle" ∧ (parseMethodDescriptor yX7_noiseAt.desc).map (fun d => d.parameters.length) = some 2 := by decide +kernel
theorem dyV_X7_levelAt : yX7_levelAt.cls = "CompositeDecoder$Picture" ∧ yX7_levelAt.cls ≠ "java/lang/invoke/MethodHandle" ∧ yX7_levelAt.cls ≠ "java/lang/invoke/VarHandle" ∧ (parseMethodDescriptor yX7_levelAt.desc).map (fun d => d.parameters.length) = some 3 := by decide +kernel
theorem dyS_X7_levelAt : yX7_levelAt.cls ≠ "java/lang/invoke/MethodHandle" ∧ yX7_levelAt.cls ≠ "java/lang/invoke/VarHandle" ∧ (parseMethodDescriptor yX7_levelAt.desc).map (fun d => d.parameters.length) = some 3 := by decide +kernel
theorem dyV_X7_burstAt : yX7_burstAt.cls = "CompositeDecoder$Picture" ∧ yX7_burstAt.cls ≠ "java/lang/invoke/MethodHandle" ∧ yX7_burstAt.cls ≠ "java/lang/invoke/VarHandle" ∧ (parseMethodDescriptor yX7_burstAt.desc).map (fun d => d.parameters.length) = some 2 := by decide +kernel
theorem dyS_X7_burstAt : yX7_burstAt.cls ≠ "java/lang/invoke/MethodHandle" ∧ yX7_burstAt.cls ≠ "java/lang/invoke/VarHandle" ∧ (parseMethodDescriptor yX7_burstAt.desc).map (fun d => d.parameters.length) = some 2 := by decide +kernel
theorem dyV_X7_signOf : yX7_signOf.cls = "CompositeDecoder$Picture" ∧ yX7_signOf.cls ≠ "java/lang/invoke/MethodHandle" ∧ yX7_signOf.cls ≠ "java/lang/invoke/VarHandle" ∧ (parseMethodDescriptor yX7_signOf.desc).map (fun d => d.parameters.length) = some 1 := by decide +kernel
theorem dyS_X7_signOf : yX7_signOf.cls ≠ "java/lang/invoke/MethodHandle" ∧ yX7_signOf.cls ≠ "java/lang/invoke/VarHandle" ∧ (parseMethodDescriptor yX7_signOf.desc).map (fun d => d.parameters.length) = some 1 := by decide +kernel
theorem dyV_X8_allows : yX8_allows.cls = "CompositeDecoder$Settings" ∧ yX8_allows.cls ≠ "java/lang/invoke/MethodHandle" ∧ yX8_allows.cls ≠ "java/lang/invoke/VarHandle" ∧ (parseMethodDescriptor yX8_allows.desc).map (fun d => d.parameters.length) = some 2 := by decide +kernel
theorem dyS_X8_allows : yX8_allows.cls ≠ "java/lang/invoke/MethodHandle" ∧ yX8_allows.cls ≠ "java/lang/invoke/VarHandle" ∧ (parseMethodDescriptor yX8_allows.desc).map (fun d => d.parameters.length) = some 2 := by decide +kernel
theorem dyV_X8_threshold : yX8_threshold.cls = "CompositeDecoder$Settings" ∧ yX8_threshold.cls ≠ "java/lang/invoke/MethodHandle" ∧ yX8_threshold.cls ≠ "java/lang/invoke/VarHandle" ∧ (parseMethodDescriptor yX8_threshold.desc).map (fun d => d.parameters.length) = some 0 := by decide +kernel
theorem dyS_X8_threshold : yX8_threshold.cls ≠ "java/lang/invoke/MethodHandle" ∧ yX8_threshold.cls ≠ "java/lang/invoke/VarHandle" ∧ (parseMethodDescriptor yX8_threshold.desc).map (fun d => d.parameters.length) = some 0 := by decide +kernel
theorem dyV_X8_limit : yX8_limit.cls = "CompositeDecoder$Settings" ∧ yX8_limit.cls ≠ "java/lang/invoke/MethodHandle" ∧ yX8_limit.cls ≠ "java/lang/invoke/VarHandle" ∧ (parseMethodDescriptor yX8_limit.desc).map (fun d => d.parameters.length) = some 0 := by decide +kernel
theorem dyS_X8_limit : yX8_limit.cls ≠ "java/lang/invoke/MethodHandle" ∧ yX8_limit.cls ≠ "java/lang/invoke/VarHandle" ∧ (parseMethodDescriptor yX8_limit.desc).map (fun d => d.parameters.length) = some 0 := by decide +kernel
theorem dyV_X8_comb : yX8_comb.cls = "CompositeDecoder$Settings" ∧ yX8_comb.cls ≠ "java/lang/invoke/MethodHandle" ∧ yX8_comb.cls ≠ "java/lang/invoke/VarHandle" ∧ (parseMethodDescriptor yX8_comb.desc).map (fun d => d.parameters.length) = some 0 := by decide +kernel
theorem dyS_X8_comb : yX8_comb.cls ≠ "java/lang/invoke/MethodHandle" ∧ yX8_comb.cls ≠ "java/lang/invoke/VarHandle" ∧ (parseMethodDescriptor yX8_comb.desc).map (fun d => d.parameters.length) = some 0 := by decide +kernel
theorem dyV_X8_standardTaken : yX8_standardTaken.cls = "CompositeDecoder$Settings" ∧ yX8_standardTaken.cls ≠ "java/lang/invoke/MethodHandle" ∧ yX8_standardTaken.cls ≠ "java/lang/invoke/VarHandle" ∧ (parseMethodDescriptor yX8_standardTaken.desc).map (fun d => d.parameters.length) = some 1 := by decide +kernel
theorem dyS_X8_standardTaken : yX8_standardTaken.cls ≠ "java/lang/invoke/MethodHandle" ∧ yX8_standardTaken.cls ≠ "java/lang/invoke/VarHandle" ∧ (parseMethodDescriptor yX8_standardTaken.desc).map (fun d => d.parameters.length) = some 1 := by decide +kernel
theorem dyV_X9_sendFrom : yX9_sendFrom.cls = "CompositeDecoder$Signal" ∧ yX9_sendFrom.cls ≠ "java/lang/invoke/MethodHandle" ∧ yX9_sendFrom.cls ≠ "java/lang/invoke/VarHandle" ∧ (parseMethodDescriptor yX9_sendFrom.desc).map (fun d => d.parameters.length) = some 1 := by decide +kernel
theorem dyS_X9_sendFrom : yX9_sendFrom.cls ≠ "java/lang/invoke/MethodHandle" ∧ yX9_sendFrom.cls ≠ "java/lang/invoke/VarHandle" ∧ (parseMethodDescriptor yX9_sendFrom.desc).map (fun d => d.parameters.length) = some 1 := by decide +kernel
theorem dyV_X9_at : yX9_at.cls = "CompositeDecoder$Signal" ∧ yX9_at.cls ≠ "java/lang/invoke/MethodHandle" ∧ yX9_at.cls ≠ "java/lang/invoke/VarHandle" ∧ (parseMethodDescriptor yX9_at.desc).map (fun d => d.parameters.length) = some 2 := by decide +kernel
theorem dyS_X9_at : yX9_at.cls ≠ "java/lang/invoke/MethodHandle" ∧ yX9_at.cls ≠ "java/lang/invoke/VarHandle" ∧ (parseMethodDescriptor yX9_at.desc).map (fun d => d.parameters.length) = some 2 := by decide +kernel
theorem dyV_X9_sumFrom : yX9_sumFrom.cls = "CompositeDecoder$Signal" ∧ yX9_sumFrom.cls ≠ "java/lang/invoke/MethodHandle" ∧ yX9_sumFrom.cls ≠ "java/lang/invoke/VarHandle" ∧ (parseMethodDescriptor yX9_sumFrom.desc).map (fun d => d.parameters.length) = some 2 := by decide +kernel
theorem dyS_X9_sumFrom : yX9_sumFrom.cls ≠ "java/lang/invoke/MethodHandle" ∧ yX9_sumFrom.cls ≠ "java/lang/invoke/VarHandle" ∧ (parseMethodDescriptor yX9_sumFrom.desc).map (fun d => d.parameters.length) = some 2 := by decide +kernel
theorem dyV_X9_pulseOf : yX9_pulseOf.cls = "CompositeDecoder$Signal" ∧ yX9_pulseOf.cls ≠ "java/lang/invoke/MethodHandle" ∧ yX9_pulseOf.cls ≠ "java/lang/invoke/VarHandle" ∧ (parseMethodDescriptor yX9_pulseOf.desc).map (fun d => d.parameters.length) = some 1 := by decide +kernel
theorem dyS_X9_pulseOf : yX9_pulseOf.cls ≠ "java/lang/invoke/MethodHandle" ∧ yX9_pulseOf.cls ≠ "java/lang/invoke/VarHandle" ∧ (parseMethodDescriptor yX9_pulseOf.desc).map (fun d => d.parameters.length) = some 1 := by decide +kernel
theorem dyV_X10_setSegment : yX10_setSegment.cls = "CompositeDecoder" ∧ yX10_setSegment.cls ≠ "java/lang/invoke/MethodHandle" ∧ yX10_setSegment.cls ≠ "java/lang/invoke/VarHandle" ∧ (parseMethodDescriptor yX10_setSegment.desc).map (fun d => d.parameters.length) = some 5 := by decide +kernel
theorem dyS_X10_setSegment : yX10_setSegment.cls ≠ "java/lang/invoke/MethodHandle" ∧ yX10_setSegment.cls ≠ "java/lang/invoke/VarHandle" ∧ (parseMethodDescriptor yX10_setSegment.desc).map (fun d => d.parameters.length) = some 5 := by decide +kernel
theorem dyV_X10_fill : yX10_fill.cls = "CompositeDecoder" ∧ yX10_fill.cls ≠ "java/lang/invoke/MethodHandle" ∧ yX10_fill.cls ≠ "java/lang/invoke/VarHandle" ∧ (parseMethodDescriptor yX10_fill.desc).map (fun d => d.parameters.length) = some 4 := by decide +kernel
theorem dyS_X10_fill : yX10_fill.cls ≠ "java/lang/invoke/MethodHandle" ∧ yX10_fill.cls ≠ "java/lang/invoke/VarHandle" ∧ (parseMethodDescriptor yX10_fill.desc).map (fun d => d.parameters.length) = some 4 := by decide +kernel
theorem dyV_X10_setLine : yX10_setLine.cls = "CompositeDecoder" ∧ yX10_setLine.cls ≠ "java/lang/invoke/MethodHandle" ∧ yX10_setLine.cls ≠ "java/lang/invoke/VarHandle" ∧ (parseMethodDescriptor yX10_setLine.desc).map (fun d => d.parameters.length) = some 5 := by decide +kernel
theorem dyS_X10_setLine : yX10_setLine.cls ≠ "java/lang/invoke/MethodHandle" ∧ yX10_setLine.cls ≠ "java/lang/invoke/VarHandle" ∧ (parseMethodDescriptor yX10_setLine.desc).map (fun d => d.parameters.length) = some 5 := by decide +kernel
theorem dyV_X10_miss : yX10_miss.cls = "CompositeDecoder" ∧ yX10_miss.cls ≠ "java/lang/invoke/MethodHandle" ∧ yX10_miss.cls ≠ "java/lang/invoke/VarHandle" ∧ (parseMethodDescriptor yX10_miss.desc).map (fun d => d.parameters.length) = some 2 := by decide +kernel
theorem dyS_X10_miss : yX10_miss.cls ≠ "java/lang/invoke/MethodHandle" ∧ yX10_miss.cls ≠ "java/lang/invoke/VarHandle" ∧ (parseMethodDescriptor yX10_miss.desc).map (fun d => d.parameters.length) = some 2 := by decide +kernel
theorem dyV_X10_setStandard : yX10_setStandard.cls = "CompositeDecoder" ∧ yX10_setStandard.cls ≠ "java/lang/invoke/MethodHandle" ∧ yX10_setStandard.cls ≠ "java/lang/invoke/VarHandle" ∧ (parseMethodDescriptor yX10_setStandard.desc).map (fun d => d.parameters.length) = some 1 := by decide +kernel
theorem dyS_X10_setStandard : yX10_setStandard.cls ≠ "java/lang/invoke/MethodHandle" ∧ yX10_setStandard.cls ≠ "java/lang/invoke/VarHandle" ∧ (parseMethodDescriptor yX10_setStandard.desc).map (fun d => d.parameters.length) = some 1 := by decide +kernel
theorem dyV_X10_type : yX10_type.cls = "CompositeDecoder" ∧ yX10_type.cls ≠ "java/lang/invoke/MethodHandle" ∧ yX10_type.cls ≠ "java/lang/invoke/VarHandle" ∧ (parseMethodDescriptor yX10_type.desc).map (fun d => d.parameters.length) = some 1 := by decide +kernel
theorem dyS_X10_type : yX10_type.cls ≠ "java/lang/invoke/MethodHandle" ∧ yX10_type.cls ≠ "java/lang/invoke/VarHandle" ∧ (parseMethodDescriptor yX10_type.desc).map (fun d => d.parameters.length) = some 1 := by decide +kernel
theorem dyV_X10_clearText : yX10_clearText.cls = "CompositeDecoder" ∧ yX10_clearText.cls ≠ "java/lang/invoke/MethodHandle" ∧ yX10_clearText.cls ≠ "java/lang/invoke/VarHandle" ∧ (parseMethodDescriptor yX10_clearText.desc).map (fun d => d.parameters.length) = some 0 := by decide +kernel
theorem dyS_X10_clearText : yX10_clearText.cls ≠ "java/lang/invoke/MethodHandle" ∧ yX10_clearText.cls ≠ "java/lang/invoke/VarHandle" ∧ (parseMethodDescriptor yX10_clearText.desc).map (fun d => d.parameters.length) = some 0 := by decide +kernel
theorem dyV_X10_readBars : yX10_readBars.cls = "CompositeDecoder" ∧ yX10_readBars.cls ≠ "java/lang/invoke/MethodHandle" ∧ yX10_readBars.cls ≠ "java/lang/invoke/VarHandle" ∧ (parseMethodDescriptor yX10_readBars.desc).map (fun d => d.parameters.length) = some 1 := by decide +kernel
theorem dyS_X10_readBars : yX10_readBars.cls ≠ "java/lang/invoke/MethodHandle" ∧ yX10_readBars.cls ≠ "java/lang/invoke/VarHandle" ∧ (parseMethodDescriptor yX10_readBars.desc).map (fun d => d.parameters.length) = some 1 := by decide +kernel
theorem dyV_X10_sample : yX10_sample.cls = "CompositeDecoder" ∧ yX10_sample.cls ≠ "java/lang/invoke/MethodHandle" ∧ yX10_sample.cls ≠ "java/lang/invoke/VarHandle" ∧ (parseMethodDescriptor yX10_sample.desc).map (fun d => d.parameters.length) = some 2 := by decide +kernel
theorem dyS_X10_sample : yX10_sample.cls ≠ "java/lang/invoke/MethodHandle" ∧ yX10_sample.cls ≠ "java/lang/invoke/VarHandle" ∧ (parseMethodDescriptor yX10_sample.desc).map (fun d => d.parameters.length) = some 2 := by decide +kernel
theorem dyV_X10_set : yX10_set.cls = "CompositeDecoder" ∧ yX10_set.cls ≠ "java/lang/invoke/MethodHandle" ∧ yX10_set.cls ≠ "java/lang/invoke/VarHandle" ∧ (parseMethodDescriptor yX10_set.desc).map (fun d => d.parameters.length) = some 2 := by decide +kernel
theorem dyS_X10_set : yX10_set.cls ≠ "java/lang/invoke/MethodHandle" ∧ yX10_set.cls ≠ "java/lang/invoke/VarHandle" ∧ (parseMethodDescriptor yX10_set.desc).map (fun d => d.parameters.length) = some 2 := by decide +kernel
theorem dyV_X10_decode : yX10_decode.cls = "CompositeDecoder" ∧ yX10_decode.cls ≠ "java/lang/invoke/MethodHandle" ∧ yX10_decode.cls ≠ "java/lang/invoke/VarHandle" ∧ (parseMethodDescriptor yX10_decode.desc).map (fun d => d.parameters.length) = some 0 := by decide +kernel
theorem dyS_X10_decode : yX10_decode.cls ≠ "java/lang/invoke/MethodHandle" ∧ yX10_decode.cls ≠ "java/lang/invoke/VarHandle" ∧ (parseMethodDescriptor yX10_decode.desc).map (fun d => d.parameters.length) = some 0 := by decide +kernel
theorem dyV_X10_line : yX10_line.cls = "CompositeDecoder" ∧ yX10_line.cls ≠ "java/lang/invoke/MethodHandle" ∧ yX10_line.cls ≠ "java/lang/invoke/VarHandle" ∧ (parseMethodDescriptor yX10_line.desc).map (fun d => d.parameters.length) = some 2 := by decide +kernel
theorem dyS_X10_line : yX10_line.cls ≠ "java/lang/invoke/MethodHandle" ∧ yX10_line.cls ≠ "java/lang/invoke/VarHandle" ∧ (parseMethodDescriptor yX10_line.desc).map (fun d => d.parameters.length) = some 2 := by decide +kernel
theorem dyV_X10_luma : yX10_luma.cls = "CompositeDecoder" ∧ yX10_luma.cls ≠ "java/lang/invoke/MethodHandle" ∧ yX10_luma.cls ≠ "java/lang/invoke/VarHandle" ∧ (parseMethodDescriptor yX10_luma.desc).map (fun d => d.parameters.length) = some 2 := by decide +kernel
theorem dyS_X10_luma : yX10_luma.cls ≠ "java/lang/invoke/MethodHandle" ∧ yX10_luma.cls ≠ "java/lang/invoke/VarHandle" ∧ (parseMethodDescriptor yX10_luma.desc).map (fun d => d.parameters.length) = some 2 := by decide +kernel
theorem dyV_X10_combed : yX10_combed.cls = "CompositeDecoder" ∧ yX10_combed.cls ≠ "java/lang/invoke/MethodHandle" ∧ yX10_combed.cls ≠ "java/lang/invoke/VarHandle" ∧ (parseMethodDescriptor yX10_combed.desc).map (fun d => d.parameters.length) = some 2 := by decide +kernel
theorem dyS_X10_combed : yX10_combed.cls ≠ "java/lang/invoke/MethodHandle" ∧ yX10_combed.cls ≠ "java/lang/invoke/VarHandle" ∧ (parseMethodDescriptor yX10_combed.desc).map (fun d => d.parameters.length) = some 2 := by decide +kernel
theorem dyV_X10_thousandths : yX10_thousandths.cls = "CompositeDecoder" ∧ yX10_thousandths.cls ≠ "java/lang/invoke/MethodHandle" ∧ yX10_thousandths.cls ≠ "java/lang/invoke/VarHandle" ∧ (parseMethodDescriptor yX10_thousandths.desc).map (fun d => d.parameters.length) = some 3 := by decide +kernel
theorem dyS_X10_thousandths : yX10_thousandths.cls ≠ "java/lang/invoke/MethodHandle" ∧ yX10_thousandths.cls ≠ "java/lang/invoke/VarHandle" ∧ (parseMethodDescriptor yX10_thousandths.desc).map (fun d => d.parameters.length) = some 3 := by decide +kernel
theorem dyV_X10_motion : yX10_motion.cls = "CompositeDecoder" ∧ yX10_motion.cls ≠ "java/lang/invoke/MethodHandle" ∧ yX10_motion.cls ≠ "java/lang/invoke/VarHandle" ∧ (parseMethodDescriptor yX10_motion.desc).map (fun d => d.parameters.length) = some 2 := by decide +kernel
theorem dyS_X10_motion : yX10_motion.cls ≠ "java/lang/invoke/MethodHandle" ∧ yX10_motion.cls ≠ "java/lang/invoke/VarHandle" ∧ (parseMethodDescriptor yX10_motion.desc).map (fun d => d.parameters.length) = some 2 := by decide +kernel
theorem dyV_X10_count : yX10_count.cls = "CompositeDecoder" ∧ yX10_count.cls ≠ "java/lang/invoke/MethodHandle" ∧ yX10_count.cls ≠ "java/lang/invoke/VarHandle" ∧ (parseMethodDescriptor yX10_count.desc).map (fun d => d.parameters.length) = some 1 := by decide +kernel
theorem dyS_X10_count : yX10_count.cls ≠ "java/lang/invoke/MethodHandle" ∧ yX10_count.cls ≠ "java/lang/invoke/VarHandle" ∧ (parseMethodDescriptor yX10_count.desc).map (fun d => d.parameters.length) = some 1 := by decide +kernel
theorem dyV_X10_countOfNow : yX10_countOfNow.cls = "CompositeDecoder" ∧ yX10_countOfNow.cls ≠ "java/lang/invoke/MethodHandle" ∧ yX10_countOfNow.cls ≠ "java/lang/invoke/VarHandle" ∧ (parseMethodDescriptor yX10_countOfNow.desc).map (fun d => d.parameters.length) = some 1 := by decide +kernel
theorem dyS_X10_countOfNow : yX10_countOfNow.cls ≠ "java/lang/invoke/MethodHandle" ∧ yX10_countOfNow.cls ≠ "java/lang/invoke/VarHandle" ∧ (parseMethodDescriptor yX10_countOfNow.desc).map (fun d => d.parameters.length) = some 1 := by decide +kernel
theorem dyV_X10_countOfDecoding : yX10_countOfDecoding.cls = "CompositeDecoder" ∧ yX10_countOfDecoding.cls ≠ "java/lang/invoke/MethodHandle" ∧ yX10_countOfDecoding.cls ≠ "java/lang/invoke/VarHandle" ∧ (parseMethodDescriptor yX10_countOfDecoding.desc).map (fun d => d.parameters.length) = some 1 := by decide +kernel
theorem dyS_X10_countOfDecoding : yX10_countOfDecoding.cls ≠ "java/lang/invoke/MethodHandle" ∧ yX10_countOfDecoding.cls ≠ "java/lang/invoke/VarHandle" ∧ (parseMethodDescriptor yX10_countOfDecoding.desc).map (fun d => d.parameters.length) = some 1 := by decide +kernel
theorem dyV_X10_wrongLumas : yX10_wrongLumas.cls = "CompositeDecoder" ∧ yX10_wrongLumas.cls ≠ "java/lang/invoke/MethodHandle" ∧ yX10_wrongLumas.cls ≠ "java/lang/invoke/VarHandle" ∧ (parseMethodDescriptor yX10_wrongLumas.desc).map (fun d => d.parameters.length) = some 0 := by decide +kernel
theorem dyS_X10_wrongLumas : yX10_wrongLumas.cls ≠ "java/lang/invoke/MethodHandle" ∧ yX10_wrongLumas.cls ≠ "java/lang/invoke/VarHandle" ∧ (parseMethodDescriptor yX10_wrongLumas.desc).map (fun d => d.parameters.length) = some 0 := by decide +kernel
theorem dyV_X10_lumaDifferences : yX10_lumaDifferences.cls = "CompositeDecoder" ∧ yX10_lumaDifferences.cls ≠ "java/lang/invoke/MethodHandle" ∧ yX10_lumaDifferences.cls ≠ "java/lang/invoke/VarHandle" ∧ (parseMethodDescriptor yX10_lumaDifferences.desc).map (fun d => d.parameters.length) = some 0 := by decide +kernel
theorem dyS_X10_lumaDifferences : yX10_lumaDifferences.cls ≠ "java/lang/invoke/MethodHandle" ∧ yX10_lumaDifferences.cls ≠ "java/lang/invoke/VarHandle" ∧ (parseMethodDescriptor yX10_lumaDifferences.desc).map (fun d => d.parameters.length) = some 0 := by decide +kernel
theorem dyV_X10_tally : yX10_tally.cls = "CompositeDecoder" ∧ yX10_tally.cls ≠ "java/lang/invoke/MethodHandle" ∧ yX10_tally.cls ≠ "java/lang/invoke/VarHandle" ∧ (parseMethodDescriptor yX10_tally.desc).map (fun d => d.parameters.length) = some 1 := by decide +kernel
theorem dyS_X10_tally : yX10_tally.cls ≠ "java/lang/invoke/MethodHandle" ∧ yX10_tally.cls ≠ "java/lang/invoke/VarHandle" ∧ (parseMethodDescriptor yX10_tally.desc).map (fun d => d.parameters.length) = some 1 := by decide +kernel
theorem dyV_X10_tally_ : yX10_tally_.cls = "CompositeDecoder" ∧ yX10_tally_.cls ≠ "java/lang/invoke/MethodHandle" ∧ yX10_tally_.cls ≠ "java/lang/invoke/VarHandle" ∧ (parseMethodDescriptor yX10_tally_.desc).map (fun d => d.parameters.length) = some 2 := by decide +kernel
theorem dyS_X10_tally_ : yX10_tally_.cls ≠ "java/lang/invoke/MethodHandle" ∧ yX10_tally_.cls ≠ "java/lang/invoke/VarHandle" ∧ (parseMethodDescriptor yX10_tally_.desc).map (fun d => d.parameters.length) = some 2 := by decide +kernel
theorem dyV_X10_oneIf : yX10_oneIf.cls = "CompositeDecoder" ∧ yX10_oneIf.cls ≠ "java/lang/invoke/MethodHandle" ∧ yX10_oneIf.cls ≠ "java/lang/invoke/VarHandle" ∧ (parseMethodDescriptor yX10_oneIf.desc).map (fun d => d.parameters.length) = some 1 := by decide +kernel
theorem dyS_X10_oneIf : yX10_oneIf.cls ≠ "java/lang/invoke/MethodHandle" ∧ yX10_oneIf.cls ≠ "java/lang/invoke/VarHandle" ∧ (parseMethodDescriptor yX10_oneIf.desc).map (fun d => d.parameters.length) = some 1 := by decide +kernel
theorem dyV_X10_isWithin : yX10_isWithin.cls = "CompositeDecoder" ∧ yX10_isWithin.cls ≠ "java/lang/invoke/MethodHandle" ∧ yX10_isWithin.cls ≠ "java/lang/invoke/VarHandle" ∧ (parseMethodDescriptor yX10_isWithin.desc).map (fun d => d.parameters.length) = some 3 := by decide +kernel
theorem dyS_X10_isWithin : yX10_isWithin.cls ≠ "java/lang/invoke/MethodHandle" ∧ yX10_isWithin.cls ≠ "java/lang/invoke/VarHandle" ∧ (parseMethodDescriptor yX10_isWithin.desc).map (fun d => d.parameters.length) = some 3 := by decide +kernel
theorem dyV_X10_isLine : yX10_isLine.cls = "CompositeDecoder" ∧ yX10_isLine.cls ≠ "java/lang/invoke/MethodHandle" ∧ yX10_isLine.cls ≠ "java/lang/invoke/VarHandle" ∧ (parseMethodDescriptor yX10_isLine.desc).map (fun d => d.parameters.length) = some 1 := by decide +kernel
theorem dyS_X10_isLine : yX10_isLine.cls ≠ "java/lang/invoke/MethodHandle" ∧ yX10_isLine.cls ≠ "java/lang/invoke/VarHandle" ∧ (parseMethodDescriptor yX10_isLine.desc).map (fun d => d.parameters.length) = some 1 := by decide +kernel
theorem dyV_X10_isPlace : yX10_isPlace.cls = "CompositeDecoder" ∧ yX10_isPlace.cls ≠ "java/lang/invoke/MethodHandle" ∧ yX10_isPlace.cls ≠ "java/lang/invoke/VarHandle" ∧ (parseMethodDescriptor yX10_isPlace.desc).map (fun d => d.parameters.length) = some 2 := by decide +kernel
theorem dyS_X10_isPlace : yX10_isPlace.cls ≠ "java/lang/invoke/MethodHandle" ∧ yX10_isPlace.cls ≠ "java/lang/invoke/VarHandle" ∧ (parseMethodDescriptor yX10_isPlace.desc).map (fun d => d.parameters.length) = some 2 := by decide +kernel
theorem dyV_X10_isPaint : yX10_isPaint.cls = "CompositeDecoder" ∧ yX10_isPaint.cls ≠ "java/lang/invoke/MethodHandle" ∧ yX10_isPaint.cls ≠ "java/lang/invoke/VarHandle" ∧ (parseMethodDescriptor yX10_isPaint.desc).map (fun d => d.parameters.length) = some 3 := by decide +kernel
theorem dyS_X10_isPaint : yX10_isPaint.cls ≠ "java/lang/invoke/MethodHandle" ∧ yX10_isPaint.cls ≠ "java/lang/invoke/VarHandle" ∧ (parseMethodDescriptor yX10_isPaint.desc).map (fun d => d.parameters.length) = some 3 := by decide +kernel
theorem dyV_X10_placeOf : yX10_placeOf.cls = "CompositeDecoder" ∧ yX10_placeOf.cls ≠ "java/lang/invoke/MethodHandle" ∧ yX10_placeOf.cls ≠ "java/lang/invoke/VarHandle" ∧ (parseMethodDescriptor yX10_placeOf.desc).map (fun d => d.parameters.length) = some 2 := by decide +kernel
theorem dyS_X10_placeOf : yX10_placeOf.cls ≠ "java/lang/invoke/MethodHandle" ∧ yX10_placeOf.cls ≠ "java/lang/invoke/VarHandle" ∧ (parseMethodDescriptor yX10_placeOf.desc).map (fun d => d.parameters.length) = some 2 := by decide +kernel
theorem dyV_X10_turnAt : yX10_turnAt.cls = "CompositeDecoder" ∧ yX10_turnAt.cls ≠ "java/lang/invoke/MethodHandle" ∧ yX10_turnAt.cls ≠ "java/lang/invoke/VarHandle" ∧ (parseMethodDescriptor yX10_turnAt.desc).map (fun d => d.parameters.length) = some 2 := by decide +kernel
theorem dyS_X10_turnAt : yX10_turnAt.cls ≠ "java/lang/invoke/MethodHandle" ∧ yX10_turnAt.cls ≠ "java/lang/invoke/VarHandle" ∧ (parseMethodDescriptor yX10_turnAt.desc).map (fun d => d.parameters.length) = some 2 := by decide +kernel
theorem dyV_J9_floorDiv_7cf53 : yJ9_floorDiv_7cf53.cls = "java/lang/Math" ∧ yJ9_floorDiv_7cf53.cls ≠ "java/lang/invoke/MethodHandle" ∧ yJ9_floorDiv_7cf53.cls ≠ "java/lang/invoke/VarHandle" ∧ (parseMethodDescriptor yJ9_floorDiv_7cf53.desc).map (fun d => d.parameters.length) = some 2 := by decide +kernel
theorem dyS_J9_floorDiv_7cf53 : yJ9_floorDiv_7cf53.cls ≠ "java/lang/invoke/MethodHandle" ∧ yJ9_floorDiv_7cf53.cls ≠ "java/lang/invoke/VarHandle" ∧ (parseMethodDescriptor yJ9_floorDiv_7cf53.desc).map (fun d => d.parameters.length) = some 2 := by decide +kernel
theorem dyV_J9_floorMod_7cf53 : yJ9_floorMod_7cf53.cls = "java/lang/Math" ∧ yJ9_floorMod_7cf53.cls ≠ "java/lang/invoke/MethodHandle" ∧ yJ9_floorMod_7cf53.cls ≠ "java/lang/invoke/VarHandle" ∧ (parseMethodDescriptor yJ9_floorMod_7cf53.desc).map (fun d => d.parameters.length) = some 2 := by decide +kernel
theorem dyS_J9_floorMod_7cf53 : yJ9_floorMod_7cf53.cls ≠ "java/lang/invoke/MethodHandle" ∧ yJ9_floorMod_7cf53.cls ≠ "java/lang/invoke/VarHandle" ∧ (parseMethodDescriptor yJ9_floorMod_7cf53.desc).map (fun d => d.parameters.length) = some 2 := by decide +kernel
theorem dyV_J9_abs_0f7a4 : yJ9_abs_0f7a4.cls = "java/lang/Math" ∧ yJ9_abs_0f7a4.cls ≠ "java/lang/invoke/MethodHandle" ∧ yJ9_abs_0f7a4.cls ≠ "java/lang/invoke/VarHandle" ∧ (parseMethodDescriptor yJ9_abs_0f7a4.desc).map (fun d => d.parameters.length) = some 1 := by decide +kernel
theorem dyS_J9_abs_0f7a4 : yJ9_abs_0f7a4.cls ≠ "java/lang/invoke/MethodHandle" ∧ yJ9_abs_0f7a4.cls ≠ "java/lang/invoke/VarHandle" ∧ (parseMethodDescriptor yJ9_abs_0f7a4.desc).map (fun d => d.parameters.length) = some 1 := by decide +kernel
theorem dyV_L_cell : yL_cell.cls = "CompositeDecoderLaw" ∧ yL_cell.cls ≠ "java/lang/invoke/MethodHandle" ∧ yL_cell.cls ≠ "java/lang/invoke/VarHandle" ∧ (parseMethodDescriptor yL_cell.desc).map (fun d => d.parameters.length) = some 2 := by decide +kernel
theorem dyS_L_cell : yL_cell.cls ≠ "java/lang/invoke/MethodHandle" ∧ yL_cell.cls ≠ "java/lang/invoke/VarHandle" ∧ (parseMethodDescriptor yL_cell.desc).map (fun d => d.parameters.length) = some 2 := by decide +kernel
theorem dyV_L_low : yL_low.cls = "CompositeDecoderLaw" ∧ yL_low.cls ≠ "java/lang/invoke/MethodHandle" ∧ yL_low.cls ≠ "java/lang/invoke/VarHandle" ∧ (parseMethodDescriptor yL_low.desc).map (fun d => d.parameters.length) = some 2 := by decide +kernel
theorem dyS_L_low : yL_low.cls ≠ "java/lang/invoke/MethodHandle" ∧ yL_low.cls ≠ "java/lang/invoke/VarHandle" ∧ (parseMethodDescriptor yL_low.desc).map (fun d => d.parameters.length) = some 2 := by decide +kernel
theorem dyV_L_size : yL_size.cls = "CompositeDecoderLaw" ∧ yL_size.cls ≠ "java/lang/invoke/MethodHandle" ∧ yL_size.cls ≠ "java/lang/invoke/VarHandle" ∧ (parseMethodDescriptor yL_size.desc).map (fun d => d.parameters.length) = some 1 := by decide +kernel
theorem dyS_L_size : yL_size.cls ≠ "java/lang/invoke/MethodHandle" ∧ yL_size.cls ≠ "java/lang/invoke/VarHandle" ∧ (parseMethodDescriptor yL_size.desc).map (fun d => d.parameters.length) = some 1 := by decide +kernel
theorem dyV_L_floor : yL_floor.cls = "CompositeDecoderLaw" ∧ yL_floor.cls ≠ "java/lang/invoke/MethodHandle" ∧ yL_floor.cls ≠ "java/lang/invoke/VarHandle" ∧ (parseMethodDescriptor yL_floor.desc).map (fun d => d.parameters.length) = some 2 := by decide +kernel
theorem dyS_L_floor : yL_floor.cls ≠ "java/lang/invoke/MethodHandle" ∧ yL_floor.cls ≠ "java/lang/invoke/VarHandle" ∧ (parseMethodDescriptor yL_floor.desc).map (fun d => d.parameters.length) = some 2 := by decide +kernel
theorem dyV_L_at : yL_at.cls = "CompositeDecoderLaw" ∧ yL_at.cls ≠ "java/lang/invoke/MethodHandle" ∧ yL_at.cls ≠ "java/lang/invoke/VarHandle" ∧ (parseMethodDescriptor yL_at.desc).map (fun d => d.parameters.length) = some 3 := by decide +kernel
theorem dyS_L_at : yL_at.cls ≠ "java/lang/invoke/MethodHandle" ∧ yL_at.cls ≠ "java/lang/invoke/VarHandle" ∧ (parseMethodDescriptor yL_at.desc).map (fun d => d.parameters.length) = some 3 := by decide +kernel
theorem dyV_L_sine : yL_sine.cls = "CompositeDecoderLaw" ∧ yL_sine.cls ≠ "java/lang/invoke/MethodHandle" ∧ yL_sine.cls ≠ "java/lang/invoke/VarHandle" ∧ (parseMethodDescriptor yL_sine.desc).map (fun d => d.parameters.length) = some 1 := by decide +kernel
theorem dyS_L_sine : yL_sine.cls ≠ "java/lang/invoke/MethodHandle" ∧ yL_sine.cls ≠ "java/lang/invoke/VarHandle" ∧ (parseMethodDescriptor yL_sine.desc).map (fun d => d.parameters.length) = some 1 := by decide +kernel
theorem dyV_L_cosine : yL_cosine.cls = "CompositeDecoderLaw" ∧ yL_cosine.cls ≠ "java/lang/invoke/MethodHandle" ∧ yL_cosine.cls ≠ "java/lang/invoke/VarHandle" ∧ (parseMethodDescriptor yL_cosine.desc).map (fun d => d.parameters.length) = some 1 := by decide +kernel
theorem dyS_L_cosine : yL_cosine.cls ≠ "java/lang/invoke/MethodHandle" ∧ yL_cosine.cls ≠ "java/lang/invoke/VarHandle" ∧ (parseMethodDescriptor yL_cosine.desc).map (fun d => d.parameters.length) = some 1 := by decide +kernel
theorem dyV_L_lines : yL_lines.cls = "CompositeDecoderLaw" ∧ yL_lines.cls ≠ "java/lang/invoke/MethodHandle" ∧ yL_lines.cls ≠ "java/lang/invoke/VarHandle" ∧ (parseMethodDescriptor yL_lines.desc).map (fun d => d.parameters.length) = some 2 := by decide +kernel
theorem dyS_L_lines : yL_lines.cls ≠ "java/lang/invoke/MethodHandle" ∧ yL_lines.cls ≠ "java/lang/invoke/VarHandle" ∧ (parseMethodDescriptor yL_lines.desc).map (fun d => d.parameters.length) = some 2 := by decide +kernel
theorem dyV_L_sum : yL_sum.cls = "CompositeDecoderLaw" ∧ yL_sum.cls ≠ "java/lang/invoke/MethodHandle" ∧ yL_sum.cls ≠ "java/lang/invoke/VarHandle" ∧ (parseMethodDescriptor yL_sum.desc).map (fun d => d.parameters.length) = some 3 := by decide +kernel
theorem dyS_L_sum : yL_sum.cls ≠ "java/lang/invoke/MethodHandle" ∧ yL_sum.cls ≠ "java/lang/invoke/VarHandle" ∧ (parseMethodDescriptor yL_sum.desc).map (fun d => d.parameters.length) = some 3 := by decide +kernel
theorem dyV_L_near : yL_near.cls = "CompositeDecoderLaw" ∧ yL_near.cls ≠ "java/lang/invoke/MethodHandle" ∧ yL_near.cls ≠ "java/lang/invoke/VarHandle" ∧ (parseMethodDescriptor yL_near.desc).map (fun d => d.parameters.length) = some 4 := by decide +kernel
theorem dyS_L_near : yL_near.cls ≠ "java/lang/invoke/MethodHandle" ∧ yL_near.cls ≠ "java/lang/invoke/VarHandle" ∧ (parseMethodDescriptor yL_near.desc).map (fun d => d.parameters.length) = some 4 := by decide +kernel
theorem dyV_L_combs : yL_combs.cls = "CompositeDecoderLaw" ∧ yL_combs.cls ≠ "java/lang/invoke/MethodHandle" ∧ yL_combs.cls ≠ "java/lang/invoke/VarHandle" ∧ (parseMethodDescriptor yL_combs.desc).map (fun d => d.parameters.length) = some 1 := by decide +kernel
theorem dyS_L_combs : yL_combs.cls ≠ "java/lang/invoke/MethodHandle" ∧ yL_combs.cls ≠ "java/lang/invoke/VarHandle" ∧ (parseMethodDescriptor yL_combs.desc).map (fun d => d.parameters.length) = some 1 := by decide +kernel
theorem dyV_L_motion : yL_motion.cls = "CompositeDecoderLaw" ∧ yL_motion.cls ≠ "java/lang/invoke/MethodHandle" ∧ yL_motion.cls ≠ "java/lang/invoke/VarHandle" ∧ (parseMethodDescriptor yL_motion.desc).map (fun d => d.parameters.length) = some 4 := by decide +kernel
theorem dyS_L_motion : yL_motion.cls ≠ "java/lang/invoke/MethodHandle" ∧ yL_motion.cls ≠ "java/lang/invoke/VarHandle" ∧ (parseMethodDescriptor yL_motion.desc).map (fun d => d.parameters.length) = some 4 := by decide +kernel
theorem dyV_L_is : yL_is.cls = "CompositeDecoderLaw" ∧ yL_is.cls ≠ "java/lang/invoke/MethodHandle" ∧ yL_is.cls ≠ "java/lang/invoke/VarHandle" ∧ (parseMethodDescriptor yL_is.desc).map (fun d => d.parameters.length) = some 3 := by decide +kernel
theorem dyS_L_is : yL_is.cls ≠ "java/lang/invoke/MethodHandle" ∧ yL_is.cls ≠ "java/lang/invoke/VarHandle" ∧ (parseMethodDescriptor yL_is.desc).map (fun d => d.parameters.length) = some 3 := by decide +kernel
theorem dyV_L_keep : yL_keep.cls = "CompositeDecoderLaw" ∧ yL_keep.cls ≠ "java/lang/invoke/MethodHandle" ∧ yL_keep.cls ≠ "java/lang/invoke/VarHandle" ∧ (parseMethodDescriptor yL_keep.desc).map (fun d => d.parameters.length) = some 3 := by decide +kernel
theorem dyS_L_keep : yL_keep.cls ≠ "java/lang/invoke/MethodHandle" ∧ yL_keep.cls ≠ "java/lang/invoke/VarHandle" ∧ (parseMethodDescriptor yL_keep.desc).map (fun d => d.parameters.length) = some 3 := by decide +kernel
theorem dyV_L_bars : yL_bars.cls = "CompositeDecoderLaw" ∧ yL_bars.cls ≠ "java/lang/invoke/MethodHandle" ∧ yL_bars.cls ≠ "java/lang/invoke/VarHandle" ∧ (parseMethodDescriptor yL_bars.desc).map (fun d => d.parameters.length) = some 4 := by decide +kernel
theorem dyS_L_bars : yL_bars.cls ≠ "java/lang/invoke/MethodHandle" ∧ yL_bars.cls ≠ "java/lang/invoke/VarHandle" ∧ (parseMethodDescriptor yL_bars.desc).map (fun d => d.parameters.length) = some 4 := by decide +kernel
theorem dyV_L_errors : yL_errors.cls = "CompositeDecoderLaw" ∧ yL_errors.cls ≠ "java/lang/invoke/MethodHandle" ∧ yL_errors.cls ≠ "java/lang/invoke/VarHandle" ∧ (parseMethodDescriptor yL_errors.desc).map (fun d => d.parameters.length) = some 1 := by decide +kernel
theorem dyS_L_errors : yL_errors.cls ≠ "java/lang/invoke/MethodHandle" ∧ yL_errors.cls ≠ "java/lang/invoke/VarHandle" ∧ (parseMethodDescriptor yL_errors.desc).map (fun d => d.parameters.length) = some 1 := by decide +kernel
end
section
/-! leaves -/
def f_J9_floorDiv_7cf53 (x : Int32) (y : Int32) : Int32 := if 0 ≤ (x ^^^ y) then (x / y) else (if ((x / y) * y) = x then (x / y) else ((x / y) - 1))
theorem f_J9_floorDiv_7cf53_eq (x : Int32) (y : Int32) : f_J9_floorDiv_7cf53 x y = (if 0 ≤ (x ^^^ y) then (x / y) else (if ((x / y) * y) = x then (x / y) else ((x / y) - 1))) := rfl
set_option maxRecDepth 100000 in
set_option maxHeartbeats 4000000 in
theorem c_J9_floorDiv_7cf53 (l : Launch) (D : va_G) (ad : Nat → Nat) (dA : Nat → ClassId) (z0 : Nat) (tt : Nat → Nat) (σ : Sg) (φ : Fl) (x : Int32) (y : Int32) (hy : ¬ y = 0) : MC l D ad dA z0 tt yJ9_floorDiv_7cf53 (Cond.code yJ9_floorDiv_7cf53 cJ9_floorDiv_7cf53 3 (some .int) :: lw_all) { frames := 0, cells := 0, slots := 0, locals := 0 } [.int x, .int y] σ φ (Fn (some (.int (f_J9_floorDiv_7cf53 x y))) σ φ) := by
  refine mk_MCF (by decide +kernel) (Nat.le_of_ble_eq_true rfl) ?_
  intro K C hi hf hv
  change K σ φ 0 [(0, .int x), (1, .int y)] []
  refine g_iload_n C (i := 0) dJ9_floorDiv_7cf53_0 rfl 0 rfl ?_
  refine g_iload_n C (i := 1) dJ9_floorDiv_7cf53_1 rfl 1 rfl ?_
  refine g_idiv C dJ9_floorDiv_7cf53_2 hy ?_
  refine g_istore_n C (i := 2) (lv' := [(2, .int (x / y)), (0, .int x), (1, .int y)]) dJ9_floorDiv_7cf53_3 rfl (by decide) rfl ?_
  refine g_iload_n C (i := 0) dJ9_floorDiv_7cf53_4 rfl 1 rfl ?_
  refine g_iload_n C (i := 1) dJ9_floorDiv_7cf53_5 rfl 2 rfl ?_
  refine g_ixor C dJ9_floorDiv_7cf53_6 ?_
  refine g_if_ge C (tgt := 21) dJ9_floorDiv_7cf53_7 (by decide) (fun h1 => ?_) (fun h1 => ?_)
  · refine g_iload_n C (i := 2) dJ9_floorDiv_7cf53_21 rfl 0 rfl ?_
    have e0 : f_J9_floorDiv_7cf53 x y = x / y := by
      exact ((f_J9_floorDiv_7cf53_eq _ _).trans (if_pos h1))
    exact hi _ _ _ _ _ _ rfl dJ9_floorDiv_7cf53_22 rfl ⟨(congrArg (fun z => some (Value.int z)) e0).symm, rfl, rfl⟩
  · refine g_iload_n C (i := 2) dJ9_floorDiv_7cf53_10 rfl 0 rfl ?_
    refine g_iload_n C (i := 1) dJ9_floorDiv_7cf53_11 rfl 2 rfl ?_
    refine g_imul C dJ9_floorDiv_7cf53_12 ?_
    refine g_iload_n C (i := 0) dJ9_floorDiv_7cf53_13 rfl 1 rfl ?_
    refine g_icmp_eq C (tgt := 21) dJ9_floorDiv_7cf53_14 (by decide) (fun h2 => ?_) (fun h2 => ?_)
    · refine g_iload_n C (i := 2) dJ9_floorDiv_7cf53_21 rfl 0 rfl ?_
      have e0 : f_J9_floorDiv_7cf53 x y = x / y := by
        exact ((f_J9_floorDiv_7cf53_eq _ _).trans ((if_neg h1).trans (if_pos h2)))
      exact hi _ _ _ _ _ _ rfl dJ9_floorDiv_7cf53_22 rfl ⟨(congrArg (fun z => some (Value.int z)) e0).symm, rfl, rfl⟩
    · refine g_iload_n C (i := 2) dJ9_floorDiv_7cf53_17 rfl 0 rfl ?_
      refine g_iconst C (v := 1) dJ9_floorDiv_7cf53_18 (by decide) ?_
      refine g_isub C dJ9_floorDiv_7cf53_19 ?_
      have e0 : f_J9_floorDiv_7cf53 x y = (x / y) - 1 := by
        exact ((f_J9_floorDiv_7cf53_eq _ _).trans ((if_neg h1).trans (if_neg h2)))
      exact hi _ _ _ _ _ _ rfl dJ9_floorDiv_7cf53_20 rfl ⟨(congrArg (fun z => some (Value.int z)) e0).symm, rfl, rfl⟩
def f_J9_floorMod_7cf53 (x : Int32) (y : Int32) : Int32 := if 0 ≤ (x ^^^ y) then (x - x / y * y) else (if (x - x / y * y) = 0 then (x - x / y * y) else ((x - x / y * y) + y))
theorem f_J9_floorMod_7cf53_eq (x : Int32) (y : Int32) : f_J9_floorMod_7cf53 x y = (if 0 ≤ (x ^^^ y) then (x - x / y * y) else (if (x - x / y * y) = 0 then (x - x / y * y) else ((x - x / y * y) + y))) := rfl
set_option maxRecDepth 100000 in
set_option maxHeartbeats 4000000 in
theorem c_J9_floorMod_7cf53 (l : Launch) (D : va_G) (ad : Nat → Nat) (dA : Nat → ClassId) (z0 : Nat) (tt : Nat → Nat) (σ : Sg) (φ : Fl) (x : Int32) (y : Int32) (hy : ¬ y = 0) : MC l D ad dA z0 tt yJ9_floorMod_7cf53 (Cond.code yJ9_floorMod_7cf53 cJ9_floorMod_7cf53 3 (some .int) :: lw_all) { frames := 0, cells := 0, slots := 0, locals := 0 } [.int x, .int y] σ φ (Fn (some (.int (f_J9_floorMod_7cf53 x y))) σ φ) := by
  refine mk_MCF (by decide +kernel) (Nat.le_of_ble_eq_true rfl) ?_
  intro K C hi hf hv
  change K σ φ 0 [(0, .int x), (1, .int y)] []
  refine g_iload_n C (i := 0) dJ9_floorMod_7cf53_0 rfl 0 rfl ?_
  refine g_iload_n C (i := 1) dJ9_floorMod_7cf53_1 rfl 1 rfl ?_
  refine g_irem C dJ9_floorMod_7cf53_2 hy ?_
  refine g_istore_n C (i := 2) (lv' := [(2, .int (x - x / y * y)), (0, .int x), (1, .int y)]) dJ9_floorMod_7cf53_3 rfl (by decide) rfl ?_
  refine g_iload_n C (i := 0) dJ9_floorMod_7cf53_4 rfl 1 rfl ?_
  refine g_iload_n C (i := 1) dJ9_floorMod_7cf53_5 rfl 2 rfl ?_
  refine g_ixor C dJ9_floorMod_7cf53_6 ?_
  refine g_if_ge C (tgt := 18) dJ9_floorMod_7cf53_7 (by decide) (fun h1 => ?_) (fun h1 => ?_)
  · refine g_iload_n C (i := 2) dJ9_floorMod_7cf53_18 rfl 0 rfl ?_
    have e0 : f_J9_floorMod_7cf53 x y = x - x / y * y := by
      exact ((f_J9_floorMod_7cf53_eq _ _).trans (if_pos h1))
    exact hi _ _ _ _ _ _ rfl dJ9_floorMod_7cf53_19 rfl ⟨(congrArg (fun z => some (Value.int z)) e0).symm, rfl, rfl⟩
  · refine g_iload_n C (i := 2) dJ9_floorMod_7cf53_10 rfl 0 rfl ?_
    refine g_if_eq C (tgt := 18) dJ9_floorMod_7cf53_11 (by decide) (fun h2 => ?_) (fun h2 => ?_)
    · refine g_iload_n C (i := 2) dJ9_floorMod_7cf53_18 rfl 0 rfl ?_
      have e0 : f_J9_floorMod_7cf53 x y = x - x / y * y := by
        exact ((f_J9_floorMod_7cf53_eq _ _).trans ((if_neg h1).trans (if_pos h2)))
      exact hi _ _ _ _ _ _ rfl dJ9_floorMod_7cf53_19 rfl ⟨(congrArg (fun z => some (Value.int z)) e0).symm, rfl, rfl⟩
    · refine g_iload_n C (i := 2) dJ9_floorMod_7cf53_14 rfl 0 rfl ?_
      refine g_iload_n C (i := 1) dJ9_floorMod_7cf53_15 rfl 2 rfl ?_
      refine g_iadd C dJ9_floorMod_7cf53_16 ?_
      have e0 : f_J9_floorMod_7cf53 x y = (x - x / y * y) + y := by
        exact ((f_J9_floorMod_7cf53_eq _ _).trans ((if_neg h1).trans (if_neg h2)))
      exact hi _ _ _ _ _ _ rfl dJ9_floorMod_7cf53_17 rfl ⟨(congrArg (fun z => some (Value.int z)) e0).symm, rfl, rfl⟩
def f_X10_isWithin (x : Int32) (a : Int32) (b : Int32) : Int32 := let v1 : Int32 := (if x < a then 0 else (if b < x then 0 else 1)); v1
theorem f_X10_isWithin_eq (x : Int32) (a : Int32) (b : Int32) : f_X10_isWithin x a b = (let v1 : Int32 := (if x < a then 0 else (if b < x then 0 else 1)); v1) := rfl
theorem z_X10_isWithin (x : Int32) (a : Int32) (b : Int32) : f_X10_isWithin x a b = 0 ∨ f_X10_isWithin x a b = 1 := (zo_ite (Or.inl rfl) (zo_ite (Or.inl rfl) (Or.inr rfl)))
set_option maxRecDepth 100000 in
set_option maxHeartbeats 4000000 in
theorem c_X10_isWithin (l : Launch) (D : va_G) (ad : Nat → Nat) (dA : Nat → ClassId) (z0 : Nat) (tt : Nat → Nat) (σ : Sg) (φ : Fl) (x : Int32) (a : Int32) (b : Int32)  : MC l D ad dA z0 tt yX10_isWithin (Cond.code yX10_isWithin cX10_isWithin 3 (some .boolean) :: lw_all) { frames := 0, cells := 0, slots := 0, locals := 0 } [.int x, .int a, .int b] σ φ (Fn (some (.int (f_X10_isWithin x a b))) σ φ) := by
  refine mk_MC (by decide) (Nat.le_of_ble_eq_true rfl) ?_
  intro K C hi hf hv
  change K σ φ 0 [(0, .int x), (1, .int a), (2, .int b)] []
  refine g_iload_n C (i := 0) dX10_isWithin_0 rfl 0 rfl ?_
  refine g_iload_n C (i := 1) dX10_isWithin_1 rfl 1 rfl ?_
  have J2 : ∀ (v1 : Int32), (if x < a then 0 else (if b < x then 0 else 1)) = v1 → K σ φ 15 [] [.int v1] := by
    intro v1 ev1
    have e0 : f_X10_isWithin x a b = v1 := by
      subst ev1
      exact f_X10_isWithin_eq _ _ _
    exact hi _ _ _ _ _ _ rfl dX10_isWithin_15 (lv_narrowZ (show v1 = 0 ∨ v1 = 1 by rw [← ev1]; exact (zo_ite (Or.inl rfl) (zo_ite (Or.inl rfl) (Or.inr rfl))))).1 ⟨(congrArg (fun z => some (Value.int z)) e0).symm, rfl, rfl⟩
  refine g_icmp_lt C (tgt := 14) dX10_isWithin_2 (by decide) (fun h1 => ?_) (fun h1 => ?_)
  · refine g_iconst C (v := 0) dX10_isWithin_14 (by decide) ?_
    refine g_loc C [] rfl ?_
    exact J2 _ ((if_pos h1))
  · refine g_iload_n C (i := 0) dX10_isWithin_5 rfl 0 rfl ?_
    refine g_iload_n C (i := 2) dX10_isWithin_6 rfl 2 rfl ?_
    refine g_icmp_gt C (tgt := 14) dX10_isWithin_7 (by decide) (fun h2 => ?_) (fun h2 => ?_)
    · refine g_iconst C (v := 0) dX10_isWithin_14 (by decide) ?_
      refine g_loc C [] rfl ?_
      exact J2 _ (((if_neg h1).trans (if_pos h2)))
    · refine g_iconst C (v := 1) dX10_isWithin_10 (by decide) ?_
      refine g_goto C (tgt := 15) dX10_isWithin_11 (by decide) ?_
      refine g_loc C [] rfl ?_
      exact J2 _ (((if_neg h1).trans (if_neg h2)))
def f_X10_isLine (x : Int32) : Int32 := f_X10_isWithin x 0 7
theorem f_X10_isLine_eq (x : Int32) : f_X10_isLine x = (f_X10_isWithin x 0 7) := rfl
theorem z_X10_isLine (x : Int32) : f_X10_isLine x = 0 ∨ f_X10_isLine x = 1 := (z_X10_isWithin x 0 7)
set_option maxRecDepth 100000 in
set_option maxHeartbeats 4000000 in
theorem c_X10_isLine (l : Launch) (D : va_G) (ad : Nat → Nat) (dA : Nat → ClassId) (z0 : Nat) (tt : Nat → Nat) (σ : Sg) (φ : Fl) (x : Int32)  : MC l D ad dA z0 tt yX10_isLine (Cond.code yX10_isLine cX10_isLine 1 (some .boolean) :: lw_all) { frames := 1, cells := 0, slots := 0, locals := 22 } [.int x] σ φ (Fn (some (.int (f_X10_isLine x))) σ φ) := by
  refine mk_MC (by decide) (Nat.le_of_ble_eq_true rfl) ?_
  intro K C hi hf hv
  change K σ φ 0 [(0, .int x)] []
  refine g_iload_n C (i := 0) dX10_isLine_0 rfl 0 rfl ?_
  refine g_iconst C (v := 0) dX10_isLine_1 (by decide) ?_
  refine g_bipush C (v := 7) dX10_isLine_2 (by decide) ?_
  refine g_callS C (st := []) (c_X10_isWithin l D ad dA z0 tt σ φ x 0 7) rfl ml_X10_105 sm_X10_isWithin in_X10 co_X10_isWithin dyS_X10_isWithin rfl rfl ⟨(Nat.le_of_ble_eq_true rfl), (Nat.le_of_ble_eq_true rfl)⟩ dX10_isLine_4 rfl (Nat.le_of_ble_eq_true rfl) (g_fni ?_)
  have e0 : f_X10_isLine x = f_X10_isWithin x 0 7 := by
    exact f_X10_isLine_eq _
  exact hi _ _ _ _ _ _ rfl dX10_isLine_7 (lv_narrowZ (z_X10_isWithin x 0 7)).1 ⟨(congrArg (fun z => some (Value.int z)) e0).symm, rfl, rfl⟩
def f_X10_isPlace (x : Int32) (y : Int32) : Int32 := let v1 : Int32 := (if (f_X10_isLine x) = 0 then 0 else (if (f_X10_isWithin y 0 9) = 0 then 0 else 1)); v1
theorem f_X10_isPlace_eq (x : Int32) (y : Int32) : f_X10_isPlace x y = (let v1 : Int32 := (if (f_X10_isLine x) = 0 then 0 else (if (f_X10_isWithin y 0 9) = 0 then 0 else 1)); v1) := rfl
theorem z_X10_isPlace (x : Int32) (y : Int32) : f_X10_isPlace x y = 0 ∨ f_X10_isPlace x y = 1 := (zo_ite (Or.inl rfl) (zo_ite (Or.inl rfl) (Or.inr rfl)))
set_option maxRecDepth 100000 in
set_option maxHeartbeats 4000000 in
theorem c_X10_isPlace (l : Launch) (D : va_G) (ad : Nat → Nat) (dA : Nat → ClassId) (z0 : Nat) (tt : Nat → Nat) (σ : Sg) (φ : Fl) (x : Int32) (y : Int32)  : MC l D ad dA z0 tt yX10_isPlace (Cond.code yX10_isPlace cX10_isPlace 2 (some .boolean) :: lw_all) { frames := 2, cells := 0, slots := 0, locals := 42 } [.int x, .int y] σ φ (Fn (some (.int (f_X10_isPlace x y))) σ φ) := by
  refine mk_MC (by decide) (Nat.le_of_ble_eq_true rfl) ?_
  intro K C hi hf hv
  change K σ φ 0 [(0, .int x), (1, .int y)] []
  refine g_iload_n C (i := 0) dX10_isPlace_0 rfl 0 rfl ?_
  refine g_callS C (st := []) (c_X10_isLine l D ad dA z0 tt σ φ x) rfl ml_X10_101 sm_X10_isLine in_X10 co_X10_isLine dyS_X10_isLine rfl rfl ⟨(Nat.le_of_ble_eq_true rfl), (Nat.le_of_ble_eq_true rfl)⟩ dX10_isPlace_1 rfl (Nat.le_of_ble_eq_true rfl) (g_fni ?_)
  have J2 : ∀ (v1 : Int32), (if (f_X10_isLine x) = 0 then 0 else (if (f_X10_isWithin y 0 9) = 0 then 0 else 1)) = v1 → K σ φ 22 [] [.int v1] := by
    intro v1 ev1
    have e0 : f_X10_isPlace x y = v1 := by
      subst ev1
      exact f_X10_isPlace_eq _ _
    exact hi _ _ _ _ _ _ rfl dX10_isPlace_22 (lv_narrowZ (show v1 = 0 ∨ v1 = 1 by rw [← ev1]; exact (zo_ite (Or.inl rfl) (zo_ite (Or.inl rfl) (Or.inr rfl))))).1 ⟨(congrArg (fun z => some (Value.int z)) e0).symm, rfl, rfl⟩
  refine g_if_eq C (tgt := 21) dX10_isPlace_4 (by decide) (fun h1 => ?_) (fun h1 => ?_)
  · refine g_iconst C (v := 0) dX10_isPlace_21 (by decide) ?_
    refine g_loc C [] rfl ?_
    exact J2 _ ((if_pos h1))
  · refine g_iload_n C (i := 1) dX10_isPlace_7 rfl 1 rfl ?_
    refine g_iconst C (v := 0) dX10_isPlace_8 (by decide) ?_
    refine g_bipush C (v := 9) dX10_isPlace_9 (by decide) ?_
    refine g_callS C (st := []) (c_X10_isWithin l D ad dA z0 tt σ φ y 0 9) rfl ml_X10_105 sm_X10_isWithin in_X10 co_X10_isWithin dyS_X10_isWithin rfl rfl ⟨(Nat.le_of_ble_eq_true rfl), (Nat.le_of_ble_eq_true rfl)⟩ dX10_isPlace_11 rfl (Nat.le_of_ble_eq_true rfl) (g_fni ?_)
    refine g_if_eq C (tgt := 21) dX10_isPlace_14 (by decide) (fun h2 => ?_) (fun h2 => ?_)
    · refine g_iconst C (v := 0) dX10_isPlace_21 (by decide) ?_
      refine g_loc C [] rfl ?_
      exact J2 _ (((if_neg h1).trans (if_pos h2)))
    · refine g_iconst C (v := 1) dX10_isPlace_17 (by decide) ?_
      refine g_goto C (tgt := 22) dX10_isPlace_18 (by decide) ?_
      refine g_loc C [] rfl ?_
      exact J2 _ (((if_neg h1).trans (if_neg h2)))
def f_X10_isPaint (y : Int32) (u : Int32) (v : Int32) : Int32 := let v1 : Int32 := (if (f_X10_isWithin y 0 200) = 0 then 0 else (if (f_X10_isWithin u (-60) 60) = 0 then 0 else (if (f_X10_isWithin v (-60) 60) = 0 then 0 else 1))); v1
theorem f_X10_isPaint_eq (y : Int32) (u : Int32) (v : Int32) : f_X10_isPaint y u v = (let v1 : Int32 := (if (f_X10_isWithin y 0 200) = 0 then 0 else (if (f_X10_isWithin u (-60) 60) = 0 then 0 else (if (f_X10_isWithin v (-60) 60) = 0 then 0 else 1))); v1) := rfl
theorem z_X10_isPaint (y : Int32) (u : Int32) (v : Int32) : f_X10_isPaint y u v = 0 ∨ f_X10_isPaint y u v = 1 := (zo_ite (Or.inl rfl) (zo_ite (Or.inl rfl) (zo_ite (Or.inl rfl) (Or.inr rfl))))
set_option maxRecDepth 100000 in
set_option maxHeartbeats 4000000 in
theorem c_X10_isPaint (l : Launch) (D : va_G) (ad : Nat → Nat) (dA : Nat → ClassId) (z0 : Nat) (tt : Nat → Nat) (σ : Sg) (φ : Fl) (y : Int32) (u : Int32) (v : Int32)  : MC l D ad dA z0 tt yX10_isPaint (Cond.code yX10_isPaint cX10_isPaint 3 (some .boolean) :: lw_all) { frames := 1, cells := 0, slots := 0, locals := 22 } [.int y, .int u, .int v] σ φ (Fn (some (.int (f_X10_isPaint y u v))) σ φ) := by
  refine mk_MC (by decide) (Nat.le_of_ble_eq_true rfl) ?_
  intro K C hi hf hv
  change K σ φ 0 [(0, .int y), (1, .int u), (2, .int v)] []
  refine g_iload_n C (i := 0) dX10_isPaint_0 rfl 0 rfl ?_
  refine g_iconst C (v := 0) dX10_isPaint_1 (by decide) ?_
  refine g_sipush C (v := 200) dX10_isPaint_2 (by decide) ?_
  refine g_callS C (st := []) (c_X10_isWithin l D ad dA z0 tt σ φ y 0 200) rfl ml_X10_105 sm_X10_isWithin in_X10 co_X10_isWithin dyS_X10_isWithin rfl rfl ⟨(Nat.le_of_ble_eq_true rfl), (Nat.le_of_ble_eq_true rfl)⟩ dX10_isPaint_5 rfl (Nat.le_of_ble_eq_true rfl) (g_fni ?_)
  have J2 : ∀ (v1 : Int32), (if (f_X10_isWithin y 0 200) = 0 then 0 else (if (f_X10_isWithin u (-60) 60) = 0 then 0 else (if (f_X10_isWithin v (-60) 60) = 0 then 0 else 1))) = v1 → K σ φ 38 [] [.int v1] := by
    intro v1 ev1
    have e0 : f_X10_isPaint y u v = v1 := by
      subst ev1
      exact f_X10_isPaint_eq _ _ _
    exact hi _ _ _ _ _ _ rfl dX10_isPaint_38 (lv_narrowZ (show v1 = 0 ∨ v1 = 1 by rw [← ev1]; exact (zo_ite (Or.inl rfl) (zo_ite (Or.inl rfl) (zo_ite (Or.inl rfl) (Or.inr rfl)))))).1 ⟨(congrArg (fun z => some (Value.int z)) e0).symm, rfl, rfl⟩
  refine g_if_eq C (tgt := 37) dX10_isPaint_8 (by decide) (fun h1 => ?_) (fun h1 => ?_)
  · refine g_iconst C (v := 0) dX10_isPaint_37 (by decide) ?_
    refine g_loc C [] rfl ?_
    exact J2 _ ((if_pos h1))
  · refine g_iload_n C (i := 1) dX10_isPaint_11 rfl 1 rfl ?_
    refine g_bipush C (v := (-60)) dX10_isPaint_12 (by decide) ?_
    refine g_bipush C (v := 60) dX10_isPaint_14 (by decide) ?_
    refine g_callS C (st := []) (c_X10_isWithin l D ad dA z0 tt σ φ u (-60) 60) rfl ml_X10_105 sm_X10_isWithin in_X10 co_X10_isWithin dyS_X10_isWithin rfl rfl ⟨(Nat.le_of_ble_eq_true rfl), (Nat.le_of_ble_eq_true rfl)⟩ dX10_isPaint_16 rfl (Nat.le_of_ble_eq_true rfl) (g_fni ?_)
    refine g_if_eq C (tgt := 37) dX10_isPaint_19 (by decide) (fun h2 => ?_) (fun h2 => ?_)
    · refine g_iconst C (v := 0) dX10_isPaint_37 (by decide) ?_
      refine g_loc C [] rfl ?_
      exact J2 _ (((if_neg h1).trans (if_pos h2)))
    · refine g_iload_n C (i := 2) dX10_isPaint_22 rfl 2 rfl ?_
      refine g_bipush C (v := (-60)) dX10_isPaint_23 (by decide) ?_
      refine g_bipush C (v := 60) dX10_isPaint_25 (by decide) ?_
      refine g_callS C (st := []) (c_X10_isWithin l D ad dA z0 tt σ φ v (-60) 60) rfl ml_X10_105 sm_X10_isWithin in_X10 co_X10_isWithin dyS_X10_isWithin rfl rfl ⟨(Nat.le_of_ble_eq_true rfl), (Nat.le_of_ble_eq_true rfl)⟩ dX10_isPaint_27 rfl (Nat.le_of_ble_eq_true rfl) (g_fni ?_)
      refine g_if_eq C (tgt := 37) dX10_isPaint_30 (by decide) (fun h3 => ?_) (fun h3 => ?_)
      · refine g_iconst C (v := 0) dX10_isPaint_37 (by decide) ?_
        refine g_loc C [] rfl ?_
        exact J2 _ (((if_neg h1).trans ((if_neg h2).trans (if_pos h3))))
      · refine g_iconst C (v := 1) dX10_isPaint_33 (by decide) ?_
        refine g_goto C (tgt := 38) dX10_isPaint_34 (by decide) ?_
        refine g_loc C [] rfl ?_
        exact J2 _ (((if_neg h1).trans ((if_neg h2).trans (if_neg h3))))
def f_X10_placeOf (x : Int32) (y : Int32) : Int32 := (x * 10) + y
theorem f_X10_placeOf_eq (x : Int32) (y : Int32) : f_X10_placeOf x y = ((x * 10) + y) := rfl
set_option maxRecDepth 100000 in
set_option maxHeartbeats 4000000 in
theorem c_X10_placeOf (l : Launch) (D : va_G) (ad : Nat → Nat) (dA : Nat → ClassId) (z0 : Nat) (tt : Nat → Nat) (σ : Sg) (φ : Fl) (x : Int32) (y : Int32)  : MC l D ad dA z0 tt yX10_placeOf (Cond.code yX10_placeOf cX10_placeOf 2 (some .int) :: lw_all) { frames := 0, cells := 0, slots := 0, locals := 0 } [.int x, .int y] σ φ (Fn (some (.int (f_X10_placeOf x y))) σ φ) := by
  refine mk_MC (by decide) (Nat.le_of_ble_eq_true rfl) ?_
  intro K C hi hf hv
  change K σ φ 0 [(0, .int x), (1, .int y)] []
  refine g_iload_n C (i := 0) dX10_placeOf_0 rfl 0 rfl ?_
  refine g_bipush C (v := 10) dX10_placeOf_1 (by decide) ?_
  refine g_imul C dX10_placeOf_3 ?_
  refine g_iload_n C (i := 1) dX10_placeOf_4 rfl 1 rfl ?_
  refine g_iadd C dX10_placeOf_5 ?_
  have e0 : f_X10_placeOf x y = (x * 10) + y := by
    exact f_X10_placeOf_eq _ _
  exact hi _ _ _ _ _ _ rfl dX10_placeOf_6 rfl ⟨(congrArg (fun z => some (Value.int z)) e0).symm, rfl, rfl⟩
def f_X10_turnAt (x : Int32) (k : Int32) : Int32 := (k + (2 * x)) &&& 3
theorem f_X10_turnAt_eq (x : Int32) (k : Int32) : f_X10_turnAt x k = ((k + (2 * x)) &&& 3) := rfl
set_option maxRecDepth 100000 in
set_option maxHeartbeats 4000000 in
theorem c_X10_turnAt (l : Launch) (D : va_G) (ad : Nat → Nat) (dA : Nat → ClassId) (z0 : Nat) (tt : Nat → Nat) (σ : Sg) (φ : Fl) (x : Int32) (k : Int32)  : MC l D ad dA z0 tt yX10_turnAt (Cond.code yX10_turnAt cX10_turnAt 2 (some .int) :: lw_all) { frames := 0, cells := 0, slots := 0, locals := 0 } [.int x, .int k] σ φ (Fn (some (.int (f_X10_turnAt x k))) σ φ) := by
  refine mk_MC (by decide) (Nat.le_of_ble_eq_true rfl) ?_
  intro K C hi hf hv
  change K σ φ 0 [(0, .int x), (1, .int k)] []
  refine g_iload_n C (i := 1) dX10_turnAt_0 rfl 1 rfl ?_
  refine g_iconst C (v := 2) dX10_turnAt_1 (by decide) ?_
  refine g_iload_n C (i := 0) dX10_turnAt_2 rfl 0 rfl ?_
  refine g_imul C dX10_turnAt_3 ?_
  refine g_iadd C dX10_turnAt_4 ?_
  refine g_iconst C (v := 3) dX10_turnAt_5 (by decide) ?_
  refine g_iand C dX10_turnAt_6 ?_
  have e0 : f_X10_turnAt x k = (k + (2 * x)) &&& 3 := by
    exact f_X10_turnAt_eq _ _
  exact hi _ _ _ _ _ _ rfl dX10_turnAt_7 rfl ⟨(congrArg (fun z => some (Value.int z)) e0).symm, rfl, rfl⟩
def f_X10_oneIf (x : Int32) : Int32 := let v1 : Int32 := (if x = 0 then 0 else 1); v1
theorem f_X10_oneIf_eq (x : Int32) : f_X10_oneIf x = (let v1 : Int32 := (if x = 0 then 0 else 1); v1) := rfl
set_option maxRecDepth 100000 in
set_option maxHeartbeats 4000000 in
theorem c_X10_oneIf (l : Launch) (D : va_G) (ad : Nat → Nat) (dA : Nat → ClassId) (z0 : Nat) (tt : Nat → Nat) (σ : Sg) (φ : Fl) (x : Int32)  : MC l D ad dA z0 tt yX10_oneIf (Cond.code yX10_oneIf cX10_oneIf 1 (some .int) :: lw_all) { frames := 0, cells := 0, slots := 0, locals := 0 } [.int x] σ φ (Fn (some (.int (f_X10_oneIf x))) σ φ) := by
  refine mk_MC (by decide) (Nat.le_of_ble_eq_true rfl) ?_
  intro K C hi hf hv
  change K σ φ 0 [(0, .int x)] []
  refine g_iload_n C (i := 0) dX10_oneIf_0 rfl 0 rfl ?_
  have J2 : ∀ (v1 : Int32), (if x = 0 then 0 else 1) = v1 → K σ φ 9 [] [.int v1] := by
    intro v1 ev1
    have e0 : f_X10_oneIf x = v1 := by
      subst ev1
      exact f_X10_oneIf_eq _
    exact hi _ _ _ _ _ _ rfl dX10_oneIf_9 rfl ⟨(congrArg (fun z => some (Value.int z)) e0).symm, rfl, rfl⟩
  refine g_if_eq C (tgt := 8) dX10_oneIf_1 (by decide) (fun h1 => ?_) (fun h1 => ?_)
  · refine g_iconst C (v := 0) dX10_oneIf_8 (by decide) ?_
    refine g_loc C [] rfl ?_
    exact J2 _ ((if_pos h1))
  · refine g_iconst C (v := 1) dX10_oneIf_4 (by decide) ?_
    refine g_goto C (tgt := 9) dX10_oneIf_5 (by decide) ?_
    refine g_loc C [] rfl ?_
    exact J2 _ ((if_neg h1))
end
